/-! THE ABSTRACT MACHINE'S PICTURE: cells by number, a memory of ints, a shape -/
abbrev Mem : Type := Nat → Nat → Int32
abbrev SE : Type := Nat × Nat × List (Option Nat)
def av (σ : Nat → Nat) (v : Value) : Value := match v with
  | .ref k => .ref (σ k)
  | w => w
theorem av_cat (σ : Nat → Nat) (v : Value) : (av σ v).category = v.category := by cases v <;> rfl
def isR (ci j : Nat) : Bool := (refF.getD ci []).getD j false
def fld (σ : Nat → Nat) (μ : Mem) (k : Nat) (e : SE) (j : Nat) : Value := if isR e.1 j = true then va_rf ((e.2.2.getD j none).map σ) else .int (μ k j)
def ent (σ : Nat → Nat) (D : va_G) (μ : Mem) (k : Nat) (e : SE) : va_E :=
  if e.1 = 100 ∨ e.1 = 102 then .inl (D.1 e.1, e.2.1, .inl (μ k))
  else if 100 < e.1 then .inl (D.1 e.1, e.2.1, .inr (.inr (.inr (.inr (fun j => (e.2.2.getD j none).map σ)))))
  else .inr (e.1, (List.range e.2.1).map (fld σ μ k e))
def wd (σ : Nat → Nat) (D : va_G) (Sh : List SE) (μ : Mem) : va_W := Sh.mapIdx (fun k e => (σ k, ent σ D μ k e))
def mset (μ : Mem) (k j : Nat) (v : Int32) : Mem := fun a b => if a = k ∧ b = j then v else μ a b
theorem wd_get (σ : Nat → Nat) (D : va_G) (Sh : List SE) (μ : Mem) (k : Nat) : (wd σ D Sh μ)[k]? = (Sh[k]?).map (fun e => (σ k, ent σ D μ k e)) := by
  unfold wd
  rw [List.getElem?_mapIdx]
theorem wd_at {σ : Nat → Nat} {D : va_G} {Sh : List SE} {μ : Mem} {k : Nat} {e : SE} (h : Sh[k]? = some e) : (wd σ D Sh μ)[k]? = some (σ k, ent σ D μ k e) := by
  rw [wd_get, h]; rfl
theorem wd_len (σ : Nat → Nat) (D : va_G) (Sh : List SE) (μ : Mem) : (wd σ D Sh μ).length = Sh.length := by
  unfold wd; simp
theorem ent_arrT {σ : Nat → Nat} {D : va_G} {μ : Mem} {k n t : Nat} {rs : List (Option Nat)} (h : t = 100 ∨ t = 102) : ent σ D μ k (t, n, rs) = .inl (D.1 t, n, .inl (μ k)) := if_pos h
theorem ent_rarrT {σ : Nat → Nat} {D : va_G} {μ : Mem} {k n t : Nat} {rs : List (Option Nat)} (h : t = 101 ∨ t = 103 ∨ t = 104) : ent σ D μ k (t, n, rs) = .inl (D.1 t, n, .inr (.inr (.inr (.inr (fun j => (rs.getD j none).map σ))))) := by
  unfold ent
  rw [if_neg (by show ¬ (t = 100 ∨ t = 102); omega), if_pos (by show 100 < t; omega)]
theorem ent_arr {σ : Nat → Nat} {D : va_G} {μ : Mem} {k n : Nat} {rs : List (Option Nat)} : ent σ D μ k (100, n, rs) = .inl (D.1 100, n, .inl (μ k)) := ent_arrT (Or.inl rfl)
theorem ent_rarr {σ : Nat → Nat} {D : va_G} {μ : Mem} {k n : Nat} {rs : List (Option Nat)} : ent σ D μ k (101, n, rs) = .inl (D.1 101, n, .inr (.inr (.inr (.inr (fun j => (rs.getD j none).map σ))))) := ent_rarrT (Or.inl rfl)
theorem ent_obj {σ : Nat → Nat} {D : va_G} {μ : Mem} {k : Nat} {e : SE} (h : e.1 < 100) : ent σ D μ k e = .inr (e.1, (List.range e.2.1).map (fld σ μ k e)) := by
  unfold ent
  rw [if_neg (by omega), if_neg (by omega)]
theorem mset_ne {μ : Mem} {k j a : Nat} {v : Int32} (h : a ≠ k) : mset μ k j v a = μ a := by
  funext b
  simp [mset, h]
theorem mset_eq {μ : Mem} {k j : Nat} {v : Int32} : mset μ k j v k = upd (μ k) j v := by
  funext b
  simp [mset, upd]
theorem ent_congr {σ : Nat → Nat} {D : va_G} {μ ν : Mem} {k : Nat} {e : SE} (h : μ k = ν k) : ent σ D μ k e = ent σ D ν k e := by
  unfold ent
  have hf : fld σ μ k e = fld σ ν k e := by
    funext j
    simp [fld, h]
  rw [h, hf]
theorem wd_ext {σ : Nat → Nat} {D : va_G} {Sh : List SE} {μ : Mem} {X : va_W} (h : ∀ k : Nat, X[k]? = (Sh[k]?).map (fun e => (σ k, ent σ D μ k e))) : X = wd σ D Sh μ := by
  refine List.ext_getElem? fun k => ?_
  rw [h k, wd_get]
theorem wd_setAT {σ : Nat → Nat} {D : va_G} {Sh : List SE} {μ : Mem} {k n j t : Nat} {rs : List (Option Nat)} {v : Int32} (ht : t = 100 ∨ t = 102) (h : Sh[k]? = some (t, n, rs)) : (wd σ D Sh μ).set k (σ k, .inl (D.1 t, n, .inl (upd (μ k) j v))) = wd σ D Sh (mset μ k j v) := by
  refine wd_ext fun i => ?_
  rw [List.getElem?_set]
  by_cases hi : k = i
  · subst hi
    rw [if_pos rfl, if_pos (by rw [wd_len]; exact (List.getElem?_eq_some_iff.mp h).1), h]
    simp only [Option.map_some, ent_arrT ht, mset_eq]
  · rw [if_neg hi, wd_get]
    cases Sh[i]? with
    | none => rfl
    | some e =>
      simp only [Option.map_some]
      rw [ent_congr (mset_ne (fun q => hi q.symm)).symm]
theorem wd_setA {σ : Nat → Nat} {D : va_G} {Sh : List SE} {μ : Mem} {k n j : Nat} {rs : List (Option Nat)} {v : Int32} (h : Sh[k]? = some (100, n, rs)) : (wd σ D Sh μ).set k (σ k, .inl (D.1 100, n, .inl (upd (μ k) j v))) = wd σ D Sh (mset μ k j v) := wd_setAT (Or.inl rfl) h
theorem fs_at {σ : Nat → Nat} {μ : Mem} {k n j : Nat} {e : SE} (hj : j < n) : ((List.range n).map (fld σ μ k e))[j]? = some (fld σ μ k e j) := by
  rw [List.getElem?_map, List.getElem?_range hj]; rfl
theorem wd_setI {σ : Nat → Nat} {D : va_G} {Sh : List SE} {μ : Mem} {k j : Nat} {e : SE} {v : Int32} (h : Sh[k]? = some e) (hc : e.1 < 100) (hr : isR e.1 j = false) (hj : j < e.2.1) : (wd σ D Sh μ).set k (σ k, .inr (e.1, ((List.range e.2.1).map (fld σ μ k e)).set j (.int v))) = wd σ D Sh (mset μ k j v) := by
  refine wd_ext fun i => ?_
  rw [List.getElem?_set]
  by_cases hi : k = i
  · subst hi
    rw [if_pos rfl, if_pos (by rw [wd_len]; exact (List.getElem?_eq_some_iff.mp h).1), h]
    simp only [Option.map_some, ent_obj hc]
    refine congrArg some (congrArg (Prod.mk _) (congrArg Sum.inr (congrArg (Prod.mk _) ?_)))
    refine List.ext_getElem? fun i => ?_
    rw [List.getElem?_set]
    by_cases hi : j = i
    · subst hi
      rw [if_pos rfl, if_pos (by simpa using hj), fs_at hj]
      simp [fld, hr, mset]
    · rw [if_neg hi]
      by_cases hl : i < e.2.1
      · rw [fs_at hl, fs_at hl]
        have hi2 : ¬ i = j := fun q => hi q.symm
        simp [fld, mset, hi2]
      · rw [List.getElem?_eq_none (by simpa using hl), List.getElem?_eq_none (by simpa using hl)]
  · rw [if_neg hi, wd_get]
    cases Sh[i]? with
    | none => rfl
    | some e =>
      simp only [Option.map_some]
      rw [ent_congr (mset_ne (fun q => hi q.symm)).symm]
theorem wd_setRo {σ : Nat → Nat} {D : va_G} {Sh : List SE} {μ : Mem} {k j n ci : Nat} {o : Option Nat} {rs : List (Option Nat)} (h : Sh[k]? = some (ci, n, rs)) (hc : ci < 100) (hr : isR ci j = true) (hj : j < n) (hl : j < rs.length) : (wd σ D Sh μ).set k (σ k, .inr (ci, ((List.range n).map (fld σ μ k (ci, n, rs))).set j (va_rf (o.map σ)))) = wd σ D (Sh.set k (ci, n, rs.set j o)) μ := by
  refine wd_ext fun i => ?_
  rw [List.getElem?_set, List.getElem?_set]
  by_cases hi : k = i
  · subst hi
    rw [if_pos rfl, if_pos (by rw [wd_len]; exact (List.getElem?_eq_some_iff.mp h).1), if_pos rfl, if_pos (List.getElem?_eq_some_iff.mp h).1]
    simp only [Option.map_some]
    rw [ent_obj (e := (ci, n, rs.set j o)) hc]
    refine congrArg some (congrArg (Prod.mk _) (congrArg Sum.inr (congrArg (Prod.mk _) ?_)))
    refine List.ext_getElem? fun i => ?_
    rw [List.getElem?_set]
    by_cases hi : j = i
    · subst hi
      rw [if_pos rfl, if_pos (by simpa using hj), fs_at hj]
      simp [fld, hr, List.getD, hl, va_rf]
    · rw [if_neg hi]
      by_cases hl : i < n
      · rw [fs_at hl, fs_at hl]
        simp [fld, List.getD, List.getElem?_set, hi]
      · rw [List.getElem?_eq_none (by simpa using hl), List.getElem?_eq_none (by simpa using hl)]
  · rw [if_neg hi, if_neg hi, wd_get]
theorem wd_setR {σ : Nat → Nat} {D : va_G} {Sh : List SE} {μ : Mem} {k j n ci r : Nat} {rs : List (Option Nat)} (h : Sh[k]? = some (ci, n, rs)) (hc : ci < 100) (hr : isR ci j = true) (hj : j < n) (hl : j < rs.length) : (wd σ D Sh μ).set k (σ k, .inr (ci, ((List.range n).map (fld σ μ k (ci, n, rs))).set j (.ref (σ r)))) = wd σ D (Sh.set k (ci, n, rs.set j (some r))) μ := wd_setRo (o := some r) h hc hr hj hl
theorem wd_push {σ : Nat → Nat} {D : va_G} {Sh : List SE} {μ : Mem} {q : Nat} {e : SE} {E : va_E} (hσ : ∀ (k : Nat) (a : SE), Sh[k]? = some a → ∀ j r, a.2.2.getD j none = some r → r < Sh.length) (hE : E = ent (fun j => if j = Sh.length then q else σ j) D μ Sh.length e) : wd σ D Sh μ ++ [(q, E)] = wd (fun j => if j = Sh.length then q else σ j) D (Sh ++ [e]) μ := by
  refine wd_ext fun i => ?_
  by_cases hi : i < Sh.length
  · rw [List.getElem?_append_left (by rw [wd_len]; exact hi), List.getElem?_append_left hi, wd_get]
    obtain ⟨a, ha⟩ : ∃ a, Sh[i]? = some a := ⟨_, List.getElem?_eq_getElem hi⟩
    have hr : ∀ j, (a.2.2.getD j none).map σ = (a.2.2.getD j none).map (fun j => if j = Sh.length then q else σ j) := by
      intro j
      cases hq : a.2.2.getD j none with
      | none => rfl
      | some r =>
        have := hσ i a ha j r hq
        simp [Nat.ne_of_lt this]
    rw [ha]
    simp only [Option.map_some]
    rw [if_neg (Nat.ne_of_lt hi)]
    refine congrArg some (congrArg (Prod.mk _) ?_)
    unfold ent fld
    simp only [hr]
  · rw [List.getElem?_append_right (by rw [wd_len]; omega), List.getElem?_append_right (by omega), wd_len]
    by_cases hj : i - Sh.length = 0
    · have : i = Sh.length := by omega
      subst this
      simp [hE]
    · rw [List.getElem?_eq_none (by simp; omega), List.getElem?_eq_none (by simp; omega)]
      rfl
/-! locals by position -/
def kil (o : Option Value) : Option Value := match o with
  | some (.long _) => none
  | some (.double _) => none
  | w => w
def lset : List (Option Value) → Nat → Value → List (Option Value)
  | [], _, _ => []
  | _ :: L, 0, v => some v :: L
  | o :: L, 1, v => kil o :: lset L 0 v
  | o :: L, i + 2, v => o :: lset L (i + 1) v
def lvR (σ : Nat → Nat) (ls : Array Slot) (nL : Nat) (L : List (Option Value)) : Prop := ls.size = nL ∧ lv_wf ls ∧ ∀ (i : Nat) (v : Value), L[i]? = some (some v) → ls[i]? = some (.val (av σ v))
def asc (σ : Nat → Nat) : Nat → List (Option Value) → List (Nat × Value)
  | _, [] => []
  | n, none :: L => asc σ (n + 1) L
  | n, some v :: L => (n, av σ v) :: asc σ (n + 1) L
theorem asc_of (σ : Nat → Nat) : ∀ (L : List (Option Value)) (n : Nat) (q : Nat × Value), q ∈ asc σ n L → ∃ (i : Nat) (v : Value), L[i]? = some (some v) ∧ q = (n + i, av σ v)
  | [], n, q, h => absurd h List.not_mem_nil
  | none :: L, n, q, h => by
    obtain ⟨i, v, h1, h2⟩ := asc_of σ L (n + 1) q h
    exact ⟨i + 1, v, by simpa using h1, by rw [h2]; congr 1; omega⟩
  | some w :: L, n, q, h => by
    rcases List.mem_cons.mp h with rfl | h
    · exact ⟨0, w, rfl, rfl⟩
    · obtain ⟨i, v, h1, h2⟩ := asc_of σ L (n + 1) q h
      exact ⟨i + 1, v, by simpa using h1, by rw [h2]; congr 1; omega⟩
theorem asc_in (σ : Nat → Nat) : ∀ (L : List (Option Value)) (n i : Nat) (v : Value), L[i]? = some (some v) → (n + i, av σ v) ∈ asc σ n L
  | [], n, i, v, h => by simp at h
  | none :: L, n, 0, v, h => by simp at h
  | none :: L, n, i + 1, v, h => by
    have := asc_in σ L (n + 1) i v (by simpa using h)
    rw [show n + (i + 1) = n + 1 + i by omega]; exact this
  | some w :: L, n, 0, v, h => by
    have : w = v := by simpa using h
    subst this
    exact List.mem_cons_self
  | some w :: L, n, i + 1, v, h => by
    have := asc_in σ L (n + 1) i v (by simpa using h)
    rw [show n + (i + 1) = n + 1 + i by omega]
    exact List.mem_cons_of_mem _ this
theorem lvR.has {σ : Nat → Nat} {ls : Array Slot} {nL : Nat} {L : List (Option Value)} (h : lvR σ ls nL L) : lv_has ls nL (asc σ 0 L) := by
  refine ⟨h.1, h.2.1, fun q hq => ?_⟩
  obtain ⟨i, v, h1, rfl⟩ := asc_of σ L 0 q hq
  have := h.2.2 i v h1
  simpa using this
theorem lset_get : ∀ (L : List (Option Value)) (i j : Nat) (v w : Value), (lset L i v)[j]? = some (some w) → (j = i ∧ w = v) ∨ (j ≠ i ∧ L[j]? = some (some w) ∧ ¬ (j + 1 = i ∧ w.category = 2))
  | [], i, j, v, w, h => by simp [lset] at h
  | o :: L, 0, 0, v, w, h => by
    simp [lset] at h
    exact Or.inl ⟨rfl, h.symm⟩
  | o :: L, 0, j + 1, v, w, h => by
    simp [lset] at h
    exact Or.inr ⟨by omega, by simpa using h, by omega⟩
  | o :: L, 1, 0, v, w, h => by
    simp only [lset, List.getElem?_cons_zero, Option.some.injEq] at h
    refine Or.inr ⟨by omega, ?_, ?_⟩
    · cases o with
      | none => simp [kil] at h
      | some u => cases u <;> simp [kil] at h <;> simp [h]
    · rintro ⟨-, hw⟩
      cases o with
      | none => simp [kil] at h
      | some u => cases u <;> simp [kil] at h <;> subst h <;> simp [Value.category] at hw
  | o :: L, 1, j + 1, v, w, h => by
    have h1 := lset_get L 0 j v w (by simpa [lset] using h)
    rcases h1 with ⟨a, b⟩ | ⟨a, b, -⟩
    · exact Or.inl ⟨by omega, b⟩
    · exact Or.inr ⟨by omega, by simpa using b, by omega⟩
  | o :: L, i + 2, 0, v, w, h => by
    refine Or.inr ⟨by omega, by simpa [lset] using h, by omega⟩
  | o :: L, i + 2, j + 1, v, w, h => by
    have h1 := lset_get L (i + 1) j v w (by simpa [lset] using h)
    rcases h1 with ⟨a, b⟩ | ⟨a, b, d⟩
    · exact Or.inl ⟨by omega, b⟩
    · exact Or.inr ⟨by omega, by simpa using b, fun q => d ⟨by omega, q.2⟩⟩
theorem lvR.set1 {σ : Nat → Nat} {ls' : Array Slot} {nL i : Nat} {L : List (Option Value)} {v : Value} (h : lv_has ls' nL ((i, av σ v) :: (asc σ 0 L).filter (fun q => !(q.1 == i) && !(q.1 + 1 == i && q.2.category == 2)))) : lvR σ ls' nL (lset L i v) := by
  refine ⟨h.1, h.2.1, fun j w hj => ?_⟩
  rcases lset_get L i j v w hj with ⟨rfl, rfl⟩ | ⟨h1, h2, h3⟩
  · exact h.2.2 _ List.mem_cons_self
  · refine h.2.2 (j, av σ w) (List.mem_cons_of_mem _ (List.mem_filter.mpr ⟨?_, ?_⟩))
    · have := asc_in σ L 0 j w h2
      simpa using this
    · simp only [av_cat, Bool.and_eq_true, Bool.not_eq_true', beq_eq_false_iff_ne, ne_eq, Bool.and_eq_false_iff]
      refine ⟨h1, ?_⟩
      by_cases q : j + 1 = i
      · exact Or.inr (fun z => h3 ⟨q, z⟩)
      · exact Or.inl q
def lset2 (L : List (Option Value)) (i : Nat) (v : Value) : List (Option Value) := (lset L i v).set (i + 1) none
theorem lvR.set2 {σ : Nat → Nat} {ls' : Array Slot} {nL i : Nat} {L : List (Option Value)} {v : Value} (h : lv_has ls' nL ((i, av σ v) :: (asc σ 0 L).filter (fun q => !(q.1 == i) && (!(q.1 == i + 1) && !(q.1 + 1 == i && q.2.category == 2))))) : lvR σ ls' nL (lset2 L i v) := by
  refine ⟨h.1, h.2.1, fun j w hj => ?_⟩
  unfold lset2 at hj
  rw [List.getElem?_set] at hj
  by_cases hji : i + 1 = j
  · rw [if_pos hji] at hj
    split at hj <;> simp at hj
  · rw [if_neg hji] at hj
    rcases lset_get L i j v w hj with ⟨rfl, rfl⟩ | ⟨h1, h2, h3⟩
    · exact h.2.2 _ List.mem_cons_self
    · refine h.2.2 (j, av σ w) (List.mem_cons_of_mem _ (List.mem_filter.mpr ⟨?_, ?_⟩))
      · have := asc_in σ L 0 j w h2
        simpa using this
      · simp only [av_cat, Bool.and_eq_true, Bool.not_eq_true', beq_eq_false_iff_ne, ne_eq, Bool.and_eq_false_iff]
        refine ⟨h1, fun q => hji q.symm, ?_⟩
        by_cases q : j + 1 = i
        · exact Or.inr (fun z => h3 ⟨q, z⟩)
        · exact Or.inl q
theorem lvR.less {σ : Nat → Nat} {ls : Array Slot} {nL : Nat} {L L' : List (Option Value)} (h : lvR σ ls nL L) (hl : ∀ (i : Nat) (v : Value), L'[i]? = some (some v) → L[i]? = some (some v)) : lvR σ ls nL L' := ⟨h.1, h.2.1, fun i v q => h.2.2 i v (hl i v q)⟩
theorem lvR.at {σ : Nat → Nat} {ls : Array Slot} {nL : Nat} {L : List (Option Value)} (h : lvR σ ls nL L) {i : Nat} {v : Value} (hi : L[i]? = some (some v)) : ls[i]? = some (.val (av σ v)) := h.2.2 i v hi
def agr (n n' : Nat) (σ σ' : Nat → Nat) : Prop := (∀ j, j < n ∨ 1000000 ≤ j → σ' j = σ j) ∧ (n' = n → σ' = σ)
theorem lvR.moved {σ σ' : Nat → Nat} {ls : Array Slot} {nL : Nat} {L : List (Option Value)} (h : lvR σ ls nL L) (hr : ∀ (i k : Nat), L[i]? = some (some (.ref k)) → σ' k = σ k) : lvR σ' ls nL L := by
  refine ⟨h.1, h.2.1, fun i v q => ?_⟩
  rw [h.2.2 i v q]
  cases v <;> try rfl
  simp [av, hr i _ q]
