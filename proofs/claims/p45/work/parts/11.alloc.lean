/-! making cells: constructors -/
def mnew (μ : Mem) (n : Nat) : Mem := fun a j => if a = n then 0 else μ a j
def wfS (Sh : List SE) : Prop := ∀ (k : Nat) (a : SE), Sh[k]? = some a → ∀ j r, a.2.2.getD j none = some r → r < Sh.length
def wfSb (Sh : List SE) : Bool := Sh.all (fun e => e.2.2.all (fun o => match o with
  | some r => decide (r < Sh.length)
  | none => true))
theorem wfS_of {Sh : List SE} (h : wfSb Sh = true) : wfS Sh := by
  intro k a ha j r hr
  have h1 := List.all_eq_true.mp h a (List.mem_of_getElem? ha)
  rw [List.getD_eq_getElem?_getD] at hr
  cases hq : a.2.2[j]? with
  | none => rw [hq] at hr; cases hr
  | some o =>
    rw [hq] at hr
    have ho : o = some r := hr
    subst ho
    have h2 := List.all_eq_true.mp h1 _ (List.mem_of_getElem? hq)
    exact of_decide_eq_true h2
def okv (n : Nat) (v : Value) : Bool := match v with
  | .ref k => decide (k < n) || decide (1000000 ≤ k)
  | _ => true
def okRb (n : Nat) (L : List (Option Value)) (st : List Value) : Bool := L.all (fun o => match o with
  | some v => okv n v
  | none => true) && st.all (okv n)
theorem okR_of {n : Nat} {L : List (Option Value)} {st : List Value} (h : okRb n L st = true) : okR n L st := by
  simp only [okRb, Bool.and_eq_true] at h
  refine ⟨fun i k hk => ?_, fun k hk => ?_⟩
  · have := List.all_eq_true.mp h.1 _ (List.mem_of_getElem? hk)
    simpa [okv] using this
  · have := List.all_eq_true.mp h.2 _ hk
    simpa [okv] using this
theorem wd_cm {σ : Nat → Nat} {D : va_G} {Sh : List SE} {μ ν : Mem} (h : ∀ k, k < Sh.length → μ k = ν k) : wd σ D Sh μ = wd σ D Sh ν := by
  refine wd_ext fun i => ?_
  rw [wd_get]
  cases hi : Sh[i]? with
  | none => rfl
  | some e =>
    have hl : i < Sh.length := (List.getElem?_eq_some_iff.mp hi).1
    simp only [Option.map_some]
    rw [ent_congr (h i hl)]
theorem mnew_ne {μ : Mem} {n k : Nat} (h : k ≠ n) : mnew μ n k = μ k := by
  funext j
  simp [mnew, h]
theorem mnew_eq {μ : Mem} {n : Nat} : mnew μ n n = fun _ => 0 := by
  funext j
  simp [mnew]
theorem ssz_app : ∀ (A B : List SE), ssz (A ++ B) = ssz A + ssz B
  | [], B => by simp [ssz]
  | e :: A, B => by
    simp only [List.cons_append, ssz, ssz_app A B]
    omega
theorem wd_push' {σ : Nat → Nat} {D : va_G} {Sh : List SE} {μ : Mem} {q : Nat} {e : SE} {E : va_E} (hw : wfS Sh) (hE : E = ent (fun j => if j = Sh.length then q else σ j) D (mnew μ Sh.length) Sh.length e) : wd σ D Sh μ ++ [(q, E)] = wd (fun j => if j = Sh.length then q else σ j) D (Sh ++ [e]) (mnew μ Sh.length) := by
  rw [wd_cm (μ := μ) (ν := mnew μ Sh.length) (fun k hk => (mnew_ne (Nat.ne_of_lt hk)).symm)]
  exact wd_push hw hE
section ALLOC
variable {SX : SXT} {Sh' Sh : List SE} {d : Nat} {M : MD} {pc : Nat} {L : List (Option Value)} {st : List Value} {μ : Mem} {x x' : Ans} {own : String} {idx : Nat}
theorem ok_shape {S2 : List SE} (h : Sh = S2) (k : Ok SX Sh' d M pc L st S2 μ x) : Ok SX Sh' d M pc L st Sh μ x := by subst h; exact k
theorem ok_eqx (h : x' = x) (k : Ok SX Sh' d M pc L st Sh μ x') : Ok SX Sh' d M pc L st Sh μ x := by subst h; exact k
/-- the machine has made a cell -/
theorem Ok.grow {n N : Nat} {st' : List Value} {e0 : SE} (hN : e0.2.1 = N) (hz : csz Sh + 1 ≤ csz Sh' ∧ ssz Sh + N ≤ ssz Sh') (hs : Sh.length < 1000000) (hok : okR (csz Sh) L st') (hw : wfS Sh)
    (g : ∀ {p : Program} {l : Launch} {e : Env} {R : Room} {s : State} {m : MethodId} {args : Array Value} {below : List Frame} {meth : Method} {c : Code} {H : Heap} {locs : List Loc} {cells slots : Nat} {Q : State → Prop} {D : va_G} {σ : Nat → Nat} {A : Nat → Prop} {ls : Array Slot},
      Ctx M p s m args meth c D σ → (∀ q : Nat, s.heap.size ≤ q → A q) → va_P D vwCl (wd σ D Sh μ) H → va_D A (wd σ D Sh μ) → va_S A s.heap H locs → lvR σ ls M.2.2.1 L → cells + 1 ≤ R.cells → slots + N ≤ R.slots →
      (∀ (q : Nat) (E : va_E) (H1 : Heap), (∀ σ' : Nat → Nat, E = ent σ' D (mnew μ Sh.length) Sh.length e0) → va_P D vwCl (wd σ D Sh μ ++ [(q, E)]) H1 → va_D A (wd σ D Sh μ ++ [(q, E)]) → va_S A s.heap H1 locs → W p l e R s m args below meth c H1 locs (cells + 1) (slots + N) Q (F0 m n ls (.ref q :: st'.map (av σ)))) →
      W p l e R s m args below meth c H locs cells slots Q (F0 m pc ls (st.map (av σ))))
    (k : Ok SX Sh' d M n L (.ref Sh.length :: st') (Sh ++ [e0]) (mnew μ Sh.length) x) : Ok SX Sh' d M pc L st Sh μ x := by
  intro v μ' hx p l e R s m args below meth c H locs cells slots Q D σ A mc ms ls C Z hA hR hP hD hS hL h1 h2 hQ
  obtain ⟨r1, r2, r3, r4⟩ := id hR
  have hcz : csz (Sh ++ [e0]) = csz Sh + 1 := by simp [csz]
  have hsz : ssz (Sh ++ [e0]) = ssz Sh + N := by rw [ssz_app]; simp [ssz, hN]
  refine g C hA hP hD hS hL (by omega) (by omega) (fun q E H1 hE hP1 hD1 hS1 => ?_)
  have hag : agr (csz Sh) (csz Sh') σ (fun j => if j = Sh.length then q else σ j) := by
    refine ⟨fun j hj => ?_, fun z => by omega⟩
    have hne : ¬ j = Sh.length := by
      intro e
      rcases hj with h | h
      · unfold csz at h; omega
      · omega
    simp [hne]
  have hb : ∀ j, 1000000 ≤ j → (fun j => if j = Sh.length then q else σ j) j = σ j := fun j hj => hag.1 j (Or.inr hj)
  rw [wd_push' hw (hE _)] at hP1 hD1
  have hst : st'.map (av (fun j => if j = Sh.length then q else σ j)) = st'.map (av σ) := hok.st hag
  have := k v μ' hx p l e R s m args below meth c H1 locs (cells + 1) (slots + N) Q D (fun j => if j = Sh.length then q else σ j) A mc ms ls ⟨C.1, C.2.1, C.2.2.1, C.2.2.2.1, C.2.2.2.2.1, C.2.2.2.2.2.1, C.2.2.2.2.2.2.1, C.2.2.2.2.2.2.2.1.agr hb, C.2.2.2.2.2.2.2.2⟩ (Z.agr hb) hA hR hP1 hD1 hS1 (hL.moved (fun i k hk => hag.1 k (hok.1 i k hk))) (by omega) (by omega) (fun H' locs' ls' σ' pcr ha' => hQ H' locs' ls' σ' pcr ⟨fun j hj => (ha'.1 j (by rw [hcz]; omega)).trans (hag.1 j hj), fun z => by omega⟩)
  simp only [List.map_cons, av, if_pos] at this
  rw [hst] at this
  exact this
theorem ok_new {ci N : Nat} {ty : Nat → FieldType} (n : Nat) (hd : decode M.1 pc = .ok (.new idx, 3)) (hp : pc + 3 = n) (ho : M.2.1.cls = own) (hcl : Cond.classLink own idx (vwC ci).1 ∈ TB) (hin : Cond.instantiable (vwC ci).1 N ∈ TB) (hini : Cond.initialized (vwC ci).1 ∈ TB) (hci : ci < 15) (hN : (vwC ci).2.2 = N) (hty : ∀ k, k < N → parseFieldDescriptor ((vwC ci).2.1 k).2.2.1 = some (ty k)) (hdv : ∀ j, j < N → defaultValue (ty j) = if isR ci j = true then .null else .int 0) (hz : csz Sh + 1 ≤ csz Sh' ∧ ssz Sh + N ≤ ssz Sh') (hs : Sh.length < 1000000) (hok : okRb (csz Sh) L st = true) (hw : wfSb Sh = true)
    (k : Ok SX Sh' d M n L (.ref Sh.length :: st) (Sh ++ [(ci, N, List.replicate N none)]) (mnew μ Sh.length) x) : Ok SX Sh' d M pc L st Sh μ x := by
  subst hp; subst ho
  obtain ⟨k1, k2, -, k4⟩ := kc ci hci
  rw [hN] at k2
  refine Ok.grow (e0 := (ci, N, List.replicate N none)) rfl hz hs (okR_of hok) (wfS_of hw) (fun {_ _ _ _ _ _ _ _ _ _ _ _ _ _ _ D σ _ _} C hA hP hD hS hL r3 r4 kk => ?_) k
  have hc : vwCl[ci]? = some ((vwC ci).1, (vwC ci).2.1, N) := by rw [k1, ← hN]
  refine va_new C.1 C.2.1 C.2.2.2.2.1 k2 ty hty C.2.2.2.1 (C.2.2.2.2.1 _ hcl) (C.2.2.2.2.1 _ hin) (C.2.2.2.2.1 _ hini) C.2.2.2.2.2.1 hP hD hS hA hc (fs := (List.range N).map (fld (fun j => j) (mnew μ Sh.length) Sh.length (ci, N, List.replicate N none))) (fun j hj => ?_) r3 r4 hd (fun q H1 g1 g2 g3 => kk q _ H1 (fun σ' => ?_) g1 g2 g3)
  · rw [hdv j hj]
    unfold vp_V
    rw [List.getD_eq_getElem?_getD, fs_at hj]
    simp only [fld, Option.getD_some]
    split
    · have : (List.replicate N (none : Option Nat)).getD j none = none := by
        rw [List.getD_eq_getElem?_getD, List.getElem?_replicate]
        split <;> rfl
      rw [this]; rfl
    · rw [mnew_eq]
  · rw [ent_obj (show ci < 100 by omega)]
    refine congrArg Sum.inr (congrArg (Prod.mk _) ?_)
    refine List.map_congr_left fun j _ => ?_
    have : (List.replicate N (none : Option Nat)).getD j none = none := by
      rw [List.getD_eq_getElem?_getD, List.getElem?_replicate]
      split <;> rfl
    simp only [fld, this]
    rfl
theorem ok_newa {N : Nat} {a : Int32} (n : Nat) (hd : decode M.1 pc = .ok (.newarray .int, 2)) (hp : pc + 2 = n) (ha : a.toNatClampNeg = N) (hneg : ¬ a < 0) (hb : N * 4 ≤ 536870912) (hz : csz Sh + 1 ≤ csz Sh' ∧ ssz Sh + N ≤ ssz Sh') (hs : Sh.length < 1000000) (hok : okRb (csz Sh) L st = true) (hw : wfSb Sh = true)
    (k : Ok SX Sh' d M n L (.ref Sh.length :: st) (Sh ++ [(100, N, [])]) (mnew μ Sh.length) x) : Ok SX Sh' d M pc L (.int a :: st) Sh μ x := by
  subst hp
  refine Ok.grow (e0 := (100, N, [])) rfl hz hs (okR_of hok) (wfS_of hw) (fun {_ _ _ _ _ _ _ _ _ _ _ _ _ _ _ D σ _ _} C hA hP hD hS hL r3 r4 kk => ?_) k
  refine va_newa (ty := .int) (N' := N) (a0 := (N, .inl (fun _ => 0))) C.1 C.2.1 (atype := .int) (C.2.2.2.2.1 _ ac_int) rfl C.2.2.2.2.2.1 hP hD hS hA (fun cA => rfl) hneg ha hb r3 r4 hd (fun q cA H1 gK g1 g2 g3 => ?_)
  have e1 := (gK.2 5 (cA, .int) rfl).2
  have e2 := (gK.2 0 (D.1 100, .int) rfl).2
  have e3 : cA = D.1 100 := Option.some.inj (Eq.trans (Eq.symm e1) e2)
  subst e3
  refine kk q _ H1 (fun σ' => ?_) g1 g2 g3
  rw [ent_arr, mnew_eq]
theorem ok_newq {N : Nat} {a : Int32} (n : Nat) (hd : decode M.1 pc = .ok (.anewarray idx, 3)) (hp : pc + 3 = n) (ho : M.2.1.cls = own) (hcl : Cond.classLink own idx "Encores$Moment" ∈ TB) (ha : a.toNatClampNeg = N) (hneg : ¬ a < 0) (hb : N * 4 ≤ 536870912) (hz : csz Sh + 1 ≤ csz Sh' ∧ ssz Sh + N ≤ ssz Sh') (hs : Sh.length < 1000000) (hok : okRb (csz Sh) L st = true) (hw : wfSb Sh = true)
    (k : Ok SX Sh' d M n L (.ref Sh.length :: st) (Sh ++ [(101, N, List.replicate N none)]) (mnew μ Sh.length) x) : Ok SX Sh' d M pc L (.int a :: st) Sh μ x := by
  subst hp; subst ho
  refine Ok.grow (e0 := (101, N, List.replicate N none)) rfl hz hs (okR_of hok) (wfS_of hw) (fun {_ _ _ _ _ _ _ _ _ _ _ _ _ _ _ D σ _ _} C hA hP hD hS hL r3 r4 kk => ?_) k
  refine va_newq C.1 C.2.1 C.2.2.2.1 (C.2.2.2.2.1 _ hcl) C.2.2.2.2.2.2.2.2.2.2.1 C.2.2.2.2.2.1 hP hD hS hA hneg ha hb r3 r4 hd (fun q cA H1 gK g1 g2 g3 => ?_)
  have e3 : cA = D.1 101 := by
    obtain ⟨-, -, -, -, -, e1⟩ := (gK.2 5 (cA, .object "Encores$Moment") rfl).2
    obtain ⟨-, -, -, -, -, e2⟩ := (gK.2 1 (D.1 101, .object "Encores$Moment") rfl).2
    exact Option.some.inj (Eq.trans (Eq.symm e1) e2)
  subst e3
  refine kk q _ H1 (fun σ' => ?_) g1 g2 g3
  rw [ent_rarr]
  refine congrArg Sum.inl (congrArg (Prod.mk _) (congrArg (Prod.mk _) (congrArg Sum.inr (congrArg Sum.inr (congrArg Sum.inr (congrArg Sum.inr ?_))))))
  funext j
  have : (List.replicate N (none : Option Nat)).getD j none = none := by
    rw [List.getD_eq_getElem?_getD, List.getElem?_replicate]
    split <;> rfl
  rw [this]; rfl
theorem ok_aast {N r v : Nat} {rs : List (Option Nat)} {e1 : SE} {i : Int32} (n k0 : Nat) (hd : decode M.1 pc = .ok (.aastore, 1)) (hp : pc + 1 = n) (hS : Sh[r]? = some (101, N, rs)) (hV : Sh[v]? = some e1) (he : e1.1 = 3) (hi : i.toNatClampNeg = k0) (hin : inb i N = true) (hl : k0 < rs.length)
    (k : Ok SX Sh' d M n L st (Sh.set r (101, N, rs.set k0 (some v))) μ x) : Ok SX Sh' d M pc L (.ref v :: .int i :: .ref r :: st) Sh μ x := by
  subst hp; subst hi
  refine Ok.put (Sh2 := Sh.set r (101, N, rs.set i.toNatClampNeg (some v))) (by simp [csz]) (ssz_set _ _ _ _ hS rfl) (fun {_ _ _ _ _ _ _ _ _ _ _ _ _ _ _ D σ _ _} C hP hD hS0 _ kk => ?_) k
  refine va_astq C.1 C.2.1 C.2.2.2.2.2.1 hP hD hS0 r 1 v 3 (cA := D.1 101) (r := vwC 3) (wd_at hS) rfl ((wd_at hV).trans (by rw [ent_obj (show e1.1 < 100 by omega), he])) (kc 3 (by decide)).1 (inb_in hin) hd (fun H1 locs1 g1 g2 g3 => ?_)
  have : (wd σ D Sh μ).set r (σ r, .inl (D.1 101, N, .inr (.inr (.inr (.inr (va_up (fun j => (rs.getD j none).map σ) i.toNatClampNeg (some (σ v)))))))) = wd σ D (Sh.set r (101, N, rs.set i.toNatClampNeg (some v))) μ := by
    refine wd_ext fun j => ?_
    rw [List.getElem?_set, List.getElem?_set]
    by_cases hj : r = j
    · subst hj
      rw [if_pos rfl, if_pos (by rw [wd_len]; exact (List.getElem?_eq_some_iff.mp hS).1), if_pos rfl, if_pos (List.getElem?_eq_some_iff.mp hS).1]
      simp only [Option.map_some]
      rw [ent_rarr]
      refine congrArg some (congrArg (Prod.mk _) (congrArg Sum.inl (congrArg (Prod.mk _) (congrArg (Prod.mk _) (congrArg Sum.inr (congrArg Sum.inr (congrArg Sum.inr (congrArg Sum.inr ?_))))))))
      funext b
      unfold va_up
      by_cases hb : b = i.toNatClampNeg
      · subst hb
        simp [List.getD, hl]
      · have : ¬ i.toNatClampNeg = b := fun e => hb e.symm
        simp [hb, List.getD, List.getElem?_set, this]
    · rw [if_neg hj, if_neg hj, wd_get]
  rw [this] at g1 g2
  exact kk H1 locs1 g1 g2 g3
theorem ok_objInit {r : Nat} (n : Nat) (hz : csz Sh ≤ csz Sh' ∧ ssz Sh ≤ ssz Sh') (hd : decode M.1 pc = .ok (.invokespecial idx, 3)) (hp : pc + 3 = n) (ho : M.2.1.cls = own) (hl : Cond.methodLink own idx Lib.objectInit ∈ TB) (hst : (st.map Value.category).sum ≤ 8) (k : Ok SX Sh' (d + 1) M n L st Sh μ x) : Ok SX Sh' (d + 1) M pc L (.ref r :: st) Sh μ x := by
  subst hp; subst ho
  refine Ok.goD (fun {_ _ _ _ _ _ _ _ _ _ _ _ _ _ _ _ σ ls} C hL r1 r2 r3 r4 kk => ?_) hz k
  have hw := C.2.2.2.2.1
  have := st8 (σ := σ) hst
  exact W.objInit C.1 C.2.1 C.2.2.2.1 (hw _ hl) (hw _ oi_inst) (hw _ oi_code) rfl (hL.1.trans C.2.2.1.symm) rfl hd r1 (by show 2 * 0 + _ + 12 ≤ _; omega) kk
end ALLOC
