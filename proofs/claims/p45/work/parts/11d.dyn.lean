section DYN3
variable {SX : SXT} {d : Nat} {M : MD} {pc : Nat} {L : List (Option Value)} {st : List Value} {h : DS} {x x1 x2 : DA} {a b i : Int32} {r r2 : Nat} {w w2 : Value} {own : String} {idx ci j : Nat}
theorem ent_up {σ : Nat → Nat} {D : va_G} {Sh : List SE} {μ : Mem} {k t n j v : Nat} {rs : List (Option Nat)} (ht : t = 101 ∨ t = 103 ∨ t = 104) (h : Sh[k]? = some (t, n, rs)) (hl : j < rs.length) : (wd σ D Sh μ).set k (σ k, .inl (D.1 t, n, .inr (.inr (.inr (.inr (va_up (fun j => (rs.getD j none).map σ) j (some (σ v)))))))) = wd σ D (Sh.set k (t, n, rs.set j (some v))) μ := by
  refine wd_ext fun i => ?_
  rw [List.getElem?_set, List.getElem?_set]
  by_cases hj : k = i
  · subst hj
    rw [if_pos rfl, if_pos (by rw [wd_len]; exact (List.getElem?_eq_some_iff.mp h).1), if_pos rfl, if_pos (List.getElem?_eq_some_iff.mp h).1]
    simp only [Option.map_some]
    rw [ent_rarrT ht]
    refine congrArg some (congrArg (Prod.mk _) (congrArg Sum.inl (congrArg (Prod.mk _) (congrArg (Prod.mk _) (congrArg Sum.inr (congrArg Sum.inr (congrArg Sum.inr (congrArg Sum.inr ?_))))))))
    funext b
    unfold va_up
    by_cases hb : b = j
    · subst hb
      simp [List.getD, hl]
    · have : ¬ j = b := fun e => hb e.symm
      simp [hb, List.getD, List.getElem?_set, this]
  · rw [if_neg hj, if_neg hj, wd_get]
theorem dk_aast (t n : Nat) {v : Nat} {f : DS → DA} (ht : t = 103 ∨ t = 104) (hd : decode M.1 pc = .ok (.aastore, 1)) (hp : pc + 1 = n) (k : ∀ h1, sQ h t r i v = some h1 → DOk SX d M n L st h1 (f h1)) : DOk SX d M pc L (.ref v :: .int i :: .ref r :: st) h (bo (sQ h t r i v) f) :=
  DOk.wr (fun h1 hy hl _ => by
    obtain ⟨N, rs, e1, q1, q2, q3, q4, q5, q6, rfl⟩ := sQ_some hy
    refine ⟨lk_set hl q5 (fun k q hq => ?_), by simp [csz], ssz_set _ _ _ _ q1 rfl, fun q => ?_⟩
    · rcases getD_set_some hq with z | z
      · cases z
        exact (List.getElem?_eq_some_iff.mp q2).1
      · exact hl.2.2.1 _ _ q1 k q z
    · subst hp
      refine Ok.put (Sh2 := h.2.1.set r (t, N, rs.set i.toNatClampNeg (some v))) (by simp [csz]) (ssz_set _ _ _ _ q1 rfl) (fun {_ _ _ _ _ _ _ _ _ _ _ _ _ _ _ D σ A _} C hP hD hS0 _ kk => ?_) q
      rcases ht with rfl | rfl
      · have hK := C.2.2.2.2.2.1
        obtain ⟨comp, cB, kB, b1, -, b3, b4, b5⟩ := arrayOverA_spec (va_AOI.use (A := #[]) C.2.2.2.2.2.2.2.2.2.2.2.2.1)
        have z103 := (hK.2 3 _ rfl).2
        have z100 := (hK.2 0 _ rfl).2
        have c1 : cB = D.1 103 := Option.some.inj (b5.symm.trans z103)
        have c2 : comp = D.1 100 := Option.some.inj (b1.symm.trans z100)
        subst c1; subst c2
        have ev : e1 = (100, e1.2.1, e1.2.2) := by rw [show (100 : Nat) = e1.1 from q3.symm]
        rw [ev] at q2
        obtain ⟨-, k0, hk0, -⟩ := (hK.2 0 _ rfl).1 e1.2.1 (fun j => .int (h.2.2 v j))
        have hv := hP v _ (wd_atA (Or.inl rfl) q2)
        have hlt : i.toNatClampNeg < N := Nat.not_le.mp fun q => inb_in q4 (Or.inr q)
        refine W.aast C.1 C.2.1 (hP r _ (wd_atQ (Or.inr (Or.inl rfl)) q1)) (fun q h => by cases h) (fun h => by cases h) b3 b4 rfl hk0 ⟨fun q => inb_in q4 (Or.inl q), by show _ < (arrV _ _ _).slots.size; rw [arrV_size]; exact hlt⟩ hv (fun q h => by cases h) hk0 (by
          show Vm.assignableAux _ (255 + 1) (D.1 100) (D.1 100) = true
          rw [Vm.assignableAux, Bool.or_eq_true, beq_iff_eq]
          exact Or.inl rfl) rfl rfl hd fun H1 e z oq => ?_
        have hat : va_at D vwCl (σ r, .inl (D.1 103, N, .inr (.inr (.inr (.inr (va_up (fun j => (rs.getD j none).map σ) i.toNatClampNeg (some (σ v)))))))) H1 := by
          show H1[σ r]? = some (vp_cell _ _)
          rw [e]
          rw [vp_cell_q, vp_cell_q, arrV_store]
          congr 2
          funext q
          by_cases hq : q = i.toNatClampNeg
          · subst hq
            simp [updV, va_up, va_rf]
          · simp [updV, va_up, hq]
        have g1 := hP.set hD (wd_atQ (Or.inr (Or.inl rfl)) q1) hat oq
        have g2 := hD.set (e := .inl (D.1 103, N, .inr (.inr (.inr (.inr (va_up (fun j => (rs.getD j none).map σ) i.toNatClampNeg (some (σ v)))))))) (wd_atQ (Or.inr (Or.inl rfl)) q1)
        rw [ent_up (Or.inr (Or.inl rfl)) q1 q6] at g1 g2
        exact kk H1 _ g1 g2 (hS0.put z oq (hD.2 r _ (wd_at q1)))
      · refine va_astq C.1 C.2.1 C.2.2.2.2.2.1 hP hD hS0 r 4 v 12 (cA := D.1 104) (r := vwC 12) (wd_atQ (Or.inr (Or.inr rfl)) q1) rfl ((wd_at q2).trans (by rw [ent_obj (show e1.1 < 100 by rw [q3]; decide), q3]; rfl)) (kc 12 (by decide)).1 (inb_in q4) hd (fun H1 locs1 g1 g2 g3 => ?_)
        rw [ent_up (Or.inr (Or.inr rfl)) q1 q6] at g1 g2
        exact kk H1 locs1 g1 g2 g3) (fun _ q => oR_t (oR_2 q)) k
/-! making -/
theorem wfS_app {Sh : List SE} {e : SE} (hw : wfS Sh) (he : ∀ j q, e.2.2.getD j none ≠ some q) : wfS (Sh ++ [e]) := by
  intro k a hk j q hq
  rw [List.length_append]
  by_cases hk2 : k < Sh.length
  · rw [List.getElem?_append_left hk2] at hk
    exact Nat.lt_of_lt_of_le (hw k a hk j q hq) (Nat.le_add_right _ _)
  · rw [List.getElem?_append_right (by omega)] at hk
    have hz : k - Sh.length < 1 := (List.getElem?_eq_some_iff.mp hk).1
    rw [show k - Sh.length = 0 by omega] at hk
    cases hk
    exact absurd hq (he j q)
def addC (h : DS) (e : SE) (f : Nat → Int32) : Option DS := if h.2.1.length + 1 < 1000000 then some (h.1, h.2.1 ++ [e], fun a j => if a = h.2.1.length then f j else h.2.2 a j) else none
theorem addC_some {e : SE} {f : Nat → Int32} {h1 : DS} (q : addC h e f = some h1) : h.2.1.length + 1 < 1000000 ∧ h1 = (h.1, h.2.1 ++ [e], fun a j => if a = h.2.1.length then f j else h.2.2 a j) := by
  unfold addC at q
  split at q
  · rename_i hc
    cases q
    exact ⟨hc, rfl⟩
  · cases q
theorem lk_add {e : SE} {f : Nat → Int32} (hl : lk h) (h123 : 123 ≤ h.2.1.length) (hn : h.2.1.length + 1 < 1000000) (he : ∀ j q, e.2.2.getD j none ≠ some q) : lk (h.1, h.2.1 ++ [e], fun a j => if a = h.2.1.length then f j else h.2.2 a j) := by
  refine ⟨fun k hk => ?_, fun k hk => ?_, wfS_app hl.2.2.1 he, by rw [List.length_append]; exact hn⟩
  · show (fun j => if k = h.2.1.length then f j else h.2.2 k j) = h.1 k
    funext j
    rw [if_neg (by omega)]
    exact congrFun (hl.1 k hk) j
  · show (h.2.1 ++ [e])[k]? = _
    rw [List.getElem?_append_left (by omega)]
    exact hl.2.1 k hk
theorem lk_len (hl : lk h) : 123 ≤ h.2.1.length := by
  have := hl.2.1 122 (by decide)
  have h2 : SG[122]? ≠ none := by decide +kernel
  rw [← this] at h2
  by_cases q : 122 < h.2.1.length
  · omega
  · exact absurd (List.getElem?_eq_none (by omega)) h2
/-- one instruction that makes a cell -/
theorem DOk.mk {e : SE} {f0 : Nat → Int32} {f : DS → DA} {n : Nat} {st' : List Value} (he : ∀ j q, e.2.2.getD j none ≠ some q) (g : lk h → okR (csz h.2.1) L st → h.2.1.length < 1000000 → ∀ {Sh' : List SE} {x' : Ans}, (csz h.2.1 + 1 ≤ csz Sh' ∧ ssz h.2.1 + e.2.1 ≤ ssz Sh') → Ok SX Sh' d M n L (.ref h.2.1.length :: st') (h.2.1 ++ [e]) (fun a j => if a = h.2.1.length then f0 j else h.2.2 a j) x' → Ok SX Sh' d M pc L st h.2.1 h.2.2 x') (ho : ∀ m, okR m L st → okR m L st') (k : ∀ h1, addC h e f0 = some h1 → DOk SX d M n L (.ref h.2.1.length :: st') h1 (f h1)) : DOk SX d M pc L st h (bo (addC h e f0) f) := by
  intro v h' hx hl hok
  cases hy : addC h e f0 with
  | none => rw [hy] at hx; cases hx
  | some h1 =>
    rw [hy] at hx
    have hk := k h1 hy
    obtain ⟨hn, rfl⟩ := addC_some hy
    have hz : csz (h.2.1 ++ [e]) = csz h.2.1 + 1 := by simp [csz]
    have hs : ssz (h.2.1 ++ [e]) = ssz h.2.1 + e.2.1 := by rw [ssz_app]; simp [ssz]
    obtain ⟨a1, a2, a3, a4⟩ := hk v h' hx (lk_add hl (lk_len hl) hn he) (oR_r (Or.inl (by show h.2.1.length < csz (h.2.1 ++ [e]); rw [hz]; exact Nat.lt_succ_self _)) (oR_m (by show csz h.2.1 ≤ csz (h.2.1 ++ [e]); rw [hz]; exact Nat.le_succ _) (ho _ hok)))
    have a2' : csz h.2.1 + 1 ≤ csz h'.2.1 ∧ ssz h.2.1 + e.2.1 ≤ ssz h'.2.1 := by rw [← hz, ← hs]; exact a2
    exact ⟨a1, by omega, a3, g hl hok (by omega) a2' a4⟩
theorem getD_rep {N j : Nat} : (List.replicate N (none : Option Nat)).getD j none = none := by
  rw [List.getD_eq_getElem?_getD, List.getElem?_replicate]
  split <;> rfl
theorem mnew_add : mnew h.2.2 h.2.1.length = fun a j => if a = h.2.1.length then 0 else h.2.2 a j := rfl
def nO (h : DS) (ci N : Nat) : Option DS := addC h (ci, N, List.replicate N none) (fun _ => 0)
theorem dk_new {ci N : Nat} {ty : Nat → FieldType} {f : DS → DA} (n : Nat) (hd : decode M.1 pc = .ok (.new idx, 3)) (hp : pc + 3 = n) (ho : M.2.1.cls = own) (hcl : Cond.classLink own idx (vwC ci).1 ∈ TB) (hin : Cond.instantiable (vwC ci).1 N ∈ TB) (hini : Cond.initialized (vwC ci).1 ∈ TB) (hci : ci < 15) (hN : (vwC ci).2.2 = N) (hty : ∀ k, k < N → parseFieldDescriptor ((vwC ci).2.1 k).2.2.1 = some (ty k)) (hdv : ∀ j, j < N → defaultValue (ty j) = if isR ci j = true then .null else .int 0)
    (k : ∀ h1, nO h ci N = some h1 → DOk SX d M n L (.ref h.2.1.length :: st) h1 (f h1)) : DOk SX d M pc L st h (bo (nO h ci N) f) :=
  DOk.mk (fun j q hq => by rw [show ((ci, N, List.replicate N none) : SE).2.2 = List.replicate N none from rfl, getD_rep] at hq; cases hq) (fun hl hok hlen {_ _} hz q => by
    subst hp; subst ho
    obtain ⟨k1, k2, -, k4⟩ := kc ci hci
    rw [hN] at k2
    refine Ok.grow (n := pc + 3) (e0 := (ci, N, List.replicate N none)) rfl hz hlen hok hl.2.2.1 (fun {_ _ _ _ _ _ _ _ _ _ _ _ _ _ _ D σ _ _} C hA hP hD hS hL r3 r4 kk => ?_) q
    have hc : vwCl[ci]? = some ((vwC ci).1, (vwC ci).2.1, N) := by rw [k1, ← hN]
    refine va_new C.1 C.2.1 C.2.2.2.2.1 k2 ty hty C.2.2.2.1 (C.2.2.2.2.1 _ hcl) (C.2.2.2.2.1 _ hin) (C.2.2.2.2.1 _ hini) C.2.2.2.2.2.1 hP hD hS hA hc (fs := (List.range N).map (fld (fun j => j) (mnew h.2.2 h.2.1.length) h.2.1.length (ci, N, List.replicate N none))) (fun j hj => ?_) r3 r4 hd (fun q H1 g1 g2 g3 => kk q _ H1 (fun σ' => ?_) g1 g2 g3)
    · rw [hdv j hj]
      unfold vp_V
      rw [List.getD_eq_getElem?_getD, fs_at hj]
      simp only [fld, Option.getD_some]
      split
      · rw [getD_rep]; rfl
      · rw [mnew_eq]
    · rw [ent_obj (show ci < 100 by omega)]
      refine congrArg Sum.inr (congrArg (Prod.mk _) ?_)
      refine List.map_congr_left fun j _ => ?_
      simp only [fld, getD_rep]
      rfl) (fun _ q => q) k
def nA (h : DS) (t : Nat) (a : Int32) : Option DS := if ¬ a < 0 ∧ a.toNatClampNeg * 4 ≤ 536870912 then addC h (t, a.toNatClampNeg, []) (fun _ => 0) else none
theorem dk_newaI (n : Nat) {f : DS → DA} (hd : decode M.1 pc = .ok (.newarray .int, 2)) (hp : pc + 2 = n) (k : ∀ h1, nA h 100 a = some h1 → DOk SX d M n L (.ref h.2.1.length :: st) h1 (f h1)) : DOk SX d M pc L (.int a :: st) h (bo (nA h 100 a) f) := by
  by_cases hc : ¬ a < 0 ∧ a.toNatClampNeg * 4 ≤ 536870912
  · have en : nA h 100 a = addC h (100, a.toNatClampNeg, []) (fun _ => 0) := if_pos hc
    rw [en] at k ⊢
    refine DOk.mk (st' := st) (fun j q hq => by simp at hq) (fun hl hok hlen {_ _} hz q => ?_) (fun _ q => oR_t q) k
    subst hp
    refine Ok.grow (n := pc + 2) (e0 := (100, a.toNatClampNeg, [])) rfl hz hlen (oR_t hok) hl.2.2.1 (fun {_ _ _ _ _ _ _ _ _ _ _ _ _ _ _ D σ _ _} C hA hP hD hS hL r3 r4 kk => ?_) q
    refine va_newa (ty := .int) (N' := a.toNatClampNeg) (a0 := (a.toNatClampNeg, .inl (fun _ => 0))) C.1 C.2.1 (atype := .int) (C.2.2.2.2.1 _ ac_int) rfl C.2.2.2.2.2.1 hP hD hS hA (fun cA => rfl) hc.1 rfl hc.2 r3 r4 hd (fun q cA H1 gK g1 g2 g3 => ?_)
    have e1 := (gK.2 5 (cA, .int) rfl).2
    have e2 := (gK.2 0 (D.1 100, .int) rfl).2
    have e3 : cA = D.1 100 := Option.some.inj (Eq.trans (Eq.symm e1) e2)
    subst e3
    refine kk q _ H1 (fun σ' => ?_) g1 g2 g3
    rw [ent_arr, mnew_eq]
  · have en : nA h 100 a = none := if_neg hc
    rw [en]; exact DOk.nil
theorem dk_newaB (n : Nat) {f : DS → DA} (hd : decode M.1 pc = .ok (.newarray .byte, 2)) (hp : pc + 2 = n) (k : ∀ h1, nA h 102 a = some h1 → DOk SX d M n L (.ref h.2.1.length :: st) h1 (f h1)) : DOk SX d M pc L (.int a :: st) h (bo (nA h 102 a) f) := by
  by_cases hc : ¬ a < 0 ∧ a.toNatClampNeg * 4 ≤ 536870912
  · have en : nA h 102 a = addC h (102, a.toNatClampNeg, []) (fun _ => 0) := if_pos hc
    rw [en] at k ⊢
    refine DOk.mk (st' := st) (fun j q hq => by simp at hq) (fun hl hok hlen {_ _} hz q => ?_) (fun _ q => oR_t q) k
    subst hp
    refine Ok.grow (n := pc + 2) (e0 := (102, a.toNatClampNeg, [])) rfl hz hlen (oR_t hok) hl.2.2.1 (fun {_ _ _ _ _ _ _ _ _ _ _ _ _ _ _ D σ _ _} C hA hP hD hS hL r3 r4 kk => ?_) q
    refine va_newa (ty := .byte) (N' := a.toNatClampNeg) (a0 := (a.toNatClampNeg, .inl (fun _ => 0))) C.1 C.2.1 (atype := .byte) (C.2.2.2.2.1 _ ac_byte) rfl C.2.2.2.2.2.1 hP hD hS hA (fun cA => rfl) hc.1 rfl (by show a.toNatClampNeg * 1 ≤ 536870912; omega) r3 r4 hd (fun q cA H1 gK g1 g2 g3 => ?_)
    have e1 := (gK.2 5 (cA, .byte) rfl).2
    have e2 := (gK.2 2 (D.1 102, .byte) rfl).2
    have e3 : cA = D.1 102 := Option.some.inj (Eq.trans (Eq.symm e1) e2)
    subst e3
    refine kk q _ H1 (fun σ' => ?_) g1 g2 g3
    rw [ent_arrT (Or.inr rfl), mnew_eq]
  · have en : nA h 102 a = none := if_neg hc
    rw [en]; exact DOk.nil
def nQ (h : DS) (t : Nat) (a : Int32) : Option DS := if ¬ a < 0 ∧ a.toNatClampNeg * 4 ≤ 536870912 then addC h (t, a.toNatClampNeg, List.replicate a.toNatClampNeg none) (fun _ => 0) else none
theorem dk_newqH (n : Nat) {f : DS → DA} (hd : decode M.1 pc = .ok (.anewarray idx, 3)) (hp : pc + 3 = n) (ho : M.2.1.cls = own) (hcl : Cond.classLink own idx "EncoresLaw$House" ∈ TB) (k : ∀ h1, nQ h 104 a = some h1 → DOk SX d M n L (.ref h.2.1.length :: st) h1 (f h1)) : DOk SX d M pc L (.int a :: st) h (bo (nQ h 104 a) f) := by
  by_cases hc : ¬ a < 0 ∧ a.toNatClampNeg * 4 ≤ 536870912
  · have en : nQ h 104 a = addC h (104, a.toNatClampNeg, List.replicate a.toNatClampNeg none) (fun _ => 0) := if_pos hc
    rw [en] at k ⊢
    refine DOk.mk (st' := st) (fun j q hq => by rw [show ((104, a.toNatClampNeg, List.replicate a.toNatClampNeg none) : SE).2.2 = List.replicate a.toNatClampNeg none from rfl, getD_rep] at hq; cases hq) (fun hl hok hlen {_ _} hz q => ?_) (fun _ q => oR_t q) k
    subst hp; subst ho
    refine Ok.grow (n := pc + 3) (e0 := (104, a.toNatClampNeg, List.replicate a.toNatClampNeg none)) rfl hz hlen (oR_t hok) hl.2.2.1 (fun {_ _ _ _ _ _ _ _ _ _ _ _ _ _ _ D σ _ _} C hA hP hD hS hL r3 r4 kk => ?_) q
    refine va_newq C.1 C.2.1 C.2.2.2.1 (C.2.2.2.2.1 _ hcl) C.2.2.2.2.2.2.2.2.2.1 C.2.2.2.2.2.1 hP hD hS hA hc.1 rfl hc.2 r3 r4 hd (fun q cA H1 gK g1 g2 g3 => ?_)
    have e3 : cA = D.1 104 := by
      obtain ⟨-, -, -, -, -, e1⟩ := (gK.2 5 (cA, .object "EncoresLaw$House") rfl).2
      obtain ⟨-, -, -, -, -, e2⟩ := (gK.2 4 (D.1 104, .object "EncoresLaw$House") rfl).2
      exact Option.some.inj (Eq.trans (Eq.symm e1) e2)
    subst e3
    refine kk q _ H1 (fun σ' => ?_) g1 g2 g3
    rw [ent_rarrT (Or.inr (Or.inr rfl))]
    refine congrArg Sum.inl (congrArg (Prod.mk _) (congrArg (Prod.mk _) (congrArg Sum.inr (congrArg Sum.inr (congrArg Sum.inr (congrArg Sum.inr ?_))))))
    funext j
    rw [getD_rep]; rfl
  · have en : nQ h 104 a = none := if_neg hc
    rw [en]; exact DOk.nil
theorem dk_newqI (n : Nat) {f : DS → DA} (hd : decode M.1 pc = .ok (.anewarray idx, 3)) (hp : pc + 3 = n) (ho : M.2.1.cls = own) (hcl : Cond.classLink own idx "[I" ∈ TB) (k : ∀ h1, nQ h 103 a = some h1 → DOk SX d M n L (.ref h.2.1.length :: st) h1 (f h1)) : DOk SX d M pc L (.int a :: st) h (bo (nQ h 103 a) f) := by
  by_cases hc : ¬ a < 0 ∧ a.toNatClampNeg * 4 ≤ 536870912
  · have en : nQ h 103 a = addC h (103, a.toNatClampNeg, List.replicate a.toNatClampNeg none) (fun _ => 0) := if_pos hc
    rw [en] at k ⊢
    refine DOk.mk (st' := st) (fun j q hq => by rw [show ((103, a.toNatClampNeg, List.replicate a.toNatClampNeg none) : SE).2.2 = List.replicate a.toNatClampNeg none from rfl, getD_rep] at hq; cases hq) (fun hl hok hlen {_ _} hz q => ?_) (fun _ q => oR_t q) k
    subst hp; subst ho
    refine Ok.grow (n := pc + 3) (e0 := (103, a.toNatClampNeg, List.replicate a.toNatClampNeg none)) rfl hz hlen (oR_t hok) hl.2.2.1 (fun {_ _ _ _ s _ _ _ _ _ H _ _ _ _ D σ A _} C hA hP hD hS hL r3 r4 kk => ?_) q
    refine W.anewA (t := .int) C.1 C.2.1 C.2.2.2.1 (C.2.2.2.2.1 _ hcl) (va_AOI.use C.2.2.2.2.2.2.2.2.2.2.2.2.1) rfl hd rfl hc.1 hc.2 r3 r4 fun cA kA comp f1 f2 f3 f4 => ?_
    have e3 : cA = D.1 103 := Option.some.inj (f1.symm.trans (C.2.2.2.2.2.1.2 3 _ rfl).2)
    subst e3
    generalize hH1 : H.push ({ cls := D.1 103, slots := Array.replicate a.toNatClampNeg .null, vm := .none } : Cell) = H1
    have z1 : H1.size = H.size + 1 := by rw [← hH1, Array.size_push]
    have e1 : H1[H.size]? = some (arrV (D.1 103) a.toNatClampNeg (fun _ => .null)) := by rw [← hH1, Array.getElem?_push_size, ← arrV_new]
    have o1 : ∀ q : Nat, q < H.size → H1[q]? = H[q]? := fun q hq => by rw [← hH1, Array.getElem?_push, if_neg (Nat.ne_of_lt hq)]
    have hk : ∀ (k : Nat) (x : Nat × va_E), (wd σ D h.2.1 h.2.2)[k]? = some x → H1[x.1]? = H[x.1]? := fun k x hx => o1 x.1 ((hP k x hx).lt)
    refine kk H.size (.inl (D.1 103, a.toNatClampNeg, .inr (.inr (.inr (.inr (fun _ => none)))))) H1 (fun σ' => ?_) ((hP.kept hk).app (fun k x hx => ?_)) (hD.push hP rfl (hA _ hS.1)) ⟨Nat.le_trans hS.1 (by omega), fun x h1 h2 => (o1 x (Nat.lt_of_lt_of_le h1 hS.1)).trans (hS.2.1 x h1 h2), hS.2.2⟩
    · rw [ent_rarrT (Or.inr (Or.inl rfl))]
      refine congrArg Sum.inl (congrArg (Prod.mk _) (congrArg (Prod.mk _) (congrArg Sum.inr (congrArg Sum.inr (congrArg Sum.inr (congrArg Sum.inr ?_))))))
      funext j
      rw [getD_rep]; rfl
    · have hz : k < 1 := (List.getElem?_eq_some_iff.mp hx).1
      rw [show k = 0 by omega] at hx
      cases hx
      show H1[H.size]? = some (vp_cell _ _)
      rw [vp_cell_q]
      exact e1
  · have en : nQ h 103 a = none := if_neg hc
    rw [en]; exact DOk.nil
end DYN3
