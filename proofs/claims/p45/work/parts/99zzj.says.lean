/-! the numbers of THE LAW -/
section LAWS
variable {j i k word : Nat} {C : Cod} {R : List Rw4} {v a b c d e f g : Int32} {L L' : List Spt} {l l' : Lin} {fa : Arr} {LN LN' r : List Lin} {p : Spt} {dv : Nat → Int32}
theorem flt_same {A A' : Cod} {z : Nat} (h : ∀ x p, A[x]? = some p → C[z + x]? = some p) (h' : ∀ x p, A'[x]? = some p → C[z + x]? = some p) (hl : A.length = A'.length) : A = A' := by
  apply List.ext_getElem?
  intro x
  by_cases q : x < A.length
  · have e1 := h x _ (List.getElem?_eq_getElem q)
    have e2 := h' x _ (List.getElem?_eq_getElem (by omega : x < A'.length))
    rw [List.getElem?_eq_getElem q, List.getElem?_eq_getElem (by omega : x < A'.length)]
    exact e1.symm.trans e2
  · rw [List.getElem?_eq_none (by omega), List.getElem?_eq_none (by omega)]
theorem row_same (h : rowC C R i l) (h' : rowC C R i l') (hC : C.length < 2 ^ 31) : l.1 = l'.1 ∧ flt l.2.1 = flt l'.2.1 ∧ flt l.2.2 = flt l'.2.2 := by
  obtain ⟨c, e1, e2, e3⟩ := h
  obtain ⟨c', e1', e2', e3'⟩ := h'
  have e := Option.some.inj (e1.symm.trans e1')
  have w1 := congrArg Prod.fst e
  have w2 := (nI_eq (by omega) (by omega)).mp (congrArg (fun q : Rw4 => q.2.1) e)
  have w3 := (nI_eq (by omega) (by omega)).mp (congrArg (fun q : Rw4 => q.2.2.1) e)
  have w4 := (nI_eq (by omega) (by omega)).mp (congrArg (fun q : Rw4 => q.2.2.2) e)
  dsimp only at w1
  subst w2
  have la : (flt l.2.1).length = (flt l'.2.1).length := by omega
  refine ⟨by omega, flt_same (C := C) (z := c) (fun x p hx => e3 x p ?_) (fun x p hx => e3' x p ?_) la, flt_same (C := C) (z := c + (flt l.2.1).length) (fun x p hx => ?_) (fun x p hx => ?_) (by omega)⟩
  · rw [List.getElem?_append_left (List.getElem?_eq_some_iff.mp hx).1]; exact hx
  · rw [List.getElem?_append_left (List.getElem?_eq_some_iff.mp hx).1]; exact hx
  · rw [Nat.add_assoc]
    refine e3 _ p ?_
    rw [List.getElem?_append_right (by omega), Nat.add_sub_cancel_left]
    exact hx
  · rw [Nat.add_assoc]
    refine e3' _ p ?_
    rw [List.getElem?_append_right (by omega), la, Nat.add_sub_cancel_left]
    exact hx
theorem tc1_gd {s t : List Bool} (h : tc1 k v s = some t) : gdk k := by
  by_cases q : gdk k
  · exact q
  · exfalso
    have q : ¬ k ≤ 10 ∧ ¬ k = 26 ∧ ¬ k = 30 ∧ ¬ (k = 23 ∨ k = 24 ∨ k = 25) ∧ ¬ (k = 27 ∨ k = 28 ∨ k = 29) ∧ ¬ (k = 31 ∨ k = 32) := by unfold gdk at q; omega
    obtain ⟨q1, q2, q3, q4, q5, q6⟩ := q
    match s, h with
    | [], h => simp only [tc1, if_neg q1] at h; cases h
    | [x], h => simp only [tc1, if_neg q1, if_neg q2, if_neg q3] at h; cases h
    | x :: y :: s, h =>
      simp only [tc1, if_neg q1, if_neg q2, if_neg q3] at h
      rw [if_neg (fun z => q4 z.1), if_neg (fun z => q5 z.1), if_neg (fun z => q6 z.1)] at h
      cases h
theorem tc_gd : ∀ (L : List Spt) (s t : List Bool), tcS L s = some t → ∀ p, p ∈ L → gdk p.1
  | [], _, _, _, p, hp => absurd hp List.not_mem_nil
  | q :: r, s, t, h, p, hp => by
    unfold tcS at h
    cases e : tc1 q.1 q.2 s with
    | none => rw [e] at h; cases h
    | some u =>
      rw [e] at h
      rcases List.mem_cons.mp hp with rfl | hp
      · exact tc1_gd e
      · exact tc_gd r u t h p hp
def sameL (l l' : Lin) : Prop := l.1 = l'.1 ∧ (l.2.2 = [] ↔ l'.2.2 = []) ∧ (∀ (fa : Arr) st, evS fa l.2.1 st = evS fa l'.2.1 st) ∧ ∀ (fa : Arr) st, evS fa l.2.2 st = evS fa l'.2.2 st
theorem say_same : ∀ (LN LN' : List Lin), LN.length = LN'.length → (∀ (i : Nat) (l l' : Lin), LN[i]? = some l → LN'[i]? = some l' → sameL l l') → ∀ (fa : Arr) (word : Nat), sayL fa word LN = sayL fa word LN'
  | [], [], _, _, _, _ => rfl
  | [], _ :: _, h, _, _, _ => by simp at h
  | _ :: _, [], h, _, _, _ => by simp at h
  | l :: r, l' :: r', h, h2, fa, word => by
    obtain ⟨s1, s2, s3, s4⟩ := h2 0 l l' rfl rfl
    have ih := say_same r r' (by simpa using h) (fun i a b ha hb => h2 (i + 1) a b ha hb) fa word
    unfold sayL
    rw [s1, s3, s4, ih]
    by_cases q : l'.2.2 = []
    · have q' := s2.mpr q
      simp only [q, q']
    · have q' : ¬ l.2.2 = [] := fun z => q (s2.mp z)
      simp only [q, q']
theorem line_same (h : rowC C R i l) (h' : rowC C R i l') (hC : C.length < 2 ^ 31) (hl : lnOk l) (hl' : lnOk l') : sameL l l' := by
  obtain ⟨s1, s2, s3⟩ := row_same h h' hC
  have gD : ∀ {l : Lin}, lnOk l → ∀ p, p ∈ l.2.2 → gdk p.1 := fun hl => by
    rcases hl.2.2 with e | e
    · rw [e]; exact fun p hp => absurd hp List.not_mem_nil
    · exact tc_gd _ _ _ e
  obtain ⟨-, a2⟩ := ev_flt _ _ (tc_gd _ _ _ hl.2.1) (tc_gd _ _ _ hl'.2.1) s2
  obtain ⟨b1, b2⟩ := ev_flt _ _ (gD hl) (gD hl') s3
  exact ⟨s1, b1, a2, b2⟩
/-- THE LAW as it is told -/
def LN0 (dv : Nat → Int32) : List Lin := [lwA (dv 0), lwB (dv 3) (dv 4) (dv 5), lwC (dv 6), lwD 0, lwE (dv 1), lwF (dv 2)]
theorem say_skip (h : l.1 ≠ word) : sayL fa word (l :: r) = sayL fa word r := if_neg (fun z => h z.1)
theorem say_one (h : l.1 = word) (h2 : l.2.2 = []) : sayL fa word (l :: r) = some ((evS fa l.2.1 []).headD 0) := if_pos ⟨h, Or.inl h2⟩
theorem say_y (h : l.1 = word) (h2 : (evS fa l.2.2 []).headD 0 = 1) : sayL fa word (l :: r) = some ((evS fa l.2.1 []).headD 0) := if_pos ⟨h, Or.inr h2⟩
theorem say_n (h3 : l.2.2 ≠ []) (h2 : (evS fa l.2.2 []).headD 0 ≠ 1) : sayL fa word (l :: r) = sayL fa word r := if_neg (fun z => z.2.elim h3 h2)
theorem lawD_0 : LawD (LN0 dv) (some dv) := by
  refine ⟨fun fa => ?_, fun fa => ?_, fun fa => ?_⟩
  · unfold LN0
    exact (say_one (l := lwA (dv 0)) (word := 0) rfl rfl).trans rfl
  · unfold LN0
    rw [say_skip (show (0 : Nat) ≠ 2 by decide), say_skip (show (1 : Nat) ≠ 2 by decide), say_skip (show (1 : Nat) ≠ 2 by decide), say_skip (show (1 : Nat) ≠ 2 by decide)]
    by_cases q : dv 1 < fa 8
    · rw [if_pos q]
      exact (say_y (l := lwE (dv 1)) (word := 2) rfl (show (if fa 8 ≤ dv 1 then (0 : Int32) else 1) = 1 from if_neg (Int32.not_le.mpr q))).trans rfl
    · rw [if_neg q]
      refine (say_n (l := lwE (dv 1)) (by unfold lwE; simp) (show (if fa 8 ≤ dv 1 then (0 : Int32) else 1) ≠ 1 from ?_)).trans ((say_one (l := lwF (dv 2)) (word := 2) rfl rfl).trans rfl)
      rw [if_pos (Int32.not_lt.mp q)]
      decide
  · unfold LN0
    rw [say_skip (show (0 : Nat) ≠ 1 by decide)]
    have eB : (evS fa (lwB (dv 3) (dv 4) (dv 5)).2.2 []).headD 0 = (if fa 3 ≤ dv 3 then (0 : Int32) else 1) &&& (1 - ((if fa 4 ≤ dv 4 then (0 : Int32) else 1) ||| (if fa 8 ≤ (3 : Int32) then (0 : Int32) else 1))) := rfl
    have eC : (evS fa (lwC (dv 6)).2.2 []).headD 0 = (if fa 9 ≤ (1 : Int32) then (0 : Int32) else 1) ||| (if fa 5 ≤ (20 : Int32) then (0 : Int32) else 1) := rfl
    have nB : (lwB (dv 3) (dv 4) (dv 5)).2.2 ≠ [] := by unfold lwB; simp
    have nC : (lwC (dv 6)).2.2 ≠ [] := by unfold lwC; simp
    have rest : sayL fa 1 [lwC (dv 6), lwD 0, lwE (dv 1), lwF (dv 2)] = some (if 1 < fa 9 ∨ 20 < fa 5 then dv 6 + fa 5 * 4 - fa 1 else fa 3 * 60 - fa 10 * 20 + fa 2) := by
      by_cases q : 1 < fa 9 ∨ 20 < fa 5
      · rw [if_pos q]
        refine (say_y (l := lwC (dv 6)) (word := 1) rfl ?_).trans rfl
        rw [eC]
        by_cases q1 : 1 < fa 9
        · rw [if_neg (Int32.not_le.mpr q1)]
          split <;> decide
        · rw [if_neg (Int32.not_le.mpr (q.resolve_left q1))]
          split <;> decide
      · rw [if_neg q]
        refine (say_n (l := lwC (dv 6)) nC ?_).trans ((say_one (l := lwD 0) (word := 1) rfl rfl).trans rfl)
        rw [eC, if_pos (Int32.not_lt.mp fun z => q (Or.inl z)), if_pos (Int32.not_lt.mp fun z => q (Or.inr z))]
        decide
    by_cases q : dv 3 < fa 3 ∧ ¬ (dv 4 < fa 4 ∨ 3 < fa 8)
    · rw [if_pos q]
      refine (say_y (l := lwB (dv 3) (dv 4) (dv 5)) (word := 1) rfl ?_).trans rfl
      rw [eB, if_neg (Int32.not_le.mpr q.1), if_pos (Int32.not_lt.mp fun z => q.2 (Or.inl z)), if_pos (Int32.not_lt.mp fun z => q.2 (Or.inr z))]
      decide
    · rw [if_neg q]
      refine (say_n (l := lwB (dv 3) (dv 4) (dv 5)) nB ?_).trans rest
      rw [eB]
      by_cases q1 : dv 3 < fa 3
      · rw [if_neg (Int32.not_le.mpr q1)]
        by_cases q2 : dv 4 < fa 4
        · rw [if_neg (Int32.not_le.mpr q2)]
          split <;> decide
        · have q3 : 3 < fa 8 := by
            rcases Classical.em (3 < fa 8) with z | z
            · exact z
            · exact absurd ⟨q1, fun y => y.elim q2 z⟩ q
          rw [if_neg (Int32.not_le.mpr q3)]
          split <;> decide
      · rw [if_pos (Int32.not_lt.mp q1)]
        split <;> split <;> decide
theorem lnOk_0 : ∀ l, l ∈ LN0 dv → lnOk l := by
  intro l hl
  unfold LN0 at hl
  simp only [List.mem_cons, List.not_mem_nil, or_false] at hl
  rcases hl with rfl | rfl | rfl | rfl | rfl | rfl
  · exact ⟨by show (0 : Nat) < 3; decide, rfl, Or.inl rfl⟩
  · exact ⟨by show (1 : Nat) < 3; decide, rfl, Or.inr rfl⟩
  · exact ⟨by show (1 : Nat) < 3; decide, rfl, Or.inr rfl⟩
  · exact ⟨by show (1 : Nat) < 3; decide, rfl, Or.inl rfl⟩
  · exact ⟨by show (2 : Nat) < 3; decide, rfl, Or.inr rfl⟩
  · exact ⟨by show (2 : Nat) < 3; decide, rfl, Or.inl rfl⟩
end LAWS
