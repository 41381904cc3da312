/-! THE LAW told to the model -/
section TLAW
variable {N z i j k m' : Nat} {n : Nat → Nat} {m m5 : Mem} {hD : Int32} {LN : List Lin} {hb h : DS} {B S : Nat} {s : List Nat} {Q : Int32 → DS → Prop} {x : Int32}
def lwS0 : List Pc := [(0, 0), (3, 0), (0, 12), (2, 42)]
def lwS1 : List Pc := [(2, 45), (0, 14), (2, 45), (0, 16), (2, 59), (0, 1), (3, 0)]
def lwS2 : List Pc := [(2, 43), (0, 15), (2, 42), (1, 150), (2, 45), (0, 13), (2, 42), (1, 5), (3, 0), (0, 3), (3, 0), (0, 9), (2, 62)]
def lwS3 : List Pc := [(3, 0), (0, 5), (3, 0), (0, 6), (3, 0), (2, 40), (0, 10), (2, 62)]
def lwS4 : List Pc := [(3, 0), (0, 4), (3, 0), (0, 14), (2, 62), (1, 3), (2, 41), (2, 59), (0, 1), (3, 0)]
def lwS5 : List Pc := [(2, 43), (0, 11), (2, 42), (1, 4), (2, 45), (0, 7), (3, 0), (0, 3), (3, 0), (0, 15), (2, 62), (1, 1), (3, 0), (0, 4), (3, 0), (0, 11), (2, 62), (1, 20), (2, 59), (0, 1), (3, 0), (0, 9), (2, 42), (1, 60), (2, 45), (0, 16), (2, 42), (1, 20), (2, 43), (0, 8), (2, 59), (0, 2), (3, 0), (0, 13), (2, 47), (1, 4), (2, 43), (1, 1), (3, 0), (0, 3), (3, 0), (0, 14), (2, 62)]
def lwS6 : List Pc := [(2, 59), (0, 2), (3, 0)]
def lwS7 : List Pc := [(2, 43), (0, 12), (2, 59)]
def lawP (n : Nat → Nat) : List Pc := lwS0 ++ [(1, n 0)] ++ lwS1 ++ [(1, n 5)] ++ lwS2 ++ [(1, n 3)] ++ lwS3 ++ [(1, n 4)] ++ lwS4 ++ [(1, n 6)] ++ lwS5 ++ [(1, n 1)] ++ lwS6 ++ [(1, n 2)] ++ lwS7
theorem lw_lits : litL 10 = pTx lwS0 ∧ litL 11 = pTx lwS1 ∧ litL 12 = pTx lwS2 ∧ litL 13 = pTx lwS3 ∧ litL 14 = pTx lwS4 ∧ litL 15 = pTx lwS5 ∧ litL 16 = pTx lwS6 ∧ litL 17 = pTx lwS7 := by decide +kernel
theorem law_tx : [] ++ litL 10 ++ dgs (n 0) ++ litL 11 ++ dgs (n 5) ++ litL 12 ++ dgs (n 3) ++ litL 13 ++ dgs (n 4) ++ litL 14 ++ dgs (n 6) ++ litL 15 ++ dgs (n 1) ++ litL 16 ++ dgs (n 2) ++ litL 17 = pTx (lawP n) := by
  have e : ∀ z, pTx [(1, z)] = dgs z := fun z => List.append_nil (dgs z)
  obtain ⟨l0, l1, l2, l3, l4, l5, l6, l7⟩ := lw_lits
  unfold lawP
  simp only [pTx_app, e, l0, l1, l2, l3, l4, l5, l6, l7, List.nil_append]
theorem adj_cat : ∀ (L : List Pc) {r : List Pc} {y : Pc}, adj (L ++ [y]) = true → adj (y :: r) = true → adj (L ++ y :: r) = true
  | [], _, _, _, h => h
  | [x], r, y, h, h2 => by
    have h : (pok x && decide (1 < x.1 ∨ x.1 ≠ y.1) && adj [y]) = true := h
    show (pok x && decide (1 < x.1 ∨ x.1 ≠ y.1) && adj (y :: r)) = true
    rw [Bool.and_eq_true] at h ⊢
    exact ⟨h.1, h2⟩
  | x :: x2 :: L, r, y, h, h2 => by
    have h : (pok x && decide (1 < x.1 ∨ x.1 ≠ x2.1) && adj (x2 :: (L ++ [y]))) = true := h
    show (pok x && decide (1 < x.1 ∨ x.1 ≠ x2.1) && adj (x2 :: (L ++ y :: r))) = true
    rw [Bool.and_eq_true] at h ⊢
    exact ⟨h.1, adj_cat (x2 :: L) h.2 h2⟩
theorem adj_num (hp : pok (1, z) = true) (L : List Pc) (h : adj ([(1, 0)] ++ L) = true) : adj ((1, z) :: L) = true := by
  cases L with
  | nil => show (pok (1, z) && true && true) = true; rw [hp]; rfl
  | cons y r =>
    have h : (pok (1, 0) && decide (1 < 1 ∨ 1 ≠ y.1) && adj (y :: r)) = true := h
    show (pok (1, z) && decide (1 < 1 ∨ 1 ≠ y.1) && adj (y :: r)) = true
    rw [hp]
    exact h
theorem adj_seg (hp : pok (1, z) = true) {L r : List Pc} (h : adj (L ++ [(1, 0)]) = true) (h2 : adj ((1, z) :: r) = true) : adj (L ++ (1, z) :: r) = true := by
  refine adj_cat L ?_ h2
  induction L with
  | nil => show (pok (1, z) && true && true) = true; rw [hp]; rfl
  | cons x L ih =>
    cases L with
    | nil =>
      have h : (pok x && decide (1 < x.1 ∨ x.1 ≠ 1) && adj [(1, 0)]) = true := h
      show (pok x && decide (1 < x.1 ∨ x.1 ≠ 1) && (pok (1, z) && true && true)) = true
      rw [hp]
      exact h
    | cons y L =>
      have h : (pok x && decide (1 < x.1 ∨ x.1 ≠ y.1) && adj (y :: (L ++ [(1, 0)]))) = true := h
      show (pok x && decide (1 < x.1 ∨ x.1 ≠ y.1) && adj (y :: (L ++ [(1, z)]))) = true
      rw [Bool.and_eq_true] at h ⊢
      exact ⟨h.1, ih h.2⟩
theorem adj_law (hn : ∀ j, j < 7 → n j < 10000) : adj (lawP n) = true := by
  have hp : ∀ j, j < 7 → pok (1, n j) = true := fun j hj => decide_eq_true (hn j hj)
  have st : ∀ {j : Nat} {L r : List Pc}, j < 7 → adj (L ++ [(1, 0)]) = true → adj ((1, n j) :: r) = true → adj (L ++ (1, n j) :: r) = true := fun hj h h2 => adj_seg (hp _ hj) h h2
  have nx : ∀ {j j' : Nat} {L r : List Pc}, j < 7 → j' < 7 → adj ([(1, 0)] ++ L ++ [(1, 0)]) = true → adj ((1, n j') :: r) = true → adj ((1, n j) :: (L ++ (1, n j') :: r)) = true := fun {j j' L r} hj hj' h h2 => adj_num (hp _ hj) _ (by
    have := adj_seg (hp _ hj') (L := [(1, 0)] ++ L) h h2
    rw [List.append_assoc] at this
    exact this)
  unfold lawP
  simp only [List.append_assoc, List.singleton_append]
  refine st (by decide) (by decide +kernel) ?_
  refine nx (by decide) (by decide) (by decide +kernel) ?_
  refine nx (by decide) (by decide) (by decide +kernel) ?_
  refine nx (by decide) (by decide) (by decide +kernel) ?_
  refine nx (by decide) (by decide) (by decide +kernel) ?_
  refine nx (by decide) (by decide) (by decide +kernel) ?_
  refine nx (by decide) (by decide) (by decide +kernel) ?_
  exact adj_num (hp _ (by decide)) _ (by decide +kernel)
def lawLs (n : Nat → Nat) : List (List (Nat × Int32) × Lin) := [
  ([(256, nI 0), (268, nI 0), (42, nI 0), (1, nI (n 0)), (45, nI 0), (270, nI 0), (45, nI 0), (272, nI 0), (59, nI 0)], lwA (nI (n 0))),
  ([(257, nI 0), (1, nI (n 5)), (43, nI 0), (271, nI 0), (42, nI 0), (1, nI 150), (45, nI 0), (269, nI 0), (42, nI 0), (1, nI 5), (259, nI 0), (265, nI 0), (62, nI 0), (1, nI (n 3)), (261, nI 0), (262, nI 0), (40, nI 0), (266, nI 0), (62, nI 0), (1, nI (n 4)), (260, nI 0), (270, nI 0), (62, nI 0), (1, nI 3), (41, nI 0), (59, nI 0)], lwB (nI (n 3)) (nI (n 4)) (nI (n 5))),
  ([(257, nI 0), (1, nI (n 6)), (43, nI 0), (267, nI 0), (42, nI 0), (1, nI 4), (45, nI 0), (263, nI 0), (259, nI 0), (271, nI 0), (62, nI 0), (1, nI 1), (260, nI 0), (267, nI 0), (62, nI 0), (1, nI 20), (59, nI 0)], lwC (nI (n 6))),
  ([(257, nI 0), (265, nI 0), (42, nI 0), (1, nI 60), (45, nI 0), (272, nI 0), (42, nI 0), (1, nI 20), (43, nI 0), (264, nI 0), (59, nI 0)], lwD 0),
  ([(258, nI 0), (269, nI 0), (47, nI 0), (1, nI 4), (43, nI 0), (1, nI 1), (259, nI 0), (270, nI 0), (62, nI 0), (1, nI (n 1)), (59, nI 0)], lwE (nI (n 1))),
  ([(258, nI 0), (1, nI (n 2)), (43, nI 0), (268, nI 0), (59, nI 0)], lwF (nI (n 2)))]
theorem law_tk : pTk (lawP n) = (lawLs n).flatMap Prod.fst := rfl
theorem law_lns : ∀ l, l ∈ lawLs n → LwLn l.1 l.2 := by
  intro l hl
  unfold lawLs at hl
  simp only [List.mem_cons, List.not_mem_nil, or_false] at hl
  rcases hl with rfl | rfl | rfl | rfl | rfl | rfl
  · exact lw_A
  · exact lw_B
  · exact lw_C
  · exact lw_D (a := 0)
  · exact lw_E
  · exact lw_F
theorem law_C : (lcC [] (lawLs n)).length = 62 := rfl
theorem law_len (hn : ∀ j, j < 7 → n j < 10000) : (pTx (lawP n)).length ≤ 300 ∧ Asc (pTx (lawP n)) := by
  have d : ∀ j, j < 7 → (dgs (n j)).length ≤ 4 ∧ Asc (dgs (n j)) := fun j hj => ⟨dgs_le (hn j hj), dgs_asc (hn j hj)⟩
  have e : ∀ z, pTx [(1, z)] = dgs z := fun z => List.append_nil (dgs z)
  have s0 : (pTx lwS0).length + (pTx lwS1).length + (pTx lwS2).length + (pTx lwS3).length + (pTx lwS4).length + (pTx lwS5).length + (pTx lwS6).length + (pTx lwS7).length ≤ 260 := by decide +kernel
  have a0 : ∀ L ∈ [lwS0, lwS1, lwS2, lwS3, lwS4, lwS5, lwS6, lwS7], ∀ b ∈ pTx L, b < 128 := by decide +kernel
  have d0 := (d 0 (by decide)).1
  have d1 := (d 1 (by decide)).1
  have d2 := (d 2 (by decide)).1
  have d3 := (d 3 (by decide)).1
  have d4 := (d 4 (by decide)).1
  have d5 := (d 5 (by decide)).1
  have d6 := (d 6 (by decide)).1
  constructor
  · unfold lawP
    simp only [pTx_app, e, List.length_append]
    omega
  · unfold lawP
    simp only [pTx_app, e]
    exact asc_app (asc_app (asc_app (asc_app (asc_app (asc_app (asc_app (asc_app (asc_app (asc_app (asc_app (asc_app (asc_app (asc_app (a0 lwS0 (by simp)) (d 0 (by decide)).2) (a0 lwS1 (by simp))) (d 5 (by decide)).2) (a0 lwS2 (by simp))) (d 3 (by decide)).2) (a0 lwS3 (by simp))) (d 4 (by decide)).2) (a0 lwS4 (by simp))) (d 6 (by decide)).2) (a0 lwS5 (by simp))) (d 1 (by decide)).2) (a0 lwS6 (by simp))) (d 2 (by decide)).2) (a0 lwS7 (by simp))
end TLAW
