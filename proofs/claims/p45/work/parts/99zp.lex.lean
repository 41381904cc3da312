/-! pieces of a text and the tokens that they are -/
section LEXH
/-- a piece: a word (its number), a number, a sign, a blank -/
abbrev Pc : Type := Nat × Nat
def pch (x : Pc) : List Nat := if x.1 = 0 then WD.getD x.2 [] else if x.1 = 1 then dgs x.2 else if x.1 = 2 then [x.2] else [32]
def pok (x : Pc) : Bool := if x.1 = 0 then decide (x.2 < 23) else if x.1 = 1 then decide (x.2 < 10000) else if x.1 = 2 then isS x.2 else true
def ptk (x : Pc) : Option (Nat × Int32) := if x.1 = 0 then some (256 + x.2, nI 0) else if x.1 = 1 then some (1, nI x.2) else if x.1 = 2 then some (x.2, nI 0) else none
/-- no word beside a word, no number beside a number -/
def adj : List Pc → Bool
  | [] => true
  | x :: r => pok x && (match r with
    | [] => true
    | y :: _ => decide (1 < x.1 ∨ x.1 ≠ y.1)) && adj r
def pTx (L : List Pc) : List Nat := L.flatMap pch
def pTk (L : List Pc) : List (Nat × Int32) := L.filterMap ptk
variable {B : Nat → Nat} {n p j k z c e i : Nat} {s pre : List Nat} {L : List Pc} {f : Nat → Bool}
theorem goo_run : ∀ (c p : Nat), (∀ i, i < c → f (p + i) = true) → f (p + c) = false → p + c ≤ 400 → goo f p = p + c
  | 0, p, _, h, _ => goo_n h
  | c + 1, p, h1, h2, h3 => by
    rw [goo_s (i := p) (show f p = true from h1 0 (by omega)) (by omega)]
    have := goo_run c (p + 1) (fun i hi => by
      have := h1 (i + 1) (by omega)
      rw [show p + 1 + i = p + (i + 1) by omega]
      exact this) (by rw [show p + 1 + c = p + (c + 1) by omega]; exact h2) (by omega)
    omega
theorem dig_all : ∀ b, b < 10 → isD (48 + b) = true ∧ isL (48 + b) = false ∧ isK (48 + b) = false := by decide
theorem dgs_isD (hi : i < (dgs z).length) (hz : z < 10000) : ∃ b, b < 10 ∧ (dgs z).getD i 0 = 48 + b := by
  unfold dgs at hi ⊢
  by_cases y1 : z < 10
  · rw [if_pos y1] at hi ⊢
    have : i = 0 := by simp at hi; omega
    subst this
    exact ⟨z, y1, rfl⟩
  · rw [if_neg y1] at hi ⊢
    by_cases y2 : z < 100
    · rw [if_pos y2] at hi ⊢
      have : i < 2 := hi
      rcases (show i = 0 ∨ i = 1 by omega) with rfl | rfl
      · exact ⟨z / 10, by omega, rfl⟩
      · exact ⟨z % 10, by omega, rfl⟩
    · rw [if_neg y2] at hi ⊢
      by_cases y3 : z < 1000
      · rw [if_pos y3] at hi ⊢
        have : i < 3 := hi
        rcases (show i = 0 ∨ i = 1 ∨ i = 2 by omega) with rfl | rfl | rfl
        · exact ⟨z / 100, by omega, rfl⟩
        · exact ⟨z / 10 % 10, by omega, rfl⟩
        · exact ⟨z % 10, by omega, rfl⟩
      · rw [if_neg y3] at hi ⊢
        have : i < 4 := hi
        rcases (show i = 0 ∨ i = 1 ∨ i = 2 ∨ i = 3 by omega) with rfl | rfl | rfl | rfl
        · exact ⟨z / 1000, by omega, rfl⟩
        · exact ⟨z / 100 % 10, by omega, rfl⟩
        · exact ⟨z / 10 % 10, by omega, rfl⟩
        · exact ⟨z % 10, by omega, rfl⟩
theorem WD_isL : ∀ q, q < 23 → (∀ t, t < wln q → isL ((WD.getD q []).getD t 0) = true ∧ isD ((WD.getD q []).getD t 0) = false ∧ isK ((WD.getD q []).getD t 0) = false ∧ (WD.getD q []).getD t 0 < 256) := by decide +kernel
/-- what a piece begins with -/
theorem pc_0 {x : Pc} (hx : pok x = true) : 1 ≤ (pch x).length ∧ (pch x).length ≤ 7 ∧ (x.1 = 0 → ∀ i, i < (pch x).length → isL ((pch x).getD i 0) = true ∧ isD ((pch x).getD i 0) = false ∧ isK ((pch x).getD i 0) = false ∧ (pch x).getD i 0 < 256) ∧ (x.1 = 1 → ∀ i, i < (pch x).length → isD ((pch x).getD i 0) = true ∧ isL ((pch x).getD i 0) = false ∧ isK ((pch x).getD i 0) = false ∧ (pch x).getD i 0 < 256) ∧
    (x.1 = 2 → (pch x) = [x.2] ∧ isS x.2 = true) ∧ (2 < x.1 → pch x = [32]) := by
  obtain ⟨a, b⟩ := x
  unfold pok at hx
  unfold pch
  dsimp only at hx ⊢
  by_cases h0 : a = 0
  · subst h0
    rw [if_pos rfl] at hx ⊢
    have hb := of_decide_eq_true hx
    have hl := WD_long b hb
    exact ⟨hl.1, hl.2, fun _ i hi => WD_isL b hb i hi, fun z => absurd z (by decide), fun z => absurd z (by decide), fun z => absurd z (by decide)⟩
  · rw [if_neg h0] at hx ⊢
    by_cases h1 : a = 1
    · subst h1
      rw [if_pos rfl] at hx ⊢
      have hb := of_decide_eq_true hx
      have d : 1 ≤ (dgs b).length ∧ (dgs b).length ≤ 4 := by
        rw [dgs_len]
        split
        · decide
        · split
          · decide
          · split <;> decide
      refine ⟨d.1, by omega, fun z => absurd z (by decide), fun _ i hi => ?_, fun z => absurd z (by decide), fun z => absurd z (by decide)⟩
      obtain ⟨q, q1, q2⟩ := dgs_isD hi hb
      rw [q2]
      exact ⟨(dig_all q q1).1, (dig_all q q1).2.1, (dig_all q q1).2.2, by omega⟩
    · rw [if_neg h1] at hx ⊢
      by_cases h2 : a = 2
      · subst h2
        rw [if_pos rfl] at hx ⊢
        exact ⟨Nat.le_refl 1, by simp, fun z => absurd z (by decide), fun z => absurd z (by decide), fun _ => ⟨rfl, hx⟩, fun z => absurd z (by decide)⟩
      · rw [if_neg h2]
        exact ⟨by decide, by decide, fun z => absurd z h0, fun z => absurd z h1, fun z => absurd z h2, fun _ => rfl⟩
theorem sgn_all : ∀ c, isS c = true → isL c = false ∧ isD c = false ∧ isK c = false ∧ c < 256 := by
  intro c hc
  have : c ∈ [59, 43, 45, 42, 47, 40, 41, 60, 61, 62] := of_decide_eq_true hc
  simp only [List.mem_cons, List.not_mem_nil, or_false] at this
  rcases this with rfl | rfl | rfl | rfl | rfl | rfl | rfl | rfl | rfl | rfl <;> decide
/-- the bytes of a text -/
def bF' (s : List Nat) (i : Nat) : Nat := s.getD i 0
theorem chr_mid {x y : List Nat} (hs : s = pre ++ x ++ y) (hi : i < x.length) : chr (bF' s) s.length (pre.length + i) = x.getD i 0 := by
  subst hs
  have h1 : pre.length + i < (pre ++ x ++ y).length := by
    rw [List.length_append, List.length_append]
    omega
  unfold chr bF'
  rw [if_pos h1, List.getD_eq_getElem?_getD, List.getD_eq_getElem?_getD, List.append_assoc, List.getElem?_append_right (by omega), Nat.add_sub_cancel_left, List.getElem?_append_left hi]
theorem vIn_dgs (hz : z < 10000) (h : ∀ i, i < (dgs z).length → chr B n (p + i) = (dgs z).getD i 0) : vIn B n p (dgs z).length = nI z := by
  have st : ∀ c d x, chr B n (p + c) = 48 + d → vIn B n p c = nI x → x < 10000 → d < 10 → vIn B n p (c + 1) = nI (10 * x + d) := by
    intro c d x h1 h2 h3 h4
    show vIn B n p c * nI 10 + nI (chr B n (p + c)) - nI 48 = _
    rw [h1, h2, pk_mul, nI_add, pk_sub (by omega)]
    congr 1
    omega
  have e0 : vIn B n p 0 = nI 0 := rfl
  unfold dgs at h ⊢
  by_cases y1 : z < 10
  · rw [if_pos y1] at h ⊢
    have a := st 0 z 0 (h 0 (by simp)) e0 (by decide) y1
    rw [show 10 * 0 + z = z by omega] at a
    exact a
  · rw [if_neg y1] at h ⊢
    by_cases y2 : z < 100
    · rw [if_pos y2] at h ⊢
      have a := st 0 (z / 10) 0 (h 0 (by simp)) e0 (by decide) (by omega)
      have b := st 1 (z % 10) _ (h 1 (by simp)) a (by omega) (by omega)
      rw [show 10 * (10 * 0 + z / 10) + z % 10 = z by omega] at b
      exact b
    · rw [if_neg y2] at h ⊢
      by_cases y3 : z < 1000
      · rw [if_pos y3] at h ⊢
        have a := st 0 (z / 100) 0 (h 0 (by simp)) e0 (by decide) (by omega)
        have b := st 1 (z / 10 % 10) _ (h 1 (by simp)) a (by omega) (by omega)
        have c := st 2 (z % 10) _ (h 2 (by simp)) b (by omega) (by omega)
        rw [show 10 * (10 * (10 * 0 + z / 100) + z / 10 % 10) + z % 10 = z by omega] at c
        exact c
      · rw [if_neg y3] at h ⊢
        have a := st 0 (z / 1000) 0 (h 0 (by simp)) e0 (by decide) (by omega)
        have b := st 1 (z / 100 % 10) _ (h 1 (by simp)) a (by omega) (by omega)
        have c := st 2 (z / 10 % 10) _ (h 2 (by simp)) b (by omega) (by omega)
        have d := st 3 (z % 10) _ (h 3 (by simp)) c (by omega) (by omega)
        rw [show 10 * (10 * (10 * (10 * 0 + z / 1000) + z / 100 % 10) + z / 10 % 10) + z % 10 = z by omega] at d
        exact d
end LEXH
