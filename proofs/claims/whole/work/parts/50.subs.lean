/-! sets within a set, in their order -/
def sb (s R : Nat) : Prop := ∀ i, s.testBit i = true → R.testBit i = true
theorem sb_sdf {s R : Nat} : sdf s R = 0 ↔ sb s R := by
  constructor
  · intro h i hi
    cases hq : R.testBit i with
    | true => rfl
    | false =>
      have : (sdf s R).testBit i = true := by rw [sdf_bit, hi, hq]; rfl
      rw [h, Nat.zero_testBit] at this
      cases this
  · intro h
    refine Nat.eq_of_testBit_eq (fun i => ?_)
    rw [Nat.zero_testBit, sdf_bit]
    cases hs : s.testBit i with
    | false => rfl
    | true => rw [h i hs]; rfl
theorem sb_le {s R : Nat} (h : sb s R) : s ≤ R := Nat.le_of_testBit h
theorem sb_half {s R : Nat} : sb s R ↔ s % 2 ≤ R % 2 ∧ sb (s / 2) (R / 2) := by
  constructor
  · intro h
    refine ⟨?_, fun i hi => ?_⟩
    · have := h 0
      rw [Nat.testBit_zero, Nat.testBit_zero, decide_eq_true_eq, decide_eq_true_eq] at this
      omega
    · rw [← Nat.testBit_succ] at hi ⊢
      exact h _ hi
  · rintro ⟨h1, h2⟩ i hi
    cases i with
    | zero =>
      rw [Nat.testBit_zero, decide_eq_true_eq] at hi ⊢
      omega
    | succ i =>
      rw [Nat.testBit_succ] at hi ⊢
      exact h2 i hi
theorem and_half {a b x y : Nat} (h1 : (a / 2) &&& (b / 2) = x) (h2 : (a % 2 = 1 ∧ b % 2 = 1) ↔ y = 1) (hy : y ≤ 1) : a &&& b = 2 * x + y := by
  have e1 : (a &&& b) / 2 = x := by rw [Nat.and_div_two, h1]
  have e2 : (a &&& b) % 2 = 1 ↔ y = 1 := Nat.and_mod_two_eq_one.trans h2
  omega
theorem and_cmp : ∀ (K R s : Nat), R < 2 ^ K → sb s R → (2 ^ K - 1 - (R - s)) &&& R = s
  | 0, R, s, hR, hs => by
    have := sb_le hs
    have h0 : R = 0 := by simpa using hR
    subst h0
    have : s = 0 := by omega
    subst this
    rfl
  | K + 1, R, s, hR, hs => by
    have p : 2 ^ (K + 1) = 2 * 2 ^ K := by rw [Nat.pow_succ, Nat.mul_comm]
    have p0 := pow_pos' K
    obtain ⟨h1, h2⟩ := sb_half.mp hs
    have l1 := sb_le hs
    have l2 := sb_le h2
    have ih := and_cmp K (R / 2) (s / 2) (by omega) h2
    have e := and_half (a := 2 ^ (K + 1) - 1 - (R - s)) (b := R) (x := s / 2) (y := s % 2) (by
      rw [show (2 ^ (K + 1) - 1 - (R - s)) / 2 = 2 ^ K - 1 - (R / 2 - s / 2) by omega]
      exact ih) (by omega) (by omega)
    rw [e]
    omega
def nx : Nat → Nat → Nat → Nat
  | 0, _, _ => 0
  | n + 1, R, s => if R % 2 = 1 ∧ s % 2 = 0 then s + 1 else 2 * nx n (R / 2) (s / 2)
theorem nx_and : ∀ (n R s K : Nat), n ≤ K → R < 2 ^ n → sb s R → s < R → (2 ^ K - (R - s)) &&& R = nx n R s
  | 0, R, s, K, _, hR, _, h => by
    have h0 : R = 0 := by simpa using hR
    omega
  | n + 1, R, s, K, hK, hR, hs, h => by
    obtain ⟨K, rfl⟩ : ∃ K', K = K' + 1 := ⟨K - 1, by omega⟩
    have p : 2 ^ (K + 1) = 2 * 2 ^ K := by rw [Nat.pow_succ, Nat.mul_comm]
    have p' : 2 ^ (n + 1) = 2 * 2 ^ n := by rw [Nat.pow_succ, Nat.mul_comm]
    have p0 := pow_pos' K
    have p1 : 2 ^ n ≤ 2 ^ K := Nat.pow_le_pow_right (by decide) (by omega)
    obtain ⟨h1, h2⟩ := sb_half.mp hs
    have l1 := sb_le hs
    have l2 := sb_le h2
    unfold nx
    by_cases c : R % 2 = 1 ∧ s % 2 = 0
    · rw [if_pos c]
      have e := and_half (a := 2 ^ (K + 1) - (R - s)) (b := R) (x := s / 2) (y := 1) (by
        rw [show (2 ^ (K + 1) - (R - s)) / 2 = 2 ^ K - 1 - (R / 2 - s / 2) by omega]
        exact and_cmp K _ _ (by omega) h2) (by omega) (by omega)
      rw [e]
      omega
    · rw [if_neg c]
      have e := and_half (a := 2 ^ (K + 1) - (R - s)) (b := R) (x := nx n (R / 2) (s / 2)) (y := 0) (by
        rw [show (2 ^ (K + 1) - (R - s)) / 2 = 2 ^ K - (R / 2 - s / 2) by omega]
        exact nx_and n _ _ K (by omega) (by omega) h2 (by omega)) (by omega) (by omega)
      rw [e, Nat.add_zero]
theorem nx_ok : ∀ (n R s : Nat), R < 2 ^ n → sb s R → (s = R ∧ nx n R s = 0) ∨ (s < nx n R s ∧ sb (nx n R s) R ∧ ∀ t, sb t R → s < t → nx n R s ≤ t)
  | 0, R, s, hR, hs => by
    have h0 : R = 0 := by simpa using hR
    have := sb_le hs
    exact Or.inl ⟨by omega, rfl⟩
  | n + 1, R, s, hR, hs => by
    have p' : 2 ^ (n + 1) = 2 * 2 ^ n := by rw [Nat.pow_succ, Nat.mul_comm]
    obtain ⟨h1, h2⟩ := sb_half.mp hs
    have ih := nx_ok n (R / 2) (s / 2) (by omega) h2
    unfold nx
    by_cases c : R % 2 = 1 ∧ s % 2 = 0
    · rw [if_pos c]
      refine Or.inr ⟨by omega, sb_half.mpr ⟨by omega, ?_⟩, fun t _ ht => ht⟩
      rw [show (s + 1) / 2 = s / 2 by omega]
      exact h2
    · rw [if_neg c]
      rcases ih with ⟨e1, e2⟩ | ⟨g1, g2, g3⟩
      · exact Or.inl ⟨by omega, by omega⟩
      · refine Or.inr ⟨by omega, sb_half.mpr ⟨by omega, ?_⟩, fun t ht hlt => ?_⟩
        · rw [show 2 * nx n (R / 2) (s / 2) / 2 = nx n (R / 2) (s / 2) by omega]
          exact g2
        · obtain ⟨t1, t2⟩ := sb_half.mp ht
          have := g3 (t / 2) t2 (by omega)
          omega
theorem e_nextIn {N R s : Nat} (m : Mem) (hR : R < 4096) (hs : sb s R) : f_X11_nextWithin N (nI s) (nI R) m = some (nI (nx 12 R s), m) := by
  have l := sb_le hs
  unfold f_X11_nextWithin
  have : (nI s - nI R) &&& nI R = nI (nx 12 R s) := by
    apply Int32.toBitVec_inj.1
    show (BitVec.ofNat 32 s - BitVec.ofNat 32 R) &&& BitVec.ofNat 32 R = BitVec.ofNat 32 (nx 12 R s)
    apply BitVec.eq_of_toNat_eq
    rw [BitVec.toNat_and, BitVec.toNat_sub, BitVec.toNat_ofNat, BitVec.toNat_ofNat, BitVec.toNat_ofNat, Nat.mod_eq_of_lt (show s < 2 ^ 32 by omega), Nat.mod_eq_of_lt (show R < 2 ^ 32 by omega)]
    by_cases e : s = R
    · subst e
      rcases nx_ok 12 s s hR hs with ⟨-, h⟩ | ⟨h, h2, -⟩
      · rw [h, show 2 ^ 32 - s + s = 2 ^ 32 by omega, Nat.mod_self, Nat.zero_and]
      · have := sb_le h2
        omega
    · have e2 := nx_and 12 R s 32 (by decide) hR hs (by omega)
      have hle : (2 ^ 32 - (R - s)) &&& R ≤ R := Nat.and_le_right
      rw [e2] at hle
      rw [Nat.mod_eq_of_lt (show nx 12 R s < 2 ^ 32 by omega), show (2 ^ 32 - R + s) % 2 ^ 32 = 2 ^ 32 - (R - s) by omega]
      exact e2
  rw [this]
