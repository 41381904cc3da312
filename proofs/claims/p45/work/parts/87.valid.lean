/-! rows that are read are good rows -/
def vR (k : Nat) (hH hD : Int32) (q : Rw4) : Prop :=
  bgn k q.1 = true ∧ q.2.2.2 = nI 0 ∧ (k = 1 → (q.1 = 264 → (nI 1 ≤ q.2.1 ∧ q.2.1 ≤ nI 99) ∧ (nI 0 ≤ q.2.2.1 ∧ q.2.2.1 ≤ nI 9999)) ∧ (q.1 ≠ 264 → q.2.2.1 = nI 0) ∧ (q.1 = 274 → nI 0 ≤ q.2.1 ∧ q.2.1 ≤ nI 20) ∧ (q.1 = 275 → nI 0 ≤ q.2.1 ∧ q.2.1 ≤ hH) ∧ (q.1 = 276 → nI 1 ≤ q.2.1 ∧ q.2.1 ≤ nI 9999)) ∧
  (k = 2 → (nI 0 ≤ q.2.1 ∧ q.2.1 ≤ nI 9999) ∧ (nI 0 ≤ q.2.2.1 ∧ q.2.2.1 ≤ hD)) ∧ (k = 3 → (nI 0 ≤ q.2.1 ∧ q.2.1 ≤ hH) ∧ (nI 0 ≤ q.2.2.1 ∧ q.2.2.1 ≤ hH))
section VALID
variable {j j' k k0 c : Nat} {a b lo hi hH hD : Int32} {K : Nat → Nat} {V : Nat → Int32} {s : Rws} {t : Ts}
theorem woR_0 {w : Nat} (h : (woR K w s).1 = 0) : s.1 = 0 ∧ (woR K w s).2.2 = s.2.2 := by
  unfold woR at h ⊢
  by_cases q : s.1 = 0
  · rw [if_neg (by simp [q])] at h ⊢
    by_cases q2 : K s.2.1 = w
    · rw [if_pos q2]
      exact ⟨q, rfl⟩
    · rw [if_neg q2] at h
      exact absurd h (by simp)
  · rw [if_pos q] at h
    exact absurd h q
theorem nu1_0 (h : (nu1 K V lo hi s).1 = 0) : s.1 = 0 ∧ (lo ≤ (nu1 K V lo hi s).2.2.1 ∧ (nu1 K V lo hi s).2.2.1 ≤ hi) ∧ (nu1 K V lo hi s).2.2.2 = s.2.2.2 := by
  unfold nu1 at h ⊢
  by_cases q : s.1 = 0
  · rw [if_neg (by simp [q])] at h ⊢
    by_cases q2 : K s.2.1 = 1
    · rw [if_pos q2] at h ⊢
      by_cases q3 : lo ≤ V s.2.1 ∧ V s.2.1 ≤ hi
      · rw [if_pos q3]
        exact ⟨q, q3, rfl⟩
      · rw [if_neg q3] at h
        exact absurd h (by simp)
    · rw [if_neg q2] at h
      exact absurd h (by simp)
  · rw [if_pos q] at h
    exact absurd h q
theorem nu2_0 {al : Bool} (h : (nu2 K V al lo hi s).1 = 0) : s.1 = 0 ∧ (lo ≤ (nu2 K V al lo hi s).2.2.2 ∧ (nu2 K V al lo hi s).2.2.2 ≤ hi) ∧ (nu2 K V al lo hi s).2.2.1 = s.2.2.1 := by
  unfold nu2 at h ⊢
  by_cases q : s.1 = 0
  · rw [if_neg (by simp [q])] at h ⊢
    by_cases q2 : K s.2.1 = 1
    · rw [if_pos q2] at h ⊢
      by_cases q3 : (lo ≤ V s.2.1 ∧ V s.2.1 ≤ hi) ∧ ¬ (al = true ∧ s.2.2.1 = V s.2.1)
      · rw [if_pos q3]
        exact ⟨q, q3.1, rfl⟩
      · rw [if_neg q3] at h
        exact absurd h (by simp)
    · rw [if_neg q2] at h
      exact absurd h (by simp)
  · rw [if_pos q] at h
    exact absurd h q
theorem rowS_v (hb : bgn k k0 = true) (hk : k = 1 ∨ k = 2 ∨ k = 3) (h : (rowS K V hH hD k k0 (0, j, nI 0, nI 0)).1 = 0) : vR k hH hD (k0, (rowS K V hH hD k k0 (0, j, nI 0, nI 0)).2.2.1, (rowS K V hH hD k k0 (0, j, nI 0, nI 0)).2.2.2, nI 0) := by
  rcases hk with rfl | rfl | rfl
  · refine ⟨hb, rfl, fun _ => ?_, fun z => absurd z (by decide), fun z => absurd z (by decide)⟩
    have hk0 : k0 = 264 ∨ k0 = 274 ∨ k0 = 275 ∨ k0 = 276 := by
      have : k0 = 264 ∨ (274 ≤ k0 ∧ k0 ≤ 276) := of_decide_eq_true hb
      omega
    rcases hk0 with rfl | rfl | rfl | rfl
    · have e : rowS K V hH hD 1 264 (0, j, nI 0, nI 0) = woR K 59 (nu2 K V false (nI 0) (nI 9999) (woR K 273 (nu1 K V (nI 1) (nI 99) (0, j, nI 0, nI 0)))) := rfl
      rw [e] at h ⊢
      obtain ⟨h1, h2⟩ := woR_0 h
      obtain ⟨h3, h4, h5⟩ := nu2_0 h1
      obtain ⟨h6, h7⟩ := woR_0 h3
      obtain ⟨h8, h9, h10⟩ := nu1_0 h6
      dsimp only
      rw [h2, h5, h7]
      exact ⟨fun _ => ⟨h9, h4⟩, fun z => absurd rfl z, fun z => absurd z (by decide), fun z => absurd z (by decide), fun z => absurd z (by decide)⟩
    · have e : rowS K V hH hD 1 274 (0, j, nI 0, nI 0) = woR K 59 (nu1 K V (nI 0) (nI 20) (0, j, nI 0, nI 0)) := rfl
      rw [e] at h ⊢
      obtain ⟨h1, h2⟩ := woR_0 h
      obtain ⟨h8, h9, h10⟩ := nu1_0 h1
      dsimp only
      rw [h2, h10]
      exact ⟨fun z => absurd z (by decide), fun _ => rfl, fun _ => h9, fun z => absurd z (by decide), fun z => absurd z (by decide)⟩
    · have e : rowS K V hH hD 1 275 (0, j, nI 0, nI 0) = woR K 59 (nu1 K V (nI 0) hH (0, j, nI 0, nI 0)) := rfl
      rw [e] at h ⊢
      obtain ⟨h1, h2⟩ := woR_0 h
      obtain ⟨h8, h9, h10⟩ := nu1_0 h1
      dsimp only
      rw [h2, h10]
      exact ⟨fun z => absurd z (by decide), fun _ => rfl, fun z => absurd z (by decide), fun _ => h9, fun z => absurd z (by decide)⟩
    · have e : rowS K V hH hD 1 276 (0, j, nI 0, nI 0) = woR K 59 (nu1 K V (nI 1) (nI 9999) (0, j, nI 0, nI 0)) := rfl
      rw [e] at h ⊢
      obtain ⟨h1, h2⟩ := woR_0 h
      obtain ⟨h8, h9, h10⟩ := nu1_0 h1
      dsimp only
      rw [h2, h10]
      exact ⟨fun z => absurd z (by decide), fun _ => rfl, fun z => absurd z (by decide), fun z => absurd z (by decide), fun _ => h9⟩
  · refine ⟨hb, rfl, fun z => absurd z (by decide), fun _ => ?_, fun z => absurd z (by decide)⟩
    have e : rowS K V hH hD 2 k0 (0, j, nI 0, nI 0) = woR K 59 (nu2 K V false (nI 0) hD (woR K 278 (nu1 K V (nI 0) (nI 9999) (0, j, nI 0, nI 0)))) := rfl
    rw [e] at h ⊢
    obtain ⟨h1, h2⟩ := woR_0 h
    obtain ⟨h3, h4, h5⟩ := nu2_0 h1
    obtain ⟨h6, h7⟩ := woR_0 h3
    obtain ⟨h8, h9, h10⟩ := nu1_0 h6
    dsimp only
    rw [h2, h5, h7]
    exact ⟨h9, h4⟩
  · refine ⟨hb, rfl, fun z => absurd z (by decide), fun z => absurd z (by decide), fun _ => ?_⟩
    have e : rowS K V hH hD 3 k0 (0, j, nI 0, nI 0) = woR K 59 (nu2 K V true (nI 0) hH (woR K 271 (nu1 K V (nI 0) hH (0, j, nI 0, nI 0)))) := rfl
    rw [e] at h ⊢
    obtain ⟨h1, h2⟩ := woR_0 h
    obtain ⟨h3, h4, h5⟩ := nu2_0 h1
    obtain ⟨h6, h7⟩ := woR_0 h3
    obtain ⟨h8, h9, h10⟩ := nu1_0 h6
    dsimp only
    rw [h2, h5, h7]
    exact ⟨h9, h4⟩
theorem tpS_v (hk : k = 1 ∨ k = 2 ∨ k = 3) (hv : t.1 = 0 → ∀ q ∈ t.2.2.2, vR k hH hD q) (h0 : (tpS K V hH hD k t).1 = 0) : ∀ q ∈ (tpS K V hH hD k t).2.2.2, vR k hH hD q := by
  have hk0 : k ≠ 0 := by omega
  by_cases q : t.1 ≠ 0 ∨ K t.2.1 = 0
  · have e : tpS K V hH hD k t = t := if_pos q
    rw [e] at h0 ⊢
    exact hv h0
  · have t0 : t.1 = 0 := Decidable.by_contra fun z => q (Or.inl z)
    obtain ⟨f, j, C, R⟩ := t
    have t0 : f = 0 := t0
    subst t0
    have hK : K j ≠ 0 := fun z => q (Or.inr z)
    have hv := hv rfl
    by_cases qb : bgn k (K j) = true
    · by_cases q16 : R.length = 16
      · rw [tpS_16 hK qb q16] at h0
        exact absurd h0 (by simp)
      · rw [tpS_row hK qb q16 hk0] at h0 ⊢
        dsimp only at h0 ⊢
        intro p hp
        rcases List.mem_append.mp hp with hp | hp
        · exact hv p hp
        · rw [List.mem_singleton.mp hp]
          exact rowS_v qb hk h0
    · have qb : bgn k (K j) = false := by cases y : bgn k (K j) with
        | true => exact absurd y qb
        | false => rfl
      rw [tpS_nb hK qb] at h0
      exact absurd h0 (by simp)
theorem itt_v (hk : k = 1 ∨ k = 2 ∨ k = 3) : ∀ c, (itt (tpS K V hH hD k) c (0, 0, [], [])).1 = 0 → ∀ q ∈ (itt (tpS K V hH hD k) c (0, 0, [], [])).2.2.2, vR k hH hD q
  | 0, _ => fun q hq => by cases hq
  | c + 1, h => by
    rw [itt_s] at h ⊢
    exact tpS_v hk (itt_v hk c) h
end VALID
