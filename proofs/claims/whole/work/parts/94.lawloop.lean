/-! the law's loop: call by call -/
section LAWL
variable {N Lc i : Nat} {xs : Nat → Int32} {m : Mem} {X : Int32 → Mem → Ans} {Q : Int32 → Mem → Prop} {f g : Mem → Ans} {Y : Mem → Ans}
theorem law_step (hp : Pr f g) (hI : Inv m) (hX : ∀ m', Inv m' → Wp (Y m') Q) : Wp (bd (f m) fun r m1 => bd (g m1) fun r2 m2 => if r = r2 then Y m2 else some (0, m2)) Q := by
  refine wp_bind (hp m hI) ?_
  intro v1 m1 h1
  refine wp_bind h1 ?_
  rintro v2 m2 ⟨rfl, h2⟩
  rw [if_pos rfl]
  exact hX m2 h2
theorem and63 (x : Int32) : ∃ b, b < 64 ∧ x &&& 63 = nI b := by
  refine ⟨(x.toBitVec &&& 63#32).toNat, ?_, ?_⟩
  · rw [BitVec.toNat_and]
    exact Nat.lt_of_le_of_lt Nat.and_le_right (by decide)
  · apply Int32.toBitVec_inj.1
    show x.toBitVec &&& 63#32 = BitVec.ofNat 32 (x.toBitVec &&& 63#32).toNat
    rw [BitVec.ofNat_toNat, BitVec.setWidth_eq]
theorem inb_p {c : Nat} {cI : Int32} (e : cI = nI c) (hL : Lc ≤ 3072) (h : i + c < Lc) : inb (nI i + cI) Lc = true := by
  subst e
  rw [nI_add]
  exact inb_nI h (by omega)
theorem sw_i {b : Nat} (h : b < 64) : Int32.toInt (nI b) - 0 = (b : Int) := by
  rw [nI_toInt (by omega)]
  omega
theorem w_law (hN : 20000 ≤ N) (hL : Lc ≤ 3072) (hi : i + 5 < Lc) (hI : Inv m) (hX : ∀ m', Inv m' → Wp (X (nI i + 6) m') Q) : Wp (f_L_law_L18 N Lc xs X (nI i) m) Q := by
  have q0 : ¬ (Int32.ofNat Lc - 6 < nI i) := by
    rw [show Int32.ofNat Lc - 6 = nI (Lc - 6) from pk_sub (show 6 ≤ Lc by omega)]
    exact nI_nlt (by omega) (by omega)
  have c0 : inb (nI i) Lc = true := inb_nI (by omega) (by omega)
  have c1 : inb (nI i + 1) Lc = true := inb_p (c := 1) rfl hL (by omega)
  have c2 : inb (nI i + 2) Lc = true := inb_p (c := 2) rfl hL (by omega)
  have c3 : inb (nI i + 3) Lc = true := inb_p (c := 3) rfl hL (by omega)
  have c4 : inb (nI i + 4) Lc = true := inb_p (c := 4) rfl hL (by omega)
  have c5 : inb (nI i + 5) Lc = true := inb_p (c := 5) rfl hL (by omega)
  obtain ⟨k, hk, ek⟩ := and63 (xs (nI i).toNatClampNeg)
  unfold f_L_law_L18
  rw [if_neg q0, c0, chk_t, ek]
  clear ek
  by_cases qk : 42 ≤ k
  · refine wp_eq (swt_no (Or.inr (by rw [sw_i hk]; simp; omega))) ?_
    exact hX m hI
  · have hk2 : k = 0 ∨ k = 1 ∨ k = 2 ∨ k = 3 ∨ k = 4 ∨ k = 5 ∨ k = 6 ∨ k = 7 ∨ k = 8 ∨ k = 9 ∨ k = 10 ∨ k = 11 ∨ k = 12 ∨ k = 13 ∨ k = 14 ∨ k = 15 ∨ k = 16 ∨ k = 17 ∨ k = 18 ∨ k = 19 ∨ k = 20 ∨ k = 21 ∨ k = 22 ∨ k = 23 ∨ k = 24 ∨ k = 25 ∨ k = 26 ∨ k = 27 ∨ k = 28 ∨ k = 29 ∨ k = 30 ∨ k = 31 ∨ k = 32 ∨ k = 33 ∨ k = 34 ∨ k = 35 ∨ k = 36 ∨ k = 37 ∨ k = 38 ∨ k = 39 ∨ k = 40 ∨ k = 41 := by omega
    rcases hk2 with rfl | rfl | rfl | rfl | rfl | rfl | rfl | rfl | rfl | rfl | rfl | rfl | rfl | rfl | rfl | rfl | rfl | rfl | rfl | rfl | rfl | rfl | rfl | rfl | rfl | rfl | rfl | rfl | rfl | rfl | rfl | rfl | rfl | rfl | rfl | rfl | rfl | rfl | rfl | rfl | rfl | rfl
    · refine wp_eq (swt_at 0 (by decide) rfl) ?_
      try simp only [c1, c2, c3, c4, c5, chk_t]
      exact law_step pr_state hI hX
    · refine wp_eq (swt_at 1 (by decide) rfl) ?_
      try simp only [c1, c2, c3, c4, c5, chk_t]
      exact law_step (pr_hearer hN) hI hX
    · refine wp_eq (swt_at 2 (by decide) rfl) ?_
      try simp only [c1, c2, c3, c4, c5, chk_t]
      exact law_step (pr_deed hN) hI hX
    · refine wp_eq (swt_at 3 (by decide) rfl) ?_
      try simp only [c1, c2, c3, c4, c5, chk_t]
      exact law_step (pr_set hN) hI hX
    · refine wp_eq (swt_at 4 (by decide) rfl) ?_
      try simp only [c1, c2, c3, c4, c5, chk_t]
      exact law_step (pr_perform hN) hI hX
    · refine wp_eq (swt_at 5 (by decide) rfl) ?_
      try simp only [c1, c2, c3, c4, c5, chk_t]
      exact law_step (pr_pay hN) hI hX
    · refine wp_eq (swt_at 6 (by decide) rfl) ?_
      try simp only [c1, c2, c3, c4, c5, chk_t]
      by_cases qb : xs (nI i + 2).toNatClampNeg = 0
      · simp only [if_pos qb, if_true, if_false]
        unfold f_L_law_J443
        simp only [c1, c2, chk_t, if_pos qb, if_true, if_false]
        exact law_step (pr_glove (b := false) hN) hI hX
      · simp only [if_neg qb, if_true, if_false]
        unfold f_L_law_J443
        simp only [c1, c2, chk_t, if_neg qb, if_true, if_false]
        exact law_step (pr_glove (b := true) hN) hI hX
    · refine wp_eq (swt_at 7 (by decide) rfl) ?_
      try simp only [c1, c2, c3, c4, c5, chk_t]
      by_cases qb : xs (nI i + 2).toNatClampNeg = 0
      · simp only [if_pos qb, if_true, if_false]
        unfold f_L_law_J492
        simp only [c1, c2, chk_t, if_pos qb, if_true, if_false]
        exact law_step (pr_let (b := false) hN) hI hX
      · simp only [if_neg qb, if_true, if_false]
        unfold f_L_law_J492
        simp only [c1, c2, chk_t, if_neg qb, if_true, if_false]
        exact law_step (pr_let (b := true) hN) hI hX
    · refine wp_eq (swt_at 8 (by decide) rfl) ?_
      try simp only [c1, c2, c3, c4, c5, chk_t]
      exact law_step (pr_evenings hN) hI hX
    · refine wp_eq (swt_at 9 (by decide) rfl) ?_
      try simp only [c1, c2, c3, c4, c5, chk_t]
      exact law_step (pr_feed hN) hI hX
    · refine wp_eq (swt_at 10 (by decide) rfl) ?_
      try simp only [c1, c2, c3, c4, c5, chk_t]
      exact law_step pr_end hI hX
    · refine wp_eq (swt_at 11 (by decide) rfl) ?_
      try simp only [c1, c2, c3, c4, c5, chk_t]
      exact law_step (pr_text hN) hI hX
    · refine wp_eq (swt_at 12 (by decide) rfl) ?_
      try simp only [c1, c2, c3, c4, c5, chk_t]
      exact law_step pr_fault hI hX
    · refine wp_eq (swt_at 13 (by decide) rfl) ?_
      try simp only [c1, c2, c3, c4, c5, chk_t]
      exact law_step (pr_of hN) hI hX
    · refine wp_eq (swt_at 14 (by decide) rfl) ?_
      try simp only [c1, c2, c3, c4, c5, chk_t]
      exact law_step (pr_deedOf hN) hI hX
    · refine wp_eq (swt_at 15 (by decide) rfl) ?_
      try simp only [c1, c2, c3, c4, c5, chk_t]
      exact law_step (pr_statute hN) hI hX
    · refine wp_eq (swt_at 16 (by decide) rfl) ?_
      try simp only [c1, c2, c3, c4, c5, chk_t]
      exact law_step pr_book hI hX
    · refine wp_eq (swt_at 17 (by decide) rfl) ?_
      try simp only [c1, c2, c3, c4, c5, chk_t]
      exact law_step (pr_goes hN) hI hX
    · refine wp_eq (swt_at 18 (by decide) rfl) ?_
      try simp only [c1, c2, c3, c4, c5, chk_t]
      exact law_step (pr_settles hN) hI hX
    · refine wp_eq (swt_at 19 (by decide) rfl) ?_
      try simp only [c1, c2, c3, c4, c5, chk_t]
      exact law_step (pr_makes hN) hI hX
    · refine wp_eq (swt_at 20 (by decide) rfl) ?_
      try simp only [c1, c2, c3, c4, c5, chk_t]
      exact law_step (pr_fills hN) hI hX
    · refine wp_eq (swt_at 21 (by decide) rfl) ?_
      try simp only [c1, c2, c3, c4, c5, chk_t]
      exact law_step (pr_lines hN) hI hX
    · refine wp_eq (swt_at 22 (by decide) rfl) ?_
      try simp only [c1, c2, c3, c4, c5, chk_t]
      exact law_step (pr_claque hN) hI hX
    · refine wp_eq (swt_at 23 (by decide) rfl) ?_
      try simp only [c1, c2, c3, c4, c5, chk_t]
      exact law_step (pr_fits hN) hI hX
    · refine wp_eq (swt_at 24 (by decide) rfl) ?_
      try simp only [c1, c2, c3, c4, c5, chk_t]
      exact law_step (pr_cuts hN) hI hX
    · refine wp_eq (swt_at 25 (by decide) rfl) ?_
      try simp only [c1, c2, c3, c4, c5, chk_t]
      exact law_step (pr_near hN) hI hX
    · refine wp_eq (swt_at 26 (by decide) rfl) ?_
      try simp only [c1, c2, c3, c4, c5, chk_t]
      exact law_step pr_means hI hX
    · refine wp_eq (swt_at 27 (by decide) rfl) ?_
      try simp only [c1, c2, c3, c4, c5, chk_t]
      exact law_step (pr_passed hN) hI hX
    · refine wp_eq (swt_at 28 (by decide) rfl) ?_
      try simp only [c1, c2, c3, c4, c5, chk_t]
      exact law_step (pr_share hN) hI hX
    · refine wp_eq (swt_at 29 (by decide) rfl) ?_
      try simp only [c1, c2, c3, c4, c5, chk_t]
      exact law_step (pr_brides hN) hI hX
    · refine wp_eq (swt_at 30 (by decide) rfl) ?_
      try simp only [c1, c2, c3, c4, c5, chk_t]
      exact law_step (pr_game hN) hI hX
    · refine wp_eq (swt_at 31 (by decide) rfl) ?_
      try simp only [c1, c2, c3, c4, c5, chk_t]
      exact law_step (pr_brakes hN) hI hX
    · refine wp_eq (swt_at 32 (by decide) rfl) ?_
      try simp only [c1, c2, c3, c4, c5, chk_t]
      exact law_step (pr_eager hN) hI hX
    · refine wp_eq (swt_at 33 (by decide) rfl) ?_
      try simp only [c1, c2, c3, c4, c5, chk_t]
      exact law_step (pr_groups hN) hI hX
    · refine wp_eq (swt_at 34 (by decide) rfl) ?_
      try simp only [c1, c2, c3, c4, c5, chk_t]
      exact law_step (pr_price hN) hI hX
    · refine wp_eq (swt_at 35 (by decide) rfl) ?_
      try simp only [c1, c2, c3, c4, c5, chk_t]
      exact law_step (pr_gain hN) hI hX
    · refine wp_eq (swt_at 36 (by decide) rfl) ?_
      try simp only [c1, c2, c3, c4, c5, chk_t]
      exact law_step (pr_bargain hN) hI hX
    · refine wp_eq (swt_at 37 (by decide) rfl) ?_
      try simp only [c1, c2, c3, c4, c5, chk_t]
      exact law_step (pr_calm hN) hI hX
    · refine wp_eq (swt_at 38 (by decide) rfl) ?_
      try simp only [c1, c2, c3, c4, c5, chk_t]
      exact law_step (pr_tires hN) hI hX
    · refine wp_eq (swt_at 39 (by decide) rfl) ?_
      try simp only [c1, c2, c3, c4, c5, chk_t]
      exact law_step (pr_undo hN) hI hX
    · refine wp_eq (swt_at 40 (by decide) rfl) ?_
      try simp only [c1, c2, c3, c4, c5, chk_t]
      by_cases qb : xs (nI i + 1).toNatClampNeg = 0
      · simp only [if_pos qb, if_true, if_false]
        unfold f_L_law_J1482
        simp only [c1, c2, chk_t, if_pos qb, if_true, if_false]
        exact law_step (pr_image hN) hI hX
      · simp only [if_neg qb, if_true, if_false]
        unfold f_L_law_J1482
        simp only [c1, c2, chk_t, if_neg qb, if_true, if_false]
        exact law_step (pr_image hN) hI hX
    · refine wp_eq (swt_at 41 (by decide) rfl) ?_
      try simp only [c1, c2, c3, c4, c5, chk_t]
      exact law_step (pr_look hN) hI hX
end LAWL
