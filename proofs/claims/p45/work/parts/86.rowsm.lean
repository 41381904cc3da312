/-! the rows of the other texts as the reference reads them -/
section ROWM
variable {N : Nat} {m m1 m' m2 : Mem} {B : Nat → Nat} {n M j k k0 r : Nat} {a b lo hi hH hD : Int32} {K : Nat → Nat} {V : Nat → Int32} {s : Rws} {R : List Rw4} {C : Cod}
theorem w_aPiece (hN : 20000 ≤ N) (h : RT B n 2 j m) (hb : bgn 2 (tkK B n j) = true) (h15 : m 123 15 = nI r) (hr : r < 16) (hD1 : m 124 38 - nI 1 = hD) :
    ∃ s, woR (tkK B n) 59 s = rowS (tkK B n) (tkV B n) hH hD 2 (tkK B n j) (0, j + 1, nI 0, nI 0) ∧
    Wp (f_X12_aPiece N m) (fun v m' => (v = nI 1 ∧ s.1 = 0 ∧ RT B n 2 s.2.1 m' ∧ (m' 130 (2 * r) = s.2.2.1 ∧ m' 130 (2 * r + 1) = s.2.2.2) ∧ NF (fun i => 2 * r ≤ i) m m') ∨ (v = nI 0 ∧ BF B n s.1 s.2.1 m' ∧ NF (fun i => 2 * r ≤ i) m m')) := by
  have hk0 : tkK B n j = 277 := of_decide_eq_true hb
  refine ⟨nu2 (tkK B n) (tkV B n) false (nI 0) hD (woR (tkK B n) 278 (nu1 (tkK B n) (tkV B n) (nI 0) (nI 9999) (0, j + 1, nI 0, nI 0))), rfl, ?_⟩
  unfold f_X12_aPiece
  simp only [li_0, li_1, li_2, li_3, li_4, li_5, li_6, li_7, li_8, li_9, li_10, li_11, li_12, li_13, li_14, li_15, li_16, li_17, li_18, li_19, li_20, li_21, li_22, li_23, li_24, li_25, li_26, li_27, li_28, li_29, li_30, li_31, li_32, li_37, li_38, li_39, li_40, li_41, li_42, li_43, li_44, li_45, li_46, li_47, li_48, li_49, li_50, li_57, li_59, li_60, li_61, li_62, li_63, li_64, li_65, li_69, li_81, li_89, li_90, li_92, li_97, li_99, li_100, li_101, li_103, li_104, li_105, li_106, li_108, li_111, li_112, li_113, li_114, li_115, li_116, li_117, li_119, li_122, li_123, li_124, li_125, li_126, li_127, li_128, li_129, li_130, li_131, li_132, li_133, li_134, li_135, li_136, li_137, li_140, li_141, li_142, li_143, li_145, li_147, li_150, li_153, li_159, li_160, li_161, li_162, li_185, li_197, li_213, li_222, li_223, li_255, li_256, li_257, li_258, li_259, li_260, li_261, li_262, li_263, li_264, li_271, li_272, li_273, li_274, li_275, li_276, li_277, li_278, li_300, li_400, li_420, li_500, li_802, li_820, li_823, li_839, li_855, li_871, li_887, li_999, li_1000, li_1001, li_1002, li_1003, li_1004, li_1005, li_1006, li_1007, li_1008, li_1009, li_1010, li_1011, li_1012, li_1013, li_1014, li_1015, li_1016, li_1017, li_1018, li_1019, li_1020, li_1021, li_1022, li_1023, li_1707, li_4096, li_9999, li_65536, li_100000, li_1000000, li_1664525, li_100000000, li_252645135, li_858993459, li_1000000007, li_1013904223, li_1431655765, li_m1]
  rw [h15, pk_mul]
  refine wp_bind (w_told (w := 277) hN (by decide) h (trK_r _ h.c).2.2.1 (by decide) (by omega) (nI 0) (nI 0)) ?_
  have nf := fun (q : tkK B n j = 277) => q
  rintro v m1 (⟨rfl, a1, a2, a3, a4, a5⟩ | ⟨rfl, e, j', a1, a2, a3⟩)
  · rw [if_neg (by decide), nu1_y a2, a5.2.1 15 (by decide), h15, pk_mul, nI_add, a5.1 124 (by decide) (by decide), hD1]
    refine wp_bind (w_told (w := 278) hN (by decide) a3 (trK_r _ a3.c).2.2.2.1 (by decide) (by omega) (tkV B n (j + 1)) (nI 0)) ?_
    rintro v m2 (⟨rfl, b1, b2, b3, b4, b5⟩ | ⟨rfl, e, j', b1, b2, b3⟩)
    · rw [if_neg (by decide), b1, nu2_y b2 (fun z => by cases z)]
      refine wp_ret (Or.inl ⟨rfl, rfl, b3, ⟨?_, b4⟩, (a5.mono (fun i z => by omega)).trans (b5.mono (fun i z => by omega))⟩)
      rw [b5.2.2 _ (by omega)]; exact a4
    · rw [if_pos rfl, woNu b1]
      exact wp_ret (Or.inr ⟨rfl, b2, (a5.mono (fun i z => by omega)).trans (b3.mono (fun i z => z.elim))⟩)
  · rw [if_pos rfl]
    have hc : ((tkK B n (j + 1) ≠ 1 ∧ e = 1) ∨ (tkK B n (j + 1) = 1 ∧ ¬ (nI 0 ≤ tkV B n (j + 1) ∧ tkV B n (j + 1) ≤ nI 9999) ∧ e = 2)) ∧ j' = j + 1 := by
      rcases a1 with ⟨z, -⟩ | ⟨-, z⟩
      · unfold woR at z
        rw [if_neg (by simp), if_pos hk0] at z
        cases z
      · exact z
    obtain ⟨hc, rfl⟩ := hc
    have he : e ≠ 0 := by omega
    rw [nu1_n hc, woR_f (by exact he), nu2_f (by exact he)]
    exact wp_ret (Or.inr ⟨rfl, a2, a3.mono (fun i z => z.elim)⟩)
theorem w_aSeat (hN : 20000 ≤ N) (h : RT B n 3 j m) (hb : bgn 3 (tkK B n j) = true) (h15 : m 123 15 = nI r) (hr : r < 16) (hH1 : m 124 37 - nI 1 = hH) :
    ∃ s, woR (tkK B n) 59 s = rowS (tkK B n) (tkV B n) hH hD 3 (tkK B n j) (0, j + 1, nI 0, nI 0) ∧
    Wp (f_X12_aSeat N m) (fun v m' => (v = nI 1 ∧ s.1 = 0 ∧ RT B n 3 s.2.1 m' ∧ (m' 130 (2 * r) = s.2.2.1 ∧ m' 130 (2 * r + 1) = s.2.2.2) ∧ NF (fun i => 2 * r ≤ i) m m') ∨ (v = nI 0 ∧ BF B n s.1 s.2.1 m' ∧ NF (fun i => 2 * r ≤ i) m m')) := by
  have hk0 : tkK B n j = 263 := of_decide_eq_true hb
  refine ⟨nu2 (tkK B n) (tkV B n) true (nI 0) hH (woR (tkK B n) 271 (nu1 (tkK B n) (tkV B n) (nI 0) hH (0, j + 1, nI 0, nI 0))), rfl, ?_⟩
  unfold f_X12_aSeat
  simp only [li_0, li_1, li_2, li_3, li_4, li_5, li_6, li_7, li_8, li_9, li_10, li_11, li_12, li_13, li_14, li_15, li_16, li_17, li_18, li_19, li_20, li_21, li_22, li_23, li_24, li_25, li_26, li_27, li_28, li_29, li_30, li_31, li_32, li_37, li_38, li_39, li_40, li_41, li_42, li_43, li_44, li_45, li_46, li_47, li_48, li_49, li_50, li_57, li_59, li_60, li_61, li_62, li_63, li_64, li_65, li_69, li_81, li_89, li_90, li_92, li_97, li_99, li_100, li_101, li_103, li_104, li_105, li_106, li_108, li_111, li_112, li_113, li_114, li_115, li_116, li_117, li_119, li_122, li_123, li_124, li_125, li_126, li_127, li_128, li_129, li_130, li_131, li_132, li_133, li_134, li_135, li_136, li_137, li_140, li_141, li_142, li_143, li_145, li_147, li_150, li_153, li_159, li_160, li_161, li_162, li_185, li_197, li_213, li_222, li_223, li_255, li_256, li_257, li_258, li_259, li_260, li_261, li_262, li_263, li_264, li_271, li_272, li_273, li_274, li_275, li_276, li_277, li_278, li_300, li_400, li_420, li_500, li_802, li_820, li_823, li_839, li_855, li_871, li_887, li_999, li_1000, li_1001, li_1002, li_1003, li_1004, li_1005, li_1006, li_1007, li_1008, li_1009, li_1010, li_1011, li_1012, li_1013, li_1014, li_1015, li_1016, li_1017, li_1018, li_1019, li_1020, li_1021, li_1022, li_1023, li_1707, li_4096, li_9999, li_65536, li_100000, li_1000000, li_1664525, li_100000000, li_252645135, li_858993459, li_1000000007, li_1013904223, li_1431655765, li_m1]
  rw [h15, pk_mul, bnd_s, hH1]
  refine wp_bind (w_told (w := 263) hN (by decide) h (trK_r _ h.c).2.2.2.2.2 (by decide) (by omega) (nI 0) (nI 0)) ?_
  rintro v m1 (⟨rfl, a1, a2, a3, a4, a5⟩ | ⟨rfl, e, j', a1, a2, a3⟩)
  · rw [if_neg (by decide), nu1_y a2]
    refine wp_bind (w_wo (w := 271) hN (by decide) a3 (trK_s _ a3.c).1 (by decide) (tkV B n (j + 1)) (nI 0)) ?_
    rintro v m2 (⟨rfl, b1, b2, b3⟩ | ⟨rfl, b1, b2, b3⟩)
    · rw [if_neg (by decide), b1]
      have f2 : NF (fun i => 2 * r ≤ i) m m2 := (a5.mono (fun i z => by omega)).trans b3.nf
      have c2 : m2 130 (2 * r) = tkV B n (j + 1) := by rw [b3.1 130 (by decide)]; exact a4
      have i1 := b2.isK (by decide) (trK_s _ b2.c).2.2 (by decide)
      have num : (tkK B n (j + 1 + 1 + 1) = 1 → tkV B n (j + 1) ≠ tkV B n (j + 1 + 1 + 1)) → Wp (f_X12_aSeat_J65 N (nI (2 * r)) m2) (fun v m' => (v = nI 1 ∧ (nu2 (tkK B n) (tkV B n) true (nI 0) hH (0, j + 1 + 1 + 1, tkV B n (j + 1), nI 0)).1 = 0 ∧ RT B n 3 (nu2 (tkK B n) (tkV B n) true (nI 0) hH (0, j + 1 + 1 + 1, tkV B n (j + 1), nI 0)).2.1 m' ∧ (m' 130 (2 * r) = (nu2 (tkK B n) (tkV B n) true (nI 0) hH (0, j + 1 + 1 + 1, tkV B n (j + 1), nI 0)).2.2.1 ∧ m' 130 (2 * r + 1) = (nu2 (tkK B n) (tkV B n) true (nI 0) hH (0, j + 1 + 1 + 1, tkV B n (j + 1), nI 0)).2.2.2) ∧ NF (fun i => 2 * r ≤ i) m m') ∨
          (v = nI 0 ∧ BF B n (nu2 (tkK B n) (tkV B n) true (nI 0) hH (0, j + 1 + 1 + 1, tkV B n (j + 1), nI 0)).1 (nu2 (tkK B n) (tkV B n) true (nI 0) hH (0, j + 1 + 1 + 1, tkV B n (j + 1), nI 0)).2.1 m' ∧ NF (fun i => 2 * r ≤ i) m m')) := by
        intro hne
        unfold f_X12_aSeat_J65
        simp only [li_0, li_1, li_2, li_3, li_4, li_5, li_6, li_7, li_8, li_9, li_10, li_11, li_12, li_13, li_14, li_15, li_16, li_17, li_18, li_19, li_20, li_21, li_22, li_23, li_24, li_25, li_26, li_27, li_28, li_29, li_30, li_31, li_32, li_37, li_38, li_39, li_40, li_41, li_42, li_43, li_44, li_45, li_46, li_47, li_48, li_49, li_50, li_57, li_59, li_60, li_61, li_62, li_63, li_64, li_65, li_69, li_81, li_89, li_90, li_92, li_97, li_99, li_100, li_101, li_103, li_104, li_105, li_106, li_108, li_111, li_112, li_113, li_114, li_115, li_116, li_117, li_119, li_122, li_123, li_124, li_125, li_126, li_127, li_128, li_129, li_130, li_131, li_132, li_133, li_134, li_135, li_136, li_137, li_140, li_141, li_142, li_143, li_145, li_147, li_150, li_153, li_159, li_160, li_161, li_162, li_185, li_197, li_213, li_222, li_223, li_255, li_256, li_257, li_258, li_259, li_260, li_261, li_262, li_263, li_264, li_271, li_272, li_273, li_274, li_275, li_276, li_277, li_278, li_300, li_400, li_420, li_500, li_802, li_820, li_823, li_839, li_855, li_871, li_887, li_999, li_1000, li_1001, li_1002, li_1003, li_1004, li_1005, li_1006, li_1007, li_1008, li_1009, li_1010, li_1011, li_1012, li_1013, li_1014, li_1015, li_1016, li_1017, li_1018, li_1019, li_1020, li_1021, li_1022, li_1023, li_1707, li_4096, li_9999, li_65536, li_100000, li_1000000, li_1664525, li_100000000, li_252645135, li_858993459, li_1000000007, li_1013904223, li_1431655765, li_m1]
        rw [nI_up, f2.1 124 (by decide) (by decide), hH1]
        refine wp_bind (w_nuR hN (by decide) b2 (by omega)) ?_
        rintro v m3 (⟨rfl, c1, c2', c3, c4⟩ | ⟨rfl, e, c1, c2', c3⟩)
        · rw [show isB (nI 1) = true from rfl, chk_t, nu2_y c1 (fun _ => hne c1.1)]
          refine wp_ret (Or.inl ⟨rfl, rfl, c2', ⟨?_, c3⟩, f2.trans (c4.mono (fun i z => by omega))⟩)
          rw [c4.2.2 _ (by omega)]; exact c2
        · rw [show isB (nI 0) = true from rfl, chk_t, nu2_n c1]
          exact wp_ret (Or.inr ⟨rfl, c2', f2.trans (c3.mono (fun i z => z.elim))⟩)
      by_cases q1 : tkK B n (j + 1 + 1 + 1) = 1
      · rw [if_pos (i1.mpr q1), inb_nI (by omega) (by omega), chk_t, nI_clamp (by omega), b2.2.2.2.2 q1, c2]
        by_cases qv : tkV B n (j + 1 + 1 + 1) = tkV B n (j + 1)
        · rw [if_pos qv]
          obtain ⟨m3, l1, l2, l3, l4, l5, l6⟩ := w_bad (N := N) b2 2
          rw [l1, bd_s, show isB (nI 0) = true from rfl, chk_t, nu2_a q1 qv.symm]
          exact wp_ret (Or.inr ⟨rfl, ⟨by simp, l2, l3⟩, f2.trans ⟨fun x x1 _ => l6 x x1, fun i hi => l5 i (by omega) (by omega), fun i _ => by rw [l6 130 (by decide)]⟩⟩)
        · rw [if_neg qv]
          exact num (fun _ z => qv z.symm)
      · rw [if_neg (fun z => q1 (i1.mp z))]
        exact num (fun z => absurd z q1)
    · rw [if_pos rfl, b1, nu2_f (by simp)]
      exact wp_ret (Or.inr ⟨rfl, b2, (a5.mono (fun i z => by omega)).trans (b3.mono (fun i z => z.elim))⟩)
  · rw [if_pos rfl]
    have hc : ((tkK B n (j + 1) ≠ 1 ∧ e = 1) ∨ (tkK B n (j + 1) = 1 ∧ ¬ (nI 0 ≤ tkV B n (j + 1) ∧ tkV B n (j + 1) ≤ hH) ∧ e = 2)) ∧ j' = j + 1 := by
      rcases a1 with ⟨z, -⟩ | ⟨-, z⟩
      · unfold woR at z
        rw [if_neg (by simp), if_pos hk0] at z
        cases z
      · exact z
    obtain ⟨hc, rfl⟩ := hc
    have he : e ≠ 0 := by omega
    rw [nu1_n hc, woR_f (by exact he), nu2_f (by exact he)]
    exact wp_ret (Or.inr ⟨rfl, a2, a3.mono (fun i z => z.elim)⟩)
theorem w_aRow (hN : 20000 ≤ N) (hk : k = 1 ∨ k = 2 ∨ k = 3) (h : RT B n k j m) (hb : bgn k (tkK B n j) = true) (h15 : m 123 15 = nI r) (hr : r < 16) (hH1 : m 124 37 - nI 1 = hH) (hD1 : m 124 38 - nI 1 = hD) :
    Wp (f_X12_aRow N m) (rowOk B n k r (tkK B n j) m (rowS (tkK B n) (tkV B n) hH hD k (tkK B n j) (0, j + 1, nI 0, nI 0))) := by
  have h12 := h.1.1
  unfold f_X12_aRow
  simp only [li_0, li_1, li_2, li_3, li_4, li_5, li_6, li_7, li_8, li_9, li_10, li_11, li_12, li_13, li_14, li_15, li_16, li_17, li_18, li_19, li_20, li_21, li_22, li_23, li_24, li_25, li_26, li_27, li_28, li_29, li_30, li_31, li_32, li_37, li_38, li_39, li_40, li_41, li_42, li_43, li_44, li_45, li_46, li_47, li_48, li_49, li_50, li_57, li_59, li_60, li_61, li_62, li_63, li_64, li_65, li_69, li_81, li_89, li_90, li_92, li_97, li_99, li_100, li_101, li_103, li_104, li_105, li_106, li_108, li_111, li_112, li_113, li_114, li_115, li_116, li_117, li_119, li_122, li_123, li_124, li_125, li_126, li_127, li_128, li_129, li_130, li_131, li_132, li_133, li_134, li_135, li_136, li_137, li_140, li_141, li_142, li_143, li_145, li_147, li_150, li_153, li_159, li_160, li_161, li_162, li_185, li_197, li_213, li_222, li_223, li_255, li_256, li_257, li_258, li_259, li_260, li_261, li_262, li_263, li_264, li_271, li_272, li_273, li_274, li_275, li_276, li_277, li_278, li_300, li_400, li_420, li_500, li_802, li_820, li_823, li_839, li_855, li_871, li_887, li_999, li_1000, li_1001, li_1002, li_1003, li_1004, li_1005, li_1006, li_1007, li_1008, li_1009, li_1010, li_1011, li_1012, li_1013, li_1014, li_1015, li_1016, li_1017, li_1018, li_1019, li_1020, li_1021, li_1022, li_1023, li_1707, li_4096, li_9999, li_65536, li_100000, li_1000000, li_1664525, li_100000000, li_252645135, li_858993459, li_1000000007, li_1013904223, li_1431655765, li_m1]
  rcases hk with rfl | rfl | rfl
  · rw [if_pos h12]
    obtain ⟨s, e1, e2⟩ := w_aRule (hD := hD) hN h hb h15 hr hH1
    rw [← e1]
    refine w_sign (cells := fun m' => m' 130 (3 * r) = nI (trK 1 (tkK B n j)) ∧ m' 130 (3 * r + 1) = s.2.2.1 ∧ m' 130 (3 * r + 2) = s.2.2.2) hN (Or.inl rfl) (fun m1 m2 hl hc => by rw [hl.1 130 (by decide)]; exact hc) ?_ e2
    funext m'
    rw [if_pos rfl]
  · rw [if_neg (by rw [h12]; decide), if_pos h12]
    obtain ⟨s, e1, e2⟩ := w_aPiece (hH := hH) hN h hb h15 hr hD1
    rw [← e1]
    refine w_sign (cells := fun m' => m' 130 (2 * r) = s.2.2.1 ∧ m' 130 (2 * r + 1) = s.2.2.2) hN (Or.inr (Or.inl rfl)) (fun m1 m2 hl hc => by rw [hl.1 130 (by decide)]; exact hc) ?_ e2
    funext m'
    rw [if_neg (by decide)]
  · rw [if_neg (by rw [h12]; decide), if_neg (by rw [h12]; decide)]
    obtain ⟨s, e1, e2⟩ := w_aSeat (hD := hD) hN h hb h15 hr hH1
    rw [← e1]
    refine w_sign (cells := fun m' => m' 130 (2 * r) = s.2.2.1 ∧ m' 130 (2 * r + 1) = s.2.2.2) hN (Or.inr (Or.inr rfl)) (fun m1 m2 hl hc => by rw [hl.1 130 (by decide)]; exact hc) ?_ e2
    funext m'
    rw [if_neg (by decide)]
theorem bgn_t : ∀ c, c < 279 → ((7 ≤ trK 1 c ∧ trK 1 c ≤ 10) ↔ bgn 1 c = true) ∧ (trK 2 c = 12 ↔ bgn 2 c = true) ∧ (trK 3 c = 14 ↔ bgn 3 c = true) := by decide +kernel
theorem e_beginsM (hk : k = 1 ∨ k = 2 ∨ k = 3) (h : RT B n k j m) : f_X12_begins N m = some (b2i (bgn k (tkK B n j)), m) := by
  have h12 := h.1.1
  obtain ⟨t1, t2, t3⟩ := bgn_t _ h.c
  have ht := trK_lt k (by omega) _ h.c
  have e2 : ∀ (c : Prop) [Decidable c] (b : Bool), (c ↔ b = true) → (if c then some (nI 1, m) else some (nI 0, m)) = some (b2i b, m) := by
    intro c _ b hc
    by_cases q : c
    · rw [if_pos q, hc.mp q]; rfl
    · rw [if_neg q]
      cases b with
      | true => exact absurd (hc.mpr rfl) q
      | false => rfl
  unfold f_X12_begins
  simp only [li_0, li_1, li_2, li_3, li_4, li_5, li_6, li_7, li_8, li_9, li_10, li_11, li_12, li_13, li_14, li_15, li_16, li_17, li_18, li_19, li_20, li_21, li_22, li_23, li_24, li_25, li_26, li_27, li_28, li_29, li_30, li_31, li_32, li_37, li_38, li_39, li_40, li_41, li_42, li_43, li_44, li_45, li_46, li_47, li_48, li_49, li_50, li_57, li_59, li_60, li_61, li_62, li_63, li_64, li_65, li_69, li_81, li_89, li_90, li_92, li_97, li_99, li_100, li_101, li_103, li_104, li_105, li_106, li_108, li_111, li_112, li_113, li_114, li_115, li_116, li_117, li_119, li_122, li_123, li_124, li_125, li_126, li_127, li_128, li_129, li_130, li_131, li_132, li_133, li_134, li_135, li_136, li_137, li_140, li_141, li_142, li_143, li_145, li_147, li_150, li_153, li_159, li_160, li_161, li_162, li_185, li_197, li_213, li_222, li_223, li_255, li_256, li_257, li_258, li_259, li_260, li_261, li_262, li_263, li_264, li_271, li_272, li_273, li_274, li_275, li_276, li_277, li_278, li_300, li_400, li_420, li_500, li_802, li_820, li_823, li_839, li_855, li_871, li_887, li_999, li_1000, li_1001, li_1002, li_1003, li_1004, li_1005, li_1006, li_1007, li_1008, li_1009, li_1010, li_1011, li_1012, li_1013, li_1014, li_1015, li_1016, li_1017, li_1018, li_1019, li_1020, li_1021, li_1022, li_1023, li_1707, li_4096, li_9999, li_65536, li_100000, li_1000000, li_1664525, li_100000000, li_252645135, li_858993459, li_1000000007, li_1013904223, li_1431655765, li_m1]
  rcases hk with rfl | rfl | rfl
  · rw [if_pos h12, e_isIn, bd_s, h.2.1, rng_is (by omega) (by omega) (by omega), isB_b2i, chk_t]
    cases hb : bgn 1 (tkK B n j) with
    | true => rw [decide_eq_true (t1.mpr hb)]
    | false => rw [decide_eq_false (fun z => by rw [t1.mp z] at hb; cases hb)]
  · rw [if_neg (by rw [h12]; decide), if_pos h12, h.2.1]
    exact e2 _ _ (by rw [nI_eq (by omega) (by omega)]; exact t2)
  · rw [if_neg (by rw [h12]; decide), if_neg (by rw [h12]; decide), h.2.1]
    exact e2 _ _ (by rw [nI_eq (by omega) (by omega)]; exact t3)
/-- the rows that are read stand on both sides -/
def RwQ (k : Nat) (m : Mem) (R : List Rw4) : Prop := ∀ i q, R[i]? = some q → bgn k q.1 = true ∧ q.2.2.2 = nI 0 ∧ (if k = 1 then m 130 (3 * i) = nI (trK 1 q.1) ∧ m 130 (3 * i + 1) = q.2.1 ∧ m 130 (3 * i + 2) = q.2.2.1 else m 130 (2 * i) = q.2.1 ∧ m 130 (2 * i + 1) = q.2.2.1)
theorem tpS_row (h0 : K j ≠ 0) (hb : bgn k (K j) = true) (hR : R.length ≠ 16) (hk : k ≠ 0) : tpS K V hH hD k (0, j, C, R) = ((rowS K V hH hD k (K j) (0, j + 1, nI 0, nI 0)).1, (rowS K V hH hD k (K j) (0, j + 1, nI 0, nI 0)).2.1, C, R ++ [(K j, (rowS K V hH hD k (K j) (0, j + 1, nI 0, nI 0)).2.2.1, (rowS K V hH hD k (K j) (0, j + 1, nI 0, nI 0)).2.2.2, nI 0)]) := by
  unfold tpS
  rw [if_neg (fun z => z.elim (fun y => y rfl) h0), if_neg (by rw [hb]; decide), if_neg hR, if_neg hk]
theorem NF.gr {p : Nat → Prop} (h : NF p m m1) : Gr m m1 := ⟨fun x x1 x2 x3 x4 => h.1 x x1 x4, fun l l1 l2 => h.2.1 l (by omega)⟩
theorem woR_le {w : Nat} (hK : ∀ j, j ≤ M → K j ≠ 0 → j < M) (hw : w ≠ 0) (h : s.2.1 ≤ M) : (woR K w s).2.1 ≤ M := by
  unfold woR
  split
  · exact h
  · split
    · rename_i q
      exact hK _ h (by rw [q]; exact hw)
    · exact h
theorem nu1_le (hK : ∀ j, j ≤ M → K j ≠ 0 → j < M) (h : s.2.1 ≤ M) : (nu1 K V lo hi s).2.1 ≤ M := by
  unfold nu1
  split
  · exact h
  · split
    · rename_i q
      split
      · exact hK _ h (by rw [q]; decide)
      · exact h
    · exact h
theorem nu2_le {al : Bool} (hK : ∀ j, j ≤ M → K j ≠ 0 → j < M) (h : s.2.1 ≤ M) : (nu2 K V al lo hi s).2.1 ≤ M := by
  unfold nu2
  split
  · exact h
  · split
    · rename_i q
      split
      · exact hK _ h (by rw [q]; decide)
      · exact h
    · exact h
theorem rowS_le (hK : ∀ j, j ≤ M → K j ≠ 0 → j < M) (h : s.2.1 ≤ M) : (rowS K V hH hD k k0 s).2.1 ≤ M := by
  unfold rowS
  split
  · refine woR_le hK (by decide) ?_
    split
    · exact nu2_le hK (woR_le hK (by decide) (nu1_le hK h))
    · split
      · exact nu1_le hK h
      · split
        · exact nu1_le hK h
        · exact nu1_le hK h
  · split
    · exact woR_le hK (by decide) (nu2_le hK (woR_le hK (by decide) (nu1_le hK h)))
    · exact woR_le hK (by decide) (nu2_le hK (woR_le hK (by decide) (nu1_le hK h)))
theorem w_readsRows (hN : 20000 ≤ N) (hM : Mt B n M) (hk : k = 1 ∨ k = 2 ∨ k = 3) (h : RT B n k 0 m) (hH1 : m 124 37 - nI 1 = hH) (hD1 : m 124 38 - nI 1 = hD) :
    Wp (f_X12_readsRows N m) (fun v m' => (v = nI 1 ∧ ∃ c j R, itt (tpS (tkK B n) (tkV B n) hH hD k) c (0, 0, [], []) = (0, j, [], R) ∧ tkK B n j = 0 ∧ RwQ k m' R ∧ m' 123 15 = nI R.length ∧ R.length ≤ 16 ∧ Gr m m') ∨ (v = nI 0 ∧ rdN B n k hH hD m m')) := by
  have hM4 := hM.1
  have hk4 : k < 4 := by omega
  have hkn : k ≠ 0 := by omega
  unfold f_X12_readsRows
  simp only [li_0, li_1, li_2, li_3, li_4, li_5, li_6, li_7, li_8, li_9, li_10, li_11, li_12, li_13, li_14, li_15, li_16, li_17, li_18, li_19, li_20, li_21, li_22, li_23, li_24, li_25, li_26, li_27, li_28, li_29, li_30, li_31, li_32, li_37, li_38, li_39, li_40, li_41, li_42, li_43, li_44, li_45, li_46, li_47, li_48, li_49, li_50, li_57, li_59, li_60, li_61, li_62, li_63, li_64, li_65, li_69, li_81, li_89, li_90, li_92, li_97, li_99, li_100, li_101, li_103, li_104, li_105, li_106, li_108, li_111, li_112, li_113, li_114, li_115, li_116, li_117, li_119, li_122, li_123, li_124, li_125, li_126, li_127, li_128, li_129, li_130, li_131, li_132, li_133, li_134, li_135, li_136, li_137, li_140, li_141, li_142, li_143, li_145, li_147, li_150, li_153, li_159, li_160, li_161, li_162, li_185, li_197, li_213, li_222, li_223, li_255, li_256, li_257, li_258, li_259, li_260, li_261, li_262, li_263, li_264, li_271, li_272, li_273, li_274, li_275, li_276, li_277, li_278, li_300, li_400, li_420, li_500, li_802, li_820, li_823, li_839, li_855, li_871, li_887, li_999, li_1000, li_1001, li_1002, li_1003, li_1004, li_1005, li_1006, li_1007, li_1008, li_1009, li_1010, li_1011, li_1012, li_1013, li_1014, li_1015, li_1016, li_1017, li_1018, li_1019, li_1020, li_1021, li_1022, li_1023, li_1707, li_4096, li_9999, li_65536, li_100000, li_1000000, li_1664525, li_100000000, li_252645135, li_858993459, li_1000000007, li_1013904223, li_1431655765, li_m1]
  rw [bnd_s]
  have r1 : RT B n k 0 (mset m 123 15 (nI 0)) := h.lk (fun x x1 x2 x3 x4 => mset_ne x1) (fun i hi => mset_j (by omega))
  have g1 : Gr m (mset m 123 15 (nI 0)) := ⟨fun x x1 x2 x3 x4 => mset_ne x1, fun l l1 l2 => mset_j (by omega)⟩
  refine wp_it1 (fun q a m' => (∃ c j R, q = M + 1 - j ∧ a = nI 1 ∧ itt (tpS (tkK B n) (tkV B n) hH hD k) c (0, 0, [], []) = (0, j, [], R) ∧ RwQ k m' R ∧ j ≤ M ∧ m' 123 15 = nI R.length ∧ R.length ≤ 16 ∧ RT B n k j m' ∧ Gr m m') ∨ (q = 0 ∧ a = nI 0 ∧ rdN B n k hH hD m m')) ?_ N (M + 1) _ _ (by omega)
    (Or.inl ⟨0, 0, [], rfl, rfl, rfl, fun i l hl => by simp at hl, Nat.zero_le _, mset_at _ _ _ _, by simp, r1, g1⟩)
  rintro q X a m2 (⟨c, j, R, rfl, rfl, b1, b2, b5, b6, b7, b8, b9⟩ | ⟨rfl, rfl, b1⟩) hX
  · have t0 : trK k (tkK B n j) = 0 ↔ tkK B n j = 0 := by
      have : ∀ k, k < 4 → ∀ c, c < 279 → (trK k c = 0 ↔ c = 0) := by decide +kernel
      exact this k hk4 _ b8.c
    have i0 := b8.isK hk4 t0 (by decide)
    unfold f_X12_readsRows_L7
    simp only [li_0, li_1, li_2, li_3, li_4, li_5, li_6, li_7, li_8, li_9, li_10, li_11, li_12, li_13, li_14, li_15, li_16, li_17, li_18, li_19, li_20, li_21, li_22, li_23, li_24, li_25, li_26, li_27, li_28, li_29, li_30, li_31, li_32, li_37, li_38, li_39, li_40, li_41, li_42, li_43, li_44, li_45, li_46, li_47, li_48, li_49, li_50, li_57, li_59, li_60, li_61, li_62, li_63, li_64, li_65, li_69, li_81, li_89, li_90, li_92, li_97, li_99, li_100, li_101, li_103, li_104, li_105, li_106, li_108, li_111, li_112, li_113, li_114, li_115, li_116, li_117, li_119, li_122, li_123, li_124, li_125, li_126, li_127, li_128, li_129, li_130, li_131, li_132, li_133, li_134, li_135, li_136, li_137, li_140, li_141, li_142, li_143, li_145, li_147, li_150, li_153, li_159, li_160, li_161, li_162, li_185, li_197, li_213, li_222, li_223, li_255, li_256, li_257, li_258, li_259, li_260, li_261, li_262, li_263, li_264, li_271, li_272, li_273, li_274, li_275, li_276, li_277, li_278, li_300, li_400, li_420, li_500, li_802, li_820, li_823, li_839, li_855, li_871, li_887, li_999, li_1000, li_1001, li_1002, li_1003, li_1004, li_1005, li_1006, li_1007, li_1008, li_1009, li_1010, li_1011, li_1012, li_1013, li_1014, li_1015, li_1016, li_1017, li_1018, li_1019, li_1020, li_1021, li_1022, li_1023, li_1707, li_4096, li_9999, li_65536, li_100000, li_1000000, li_1664525, li_100000000, li_252645135, li_858993459, li_1000000007, li_1013904223, li_1431655765, li_m1]
    rw [if_neg (by decide)]
    by_cases q0 : tkK B n j = 0
    · rw [if_pos (i0.mpr q0), show isB (nI 1) = true from rfl, chk_t]
      exact wp_ret (Or.inl ⟨rfl, c, j, R, b1, q0, b2, b6, b7, b9⟩)
    · have hjM := hM.lt b5 rfl q0
      have ei := itt_s (F := tpS (tkK B n) (tkV B n) hH hD k) (s := (0, 0, [], [])) c
      rw [b1] at ei
      rw [if_neg (fun z => q0 (i0.mp z)), e_beginsM hk b8, bd_s, if_b2i]
      have bad : ∀ e, (0 < e ∧ e < 4) → tpS (tkK B n) (tkV B n) hH hD k (0, j, [], R) = (e, j, [], R) → Wp (bd (f_X12_bad N (nI e) m2) fun r_27 m_27 => chk (isB r_27) (some (r_27, m_27))) (fun v m' => (v = nI 1 ∧ ∃ c j R, itt (tpS (tkK B n) (tkV B n) hH hD k) c (0, 0, [], []) = (0, j, [], R) ∧ tkK B n j = 0 ∧ RwQ k m' R ∧ m' 123 15 = nI R.length ∧ R.length ≤ 16 ∧ Gr m m') ∨ (v = nI 0 ∧ rdN B n k hH hD m m')) := by
        intro e he ht
        obtain ⟨m3, l1, l2, l3, l4, -⟩ := w_bad (N := N) b8 e
        rw [l1, bd_s, show isB (nI 0) = true from rfl, chk_t]
        have e0 : e ≠ 0 := by omega
        rw [ht] at ei
        refine wp_ret (Or.inr ⟨rfl, c + 1, ?_, ?_, ?_, ?_, b9.trans (Gl.gr (i := 0) l4.gl)⟩)
        · rw [ei]; exact Or.inl e0
        · rw [ei]; exact e0
        · rw [ei]; exact l2
        · rw [ei]; exact l3
      cases qb : bgn k (tkK B n j) with
      | false =>
        rw [if_neg (by decide)]
        exact bad 1 (by decide) (tpS_nb q0 qb)
      | true =>
        rw [if_pos rfl, b6]
        by_cases q16 : R.length = 16
        · rw [if_pos (by rw [q16])]
          exact bad 3 (by decide) (tpS_16 q0 qb q16)
        · rw [if_neg (nI_ne q16 (by omega) (by omega))]
          rw [tpS_row q0 qb q16 hkn] at ei
          have up := rowS_up (k := k) (k0 := tkK B n j) (hH := hH) (hD := hD) (K := tkK B n) (V := tkV B n) (0, j + 1, nI 0, nI 0)
          refine wp_bind (w_aRow (hH := hH) (hD := hD) hN hk b8 qb b6 (by omega) (by rw [b9.1 124 (by decide) (by decide) (by decide) (by decide)]; exact hH1) (by rw [b9.1 124 (by decide) (by decide) (by decide) (by decide)]; exact hD1)) ?_
          have le := rowS_le (M := M) (k := k) (k0 := tkK B n j) (hH := hH) (hD := hD) (K := tkK B n) (V := tkV B n) (s := (0, j + 1, nI 0, nI 0)) (fun j hj h => hM.lt hj rfl h) hjM
          revert ei up le
          generalize rowS (tkK B n) (tkV B n) hH hD k (tkK B n j) (0, j + 1, nI 0, nI 0) = s
          intro ei up le
          obtain ⟨f, j', a, b⟩ := s
          simp only at ei up le
          rintro v m3 (⟨rfl, c1, c2, c3, c4⟩ | ⟨rfl, c1, c2⟩)
          · have c1 : f = 0 := c1
            subst c1
            have hj'M : j' ≤ M := le
            rw [if_neg (by decide), c4.2.1 15 (by decide), b6, nI_up, bnd_s]
            refine hX (M + 1 - j') _ _ (by omega) (Or.inl ⟨c + 1, j', R ++ [(tkK B n j, a, b, nI 0)], rfl, rfl, ei, ?_, hj'M, by rw [mset_at, List.length_append]; rfl, by rw [List.length_append]; simp; omega, c2.lk (fun x x1 x2 x3 x4 => mset_ne x1) (fun i hi => mset_j (by omega)), (b9.trans c4.gr).trans ⟨fun x x1 x2 x3 x4 => mset_ne x1, fun l l1 l2 => mset_j (by omega)⟩⟩)
            intro i q hq
            rw [mset_ne (by decide)]
            by_cases ei : i < R.length
            · rw [List.getElem?_append_left ei] at hq
              obtain ⟨d1, d2, d3⟩ := b2 i q hq
              refine ⟨d1, d2, ?_⟩
              rcases hk with rfl | rfl | rfl
              · rw [if_pos rfl] at d3 ⊢
                have c4' := c4.2.2
                rw [c4' _ (by simp; omega), c4' _ (by simp; omega), c4' _ (by simp; omega)]
                exact d3
              · rw [if_neg (by decide)] at d3 ⊢
                have c4' := c4.2.2
                rw [c4' _ (by simp; omega), c4' _ (by simp; omega)]
                exact d3
              · rw [if_neg (by decide)] at d3 ⊢
                have c4' := c4.2.2
                rw [c4' _ (by simp; omega), c4' _ (by simp; omega)]
                exact d3
            · rw [List.getElem?_append_right (by omega)] at hq
              have : i = R.length := by
                refine Decidable.by_contra fun z => ?_
                rw [List.getElem?_eq_none (by simp; omega)] at hq
                cases hq
              subst this
              rw [Nat.sub_self] at hq
              cases hq
              exact ⟨qb, rfl, c3⟩
          · have hf : f ≠ 0 := by have := c1.1.1; simp only at this; omega
            rw [if_pos rfl, bnd_s]
            refine hX 0 _ _ (by omega) (Or.inr ⟨rfl, rfl, c + 1, ?_, ?_, ?_, ?_, ?_⟩)
            · rw [ei]; exact Or.inl hf
            · rw [ei]; exact hf
            · rw [ei, mset_j (by decide)]; exact c1.2.1
            · rw [ei, mset_j (by decide)]; exact c1.2.2
            · exact (b9.trans c2.gr).trans ⟨fun x x1 x2 x3 x4 => mset_ne x1, fun l l1 l2 => mset_j (by omega)⟩
  · unfold f_X12_readsRows_L7
    simp only [li_0, li_1, li_2, li_3, li_4, li_5, li_6, li_7, li_8, li_9, li_10, li_11, li_12, li_13, li_14, li_15, li_16, li_17, li_18, li_19, li_20, li_21, li_22, li_23, li_24, li_25, li_26, li_27, li_28, li_29, li_30, li_31, li_32, li_37, li_38, li_39, li_40, li_41, li_42, li_43, li_44, li_45, li_46, li_47, li_48, li_49, li_50, li_57, li_59, li_60, li_61, li_62, li_63, li_64, li_65, li_69, li_81, li_89, li_90, li_92, li_97, li_99, li_100, li_101, li_103, li_104, li_105, li_106, li_108, li_111, li_112, li_113, li_114, li_115, li_116, li_117, li_119, li_122, li_123, li_124, li_125, li_126, li_127, li_128, li_129, li_130, li_131, li_132, li_133, li_134, li_135, li_136, li_137, li_140, li_141, li_142, li_143, li_145, li_147, li_150, li_153, li_159, li_160, li_161, li_162, li_185, li_197, li_213, li_222, li_223, li_255, li_256, li_257, li_258, li_259, li_260, li_261, li_262, li_263, li_264, li_271, li_272, li_273, li_274, li_275, li_276, li_277, li_278, li_300, li_400, li_420, li_500, li_802, li_820, li_823, li_839, li_855, li_871, li_887, li_999, li_1000, li_1001, li_1002, li_1003, li_1004, li_1005, li_1006, li_1007, li_1008, li_1009, li_1010, li_1011, li_1012, li_1013, li_1014, li_1015, li_1016, li_1017, li_1018, li_1019, li_1020, li_1021, li_1022, li_1023, li_1707, li_4096, li_9999, li_65536, li_100000, li_1000000, li_1664525, li_100000000, li_252645135, li_858993459, li_1000000007, li_1013904223, li_1431655765, li_m1]
    rw [if_pos trivial, show isB (nI 0) = true from rfl, chk_t]
    exact wp_ret (Or.inr ⟨rfl, b1⟩)
end ROWM
