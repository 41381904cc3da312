/-! brides -/
section BRIDES
variable {w w' v0 : Arr} {LN : List Lin} {m m' m2 : Mem} {N d n j i : Nat}
def pdS (w : Arr) : Nat → Nat
  | 0 => 0
  | n + 1 => pdS w n + if (zt w).testBit n = true ∧ ¬ w (9 + n) ≤ nI 0 then 1 else 0
def unS (w : Arr) : Nat → Nat
  | 0 => 0
  | n + 1 => unS w n + if (zt w).testBit n = true ∧ w (9 + n) ≤ nI 0 then 1 else 0
theorem pd_un : ∀ n, pcN n (zt w) = pdS w n + unS w n
  | 0 => rfl
  | n + 1 => by
    have ih := pd_un n
    unfold pcN pdS unS
    rw [ih]
    cases hb : (zt w).testBit n with
    | false =>
      rw [if_neg (fun z => by cases z.1), if_neg (fun z => by cases z.1)]
      show _ + 0 = _
      omega
    | true =>
      by_cases q : w (9 + n) ≤ nI 0
      · rw [if_neg (fun z => z.2 q), if_pos ⟨rfl, q⟩]
        show _ + 1 = _
        omega
      · rw [if_pos ⟨rfl, q⟩, if_neg (fun z => q z.2)]
        show _ + 1 = _
        omega
theorem pcN_hi {x n : Nat} (h : x < 2 ^ n) : ∀ k, n ≤ k → pcN k x = pcN n x
  | 0, hk => by rw [show n = 0 by omega]
  | k + 1, hk => by
    by_cases e : n = k + 1
    · rw [e]
    · have ih := pcN_hi h k (by omega)
      show pcN k x + (x.testBit k).toNat = _
      rw [Nat.testBit_lt_two_pow (Nat.lt_of_lt_of_le h (Nat.pow_le_pow_right (by decide) (show n ≤ k by omega))), ih]
      rfl
theorem pd_le : ∀ n, pdS w n ≤ n ∧ unS w n ≤ n
  | 0 => ⟨Nat.le_refl _, Nat.le_refl _⟩
  | n + 1 => by
    have := pd_le n
    unfold pdS unS
    constructor <;> split <;> omega
def brI (M : Nat) : Nat → Int64
  | 0 => 1
  | i + 1 => lrm (brI M i * ((nI M - nI i).toInt64)) 1000000007
theorem mn_n {a b : Nat} (ha : a < 2 ^ 31) (hb : b < 2 ^ 31) : (if nI b < nI a then nI b else nI a) = nI (min a b) := by
  by_cases q : b < a
  · rw [if_pos (nI_lt q ha), Nat.min_eq_right (by omega)]
  · rw [if_neg (nI_nlt (by omega) (by omega)), Nat.min_eq_left (by omega)]
theorem mx_n {a b : Nat} (ha : a < 2 ^ 31) (hb : b < 2 ^ 31) : (if nI a < nI b then nI b else nI a) = nI (max a b) := by
  by_cases q : a < b
  · rw [if_pos (nI_lt q hb), Nat.max_eq_right (by omega)]
  · rw [if_neg (nI_nlt (by omega) (by omega)), Nat.max_eq_left (by omega)]
theorem w_bridesC (hN : 20000 ≤ N) (H : HRep 2 LN w m) (W0 : WFc w) : Wp (f_X11_brides N m) (fun v m' => v = (brI (max (pdS w (zh w)) (unS w (zh w))) (min (pdS w (zh w)) (unS w (zh w)))).toInt32 ∧ m' = m) := by
  have lh := W0.lzh
  unfold f_X11_brides
  refine wp_it3 (fun q x y z m' => ∃ i, i ≤ zh w ∧ q = zh w - i ∧ x = nI (pdS w i) ∧ y = nI (unS w i) ∧ z = nI i ∧ m' = m) ?_ N (zh w) _ _ _ _ (by omega) ⟨0, by omega, rfl, rfl, rfl, rfl, rfl⟩
  rintro q X x y z m' ⟨i, hi, rfl, rfl, rfl, rfl, rfl⟩ hX
  have lp := pd_le (w := w) i
  unfold f_X11_brides_L6
  simp only [li_0, li_1, li_2, li_3, li_4, li_5, li_6, li_7, li_8, li_9, li_10, li_11, li_12, li_13, li_14, li_15, li_16, li_17, li_18, li_19, li_20, li_21, li_22, li_23, li_24, li_25, li_26, li_27, li_28, li_29, li_30, li_31, li_32, li_37, li_38, li_39, li_40, li_41, li_42, li_43, li_44, li_45, li_46, li_47, li_48, li_49, li_50, li_57, li_59, li_60, li_61, li_62, li_63, li_64, li_65, li_69, li_81, li_89, li_90, li_92, li_97, li_99, li_100, li_101, li_103, li_104, li_105, li_106, li_108, li_111, li_112, li_113, li_114, li_115, li_116, li_117, li_119, li_122, li_123, li_124, li_125, li_126, li_127, li_128, li_129, li_130, li_131, li_132, li_133, li_134, li_135, li_136, li_137, li_140, li_141, li_142, li_143, li_145, li_147, li_150, li_153, li_159, li_160, li_161, li_162, li_185, li_197, li_213, li_222, li_223, li_255, li_256, li_257, li_258, li_259, li_260, li_261, li_262, li_263, li_264, li_271, li_272, li_273, li_274, li_275, li_276, li_277, li_278, li_300, li_400, li_420, li_500, li_802, li_820, li_823, li_839, li_855, li_871, li_887, li_999, li_1000, li_1001, li_1002, li_1003, li_1004, li_1005, li_1006, li_1007, li_1008, li_1009, li_1010, li_1011, li_1012, li_1013, li_1014, li_1015, li_1016, li_1017, li_1018, li_1019, li_1020, li_1021, li_1022, li_1023, li_1707, li_4096, li_9999, li_65536, li_100000, li_1000000, li_1664525, li_100000000, li_252645135, li_858993459, li_1000000007, li_1013904223, li_1431655765, li_m1, nI_up]
  rw [H.hea.1, W0.h37]
  refine wp_ite (fun q => ?_) (fun q => ?_) <;> rw [nI_leI (by omega) (by omega)] at q
  · have : i = zh w := by omega
    subst this
    rw [mx_n (by omega) (by omega), bnd_s]
    generalize pdS w (zh w) = a at lp ⊢
    generalize unS w (zh w) = b at lp ⊢
    refine wp_it2 (fun q x y m3 => ∃ k, k ≤ min a b ∧ q = min a b - k ∧ x = brI (max a b) k ∧ y = nI k ∧ m3 = m') ?_ N (min a b) _ _ _ (by omega) ⟨0, by omega, rfl, rfl, rfl, rfl⟩
    rintro q X2 x y m3 ⟨k, hk, rfl, rfl, rfl, rfl⟩ hX2
    unfold f_X11_brides_L78
    simp only [li_0, li_1, li_2, li_3, li_4, li_5, li_6, li_7, li_8, li_9, li_10, li_11, li_12, li_13, li_14, li_15, li_16, li_17, li_18, li_19, li_20, li_21, li_22, li_23, li_24, li_25, li_26, li_27, li_28, li_29, li_30, li_31, li_32, li_37, li_38, li_39, li_40, li_41, li_42, li_43, li_44, li_45, li_46, li_47, li_48, li_49, li_50, li_57, li_59, li_60, li_61, li_62, li_63, li_64, li_65, li_69, li_81, li_89, li_90, li_92, li_97, li_99, li_100, li_101, li_103, li_104, li_105, li_106, li_108, li_111, li_112, li_113, li_114, li_115, li_116, li_117, li_119, li_122, li_123, li_124, li_125, li_126, li_127, li_128, li_129, li_130, li_131, li_132, li_133, li_134, li_135, li_136, li_137, li_140, li_141, li_142, li_143, li_145, li_147, li_150, li_153, li_159, li_160, li_161, li_162, li_185, li_197, li_213, li_222, li_223, li_255, li_256, li_257, li_258, li_259, li_260, li_261, li_262, li_263, li_264, li_271, li_272, li_273, li_274, li_275, li_276, li_277, li_278, li_300, li_400, li_420, li_500, li_802, li_820, li_823, li_839, li_855, li_871, li_887, li_999, li_1000, li_1001, li_1002, li_1003, li_1004, li_1005, li_1006, li_1007, li_1008, li_1009, li_1010, li_1011, li_1012, li_1013, li_1014, li_1015, li_1016, li_1017, li_1018, li_1019, li_1020, li_1021, li_1022, li_1023, li_1707, li_4096, li_9999, li_65536, li_100000, li_1000000, li_1664525, li_100000000, li_252645135, li_858993459, li_1000000007, li_1013904223, li_1431655765, li_m1, nI_up]
    rw [mn_n (by omega) (by omega)]
    refine wp_ite (fun q => ?_) (fun q => ?_) <;> rw [nI_leI (by omega) (by omega)] at q
    · have : k = min a b := by omega
      subst this
      exact wp_ret ⟨rfl, rfl⟩
    · rw [bnd_s]
      exact hX2 (min a b - (k + 1)) _ _ _ (by omega) ⟨k + 1, by omega, rfl, rfl, rfl, rfl⟩
  · have e1 : pdS w (i + 1) = pdS w i + if (zt w).testBit i = true ∧ ¬ w (9 + i) ≤ nI 0 then 1 else 0 := rfl
    have e2 : unS w (i + 1) = unS w i + if (zt w).testBit i = true ∧ w (9 + i) ≤ nI 0 then 1 else 0 := rfl
    rw [hr_hea H W0 (by omega) (by decide), bd_s, show heaV w i 3 = b2i ((zt w).testBit i) from rfl]
    cases hb : (zt w).testBit i with
    | false =>
      rw [hb, if_neg (fun z => by cases z.1)] at e1 e2
      rw [if_neg (by decide)]
      exact hX (zh w - (i + 1)) _ _ _ _ (by omega) ⟨i + 1, by omega, rfl, by rw [e1]; rfl, by rw [e2]; rfl, rfl, rfl⟩
    | true =>
      rw [if_pos (by rfl), hr_hea H W0 (by omega) (by decide), bd_s, show heaV w i 5 = w (9 + i) from rfl]
      refine wp_ite (fun q2 => ?_) (fun q2 => ?_)
      · rw [if_neg (fun z => z.2 q2)] at e1
        rw [if_pos ⟨hb, q2⟩] at e2
        exact hX (zh w - (i + 1)) _ _ _ _ (by omega) ⟨i + 1, by omega, rfl, by rw [e1]; rfl, by rw [e2], rfl, rfl⟩
      · rw [if_pos ⟨hb, q2⟩] at e1
        rw [if_neg (fun z => q2 z.2)] at e2
        exact hX (zh w - (i + 1)) _ _ _ _ (by omega) ⟨i + 1, by omega, rfl, by rw [e1], by rw [e2]; rfl, rfl, rfl⟩
theorem e_paid (hN : 20000 ≤ N) (hm : m 124 = w) (W0 : WFc w) : f_X12_paidOnes N m = some (nI (pdS w (zh w)), m) := by
  have lh := W0.lzh
  refine Wp.toEq ?_
  unfold f_X12_paidOnes
  refine wp_it2 (fun q x z m' => ∃ i, i ≤ zh w ∧ q = zh w - i ∧ x = nI (pdS w i) ∧ z = nI i ∧ m' = m) ?_ N (zh w) _ _ _ (by omega) ⟨0, by omega, rfl, rfl, rfl, rfl⟩
  rintro q X x z m' ⟨i, hi, rfl, rfl, rfl, rfl⟩ hX
  have lp := pd_le (w := w) i
  have e1 : pdS w (i + 1) = pdS w i + if (zt w).testBit i = true ∧ ¬ w (9 + i) ≤ nI 0 then 1 else 0 := rfl
  unfold f_X12_paidOnes_L4
  simp only [li_0, li_1, li_2, li_3, li_4, li_5, li_6, li_7, li_8, li_9, li_10, li_11, li_12, li_13, li_14, li_15, li_16, li_17, li_18, li_19, li_20, li_21, li_22, li_23, li_24, li_25, li_26, li_27, li_28, li_29, li_30, li_31, li_32, li_37, li_38, li_39, li_40, li_41, li_42, li_43, li_44, li_45, li_46, li_47, li_48, li_49, li_50, li_57, li_59, li_60, li_61, li_62, li_63, li_64, li_65, li_69, li_81, li_89, li_90, li_92, li_97, li_99, li_100, li_101, li_103, li_104, li_105, li_106, li_108, li_111, li_112, li_113, li_114, li_115, li_116, li_117, li_119, li_122, li_123, li_124, li_125, li_126, li_127, li_128, li_129, li_130, li_131, li_132, li_133, li_134, li_135, li_136, li_137, li_140, li_141, li_142, li_143, li_145, li_147, li_150, li_153, li_159, li_160, li_161, li_162, li_185, li_197, li_213, li_222, li_223, li_255, li_256, li_257, li_258, li_259, li_260, li_261, li_262, li_263, li_264, li_271, li_272, li_273, li_274, li_275, li_276, li_277, li_278, li_300, li_400, li_420, li_500, li_802, li_820, li_823, li_839, li_855, li_871, li_887, li_999, li_1000, li_1001, li_1002, li_1003, li_1004, li_1005, li_1006, li_1007, li_1008, li_1009, li_1010, li_1011, li_1012, li_1013, li_1014, li_1015, li_1016, li_1017, li_1018, li_1019, li_1020, li_1021, li_1022, li_1023, li_1707, li_4096, li_9999, li_65536, li_100000, li_1000000, li_1664525, li_100000000, li_252645135, li_858993459, li_1000000007, li_1013904223, li_1431655765, li_m1, nI_add]
  rw [hm, W0.h37]
  refine wp_ite (fun q => ?_) (fun q => ?_) <;> rw [nI_leI (by omega) (by omega)] at q
  · have : i = zh w := by omega
    subst this
    exact wp_ret ⟨rfl, rfl⟩
  · rw [e_there hm W0 (by omega), bd_s]
    cases hb : (zt w).testBit i with
    | false =>
      rw [hb, if_neg (fun z => by cases z.1)] at e1
      rw [if_pos (by decide), bnd_s]
      exact hX (zh w - (i + 1)) _ _ _ (by omega) ⟨i + 1, by omega, rfl, by rw [e1], rfl, rfl⟩
    | true =>
      rw [if_neg (by decide), inb_nI (by omega) (by omega), chk_t, nI_clamp (by omega), hm]
      refine wp_ite (fun q2 => ?_) (fun q2 => ?_)
      · rw [if_neg (fun z => z.2 q2)] at e1
        rw [bnd_s]
        exact hX (zh w - (i + 1)) _ _ _ (by omega) ⟨i + 1, by omega, rfl, by rw [e1], rfl, rfl⟩
      · rw [if_pos ⟨hb, q2⟩] at e1
        rw [bnd_s]
        exact hX (zh w - (i + 1)) _ _ _ (by omega) ⟨i + 1, by omega, rfl, by rw [e1], rfl, rfl⟩
theorem pr_brides (hN : 20000 ≤ N) : Pr (f_X11_brides N) (f_X12_brides N) := by
  intro m hI
  obtain ⟨LN, H, G, -⟩ := id hI
  have lh := G.1.lzh
  have p := pow_le31 lh
  have hz := G.1.h7.2
  refine wp_mono (w_bridesC hN H G.1) ?_
  rintro _ m1 ⟨rfl, rfl⟩
  have lp := pd_le (w := m1 124) (zh (m1 124))
  have hpc : pc (zt (m1 124)) = pdS (m1 124) (zh (m1 124)) + unS (m1 124) (zh (m1 124)) := by
    rw [← pd_un]
    exact pcN_hi hz 12 lh
  unfold f_X12_brides
  rw [e_paid hN rfl G.1, bd_s, G.1.h7.1, e_count _ hN (by omega), bd_s, hpc, pk_sub (by omega), Nat.add_sub_cancel_left, bnd_s]
  generalize pdS (m1 124) (zh (m1 124)) = a at lp ⊢
  generalize unS (m1 124) (zh (m1 124)) = b at lp ⊢
  refine wp_it2 (fun q x y m3 => ∃ k, k ≤ min a b ∧ q = min a b - k ∧ x = brI (max a b) k ∧ y = nI k ∧ m3 = m1) ?_ N (min a b) _ _ _ (by omega) ⟨0, by omega, rfl, rfl, rfl, rfl⟩
  rintro q X2 x y m3 ⟨k, hk, rfl, rfl, rfl, rfl⟩ hX2
  unfold f_X12_brides_L23
  simp only [li_0, li_1, li_2, li_3, li_4, li_5, li_6, li_7, li_8, li_9, li_10, li_11, li_12, li_13, li_14, li_15, li_16, li_17, li_18, li_19, li_20, li_21, li_22, li_23, li_24, li_25, li_26, li_27, li_28, li_29, li_30, li_31, li_32, li_37, li_38, li_39, li_40, li_41, li_42, li_43, li_44, li_45, li_46, li_47, li_48, li_49, li_50, li_57, li_59, li_60, li_61, li_62, li_63, li_64, li_65, li_69, li_81, li_89, li_90, li_92, li_97, li_99, li_100, li_101, li_103, li_104, li_105, li_106, li_108, li_111, li_112, li_113, li_114, li_115, li_116, li_117, li_119, li_122, li_123, li_124, li_125, li_126, li_127, li_128, li_129, li_130, li_131, li_132, li_133, li_134, li_135, li_136, li_137, li_140, li_141, li_142, li_143, li_145, li_147, li_150, li_153, li_159, li_160, li_161, li_162, li_185, li_197, li_213, li_222, li_223, li_255, li_256, li_257, li_258, li_259, li_260, li_261, li_262, li_263, li_264, li_271, li_272, li_273, li_274, li_275, li_276, li_277, li_278, li_300, li_400, li_420, li_500, li_802, li_820, li_823, li_839, li_855, li_871, li_887, li_999, li_1000, li_1001, li_1002, li_1003, li_1004, li_1005, li_1006, li_1007, li_1008, li_1009, li_1010, li_1011, li_1012, li_1013, li_1014, li_1015, li_1016, li_1017, li_1018, li_1019, li_1020, li_1021, li_1022, li_1023, li_1707, li_4096, li_9999, li_65536, li_100000, li_1000000, li_1664525, li_100000000, li_252645135, li_858993459, li_1000000007, li_1013904223, li_1431655765, li_m1, nI_up]
  rw [e_lesser, bd_s, mn_n (by omega) (by omega)]
  refine wp_ite (fun q => ?_) (fun q => ?_) <;> rw [nI_leI (by omega) (by omega)] at q
  · have : k = min a b := by omega
    subst this
    exact wp_ret ⟨rfl, hI⟩
  · rw [e_greater, bd_s, mx_n (by omega) (by omega), bnd_s]
    exact hX2 (min a b - (k + 1)) _ _ _ (by omega) ⟨k + 1, by omega, rfl, rfl, rfl, rfl⟩
end BRIDES
