/-! fills, bargain -/
section FILLS
variable {w w' v0 : Arr} {LN : List Lin} {m m' m2 : Mem} {N d : Nat}
def vl (w : Arr) (d : Nat) : Nat := nv (w (81 + d))
def lg (w : Arr) (d : Nat) : Nat := nv (w (89 + d))
theorem dee_v (W0 : WFc w) (hd : d < zd w) : w (81 + d) = nI (vl w d) ∧ vl w d ≤ 9 ∧ w (89 + d) = nI (lg w d) ∧ 1 ≤ lg w d ∧ lg w d ≤ 60 := by
  obtain ⟨h1, k, k1, k2, e⟩ := W0.dee hd
  have el : lg w d = k := by
    unfold lg
    rw [e, nv_nI (by omega)]
  exact ⟨h1.eq (by decide), h1.le (by decide), by rw [el]; exact e, by omega, by omega⟩
def sm (f : Nat → Nat) (s : Nat → Bool) : Nat → Nat
  | 0 => 0
  | n + 1 => sm f s n + if s n = true then f n else 0
theorem sm_le {f : Nat → Nat} {s : Nat → Bool} {b n : Nat} (h : ∀ i, i < n → f i ≤ b) : sm f s n ≤ b * n := by
  induction n with
  | zero => exact Nat.zero_le _
  | succ n ih =>
    unfold sm
    have h1 := ih (fun i hi => h i (by omega))
    have h2 := h n (by omega)
    rw [Nat.mul_succ]
    split <;> omega
theorem w_sumOf {c S : Nat} {f : Nat → Nat} (hN : 20000 ≤ N) (H : HRep 2 LN w m) (W0 : WFc w) (hS : S < 2 ^ 31) (hc : c < 5) (hf : ∀ i, i < zd w → deeV w i c = nI (f i)) : f_X5_sumOf N (nI c) (nI S) m = some (nI (sm f S.testBit (zd w)), m) := by
  have ld := W0.lzd
  refine Wp.toEq ?_
  unfold f_X5_sumOf
  refine wp_it2 (fun n a c m' => ∃ i, i ≤ zd w ∧ n = zd w - i ∧ a = nI (sm f S.testBit i) ∧ c = nI i ∧ m' = m) ?_ N (zd w) _ _ _ (by omega) ⟨0, by omega, rfl, rfl, rfl, rfl⟩
  rintro n X a c' m' ⟨i, hi, rfl, rfl, rfl, rfl⟩ hX
  unfold f_X5_sumOf_L5
  simp only [li_0, li_1, li_2, li_3, li_4, li_5, li_6, li_7, li_8, li_9, li_10, li_11, li_12, li_13, li_14, li_15, li_16, li_17, li_18, li_19, li_20, li_21, li_22, li_23, li_24, li_25, li_26, li_27, li_28, li_29, li_30, li_31, li_32, li_37, li_38, li_39, li_40, li_41, li_42, li_43, li_44, li_45, li_46, li_47, li_48, li_49, li_50, li_57, li_59, li_60, li_61, li_62, li_63, li_64, li_65, li_69, li_81, li_89, li_90, li_92, li_97, li_99, li_100, li_101, li_103, li_104, li_105, li_106, li_108, li_111, li_112, li_113, li_114, li_115, li_116, li_117, li_119, li_122, li_123, li_124, li_125, li_126, li_127, li_128, li_129, li_130, li_131, li_132, li_133, li_134, li_135, li_136, li_137, li_140, li_141, li_142, li_143, li_145, li_147, li_150, li_153, li_159, li_160, li_161, li_162, li_185, li_197, li_213, li_222, li_223, li_255, li_256, li_257, li_258, li_259, li_260, li_261, li_262, li_263, li_264, li_271, li_272, li_273, li_274, li_275, li_276, li_277, li_278, li_300, li_400, li_420, li_500, li_802, li_820, li_823, li_839, li_855, li_871, li_887, li_999, li_1000, li_1001, li_1002, li_1003, li_1004, li_1005, li_1006, li_1007, li_1008, li_1009, li_1010, li_1011, li_1012, li_1013, li_1014, li_1015, li_1016, li_1017, li_1018, li_1019, li_1020, li_1021, li_1022, li_1023, li_1707, li_4096, li_9999, li_65536, li_100000, li_1000000, li_1664525, li_100000000, li_252645135, li_858993459, li_1000000007, li_1013904223, li_1431655765, li_m1, nI_up]
  rw [H.dee.1, W0.h38]
  refine wp_ite (fun q => ?_) (fun q => ?_)
  · rw [nI_leI (by omega) (by omega)] at q
    have : i = zd w := by omega
    subst this
    exact wp_ret ⟨rfl, rfl⟩
  · rw [nI_leI (by omega) (by omega)] at q
    have hB : sm f S.testBit (i + 1) = sm f S.testBit i + if S.testBit i = true then f i else 0 := rfl
    rw [e_isInX m' (by omega) hS, bd_s]
    cases hb : S.testBit i with
    | false =>
      rw [if_pos (by decide)]
      rw [hb, if_neg (by decide)] at hB
      exact hX (zd w - (i + 1)) _ _ _ (by omega) ⟨i + 1, by omega, rfl, by rw [hB]; rfl, rfl, rfl⟩
    | true =>
      rw [if_neg (by decide), hr_dee H W0 (by omega) hc, bd_s, bnd_s, hf i (by omega), nI_add]
      rw [hb, if_pos rfl] at hB
      exact hX (zd w - (i + 1)) _ _ _ (by omega) ⟨i + 1, by omega, rfl, by rw [hB], rfl, rfl⟩
theorem w_longM {S : Nat} (hN : 20000 ≤ N) (hm : m 124 = w) (W0 : WFc w) (hS : S < 2 ^ 31) : f_X12_longOf N (nI S) m = some (nI (sm (lg w) S.testBit (zd w)), m) := by
  have ld := W0.lzd
  refine Wp.toEq ?_
  unfold f_X12_longOf
  refine wp_it2 (fun n a c m' => ∃ i, i ≤ zd w ∧ n = zd w - i ∧ a = nI (sm (lg w) S.testBit i) ∧ c = nI i ∧ m' = m) ?_ N (zd w) _ _ _ (by omega) ⟨0, by omega, rfl, rfl, rfl, rfl⟩
  rintro n X a c' m' ⟨i, hi, rfl, rfl, rfl, rfl⟩ hX
  unfold f_X12_longOf_L4
  simp only [li_0, li_1, li_2, li_3, li_4, li_5, li_6, li_7, li_8, li_9, li_10, li_11, li_12, li_13, li_14, li_15, li_16, li_17, li_18, li_19, li_20, li_21, li_22, li_23, li_24, li_25, li_26, li_27, li_28, li_29, li_30, li_31, li_32, li_37, li_38, li_39, li_40, li_41, li_42, li_43, li_44, li_45, li_46, li_47, li_48, li_49, li_50, li_57, li_59, li_60, li_61, li_62, li_63, li_64, li_65, li_69, li_81, li_89, li_90, li_92, li_97, li_99, li_100, li_101, li_103, li_104, li_105, li_106, li_108, li_111, li_112, li_113, li_114, li_115, li_116, li_117, li_119, li_122, li_123, li_124, li_125, li_126, li_127, li_128, li_129, li_130, li_131, li_132, li_133, li_134, li_135, li_136, li_137, li_140, li_141, li_142, li_143, li_145, li_147, li_150, li_153, li_159, li_160, li_161, li_162, li_185, li_197, li_213, li_222, li_223, li_255, li_256, li_257, li_258, li_259, li_260, li_261, li_262, li_263, li_264, li_271, li_272, li_273, li_274, li_275, li_276, li_277, li_278, li_300, li_400, li_420, li_500, li_802, li_820, li_823, li_839, li_855, li_871, li_887, li_999, li_1000, li_1001, li_1002, li_1003, li_1004, li_1005, li_1006, li_1007, li_1008, li_1009, li_1010, li_1011, li_1012, li_1013, li_1014, li_1015, li_1016, li_1017, li_1018, li_1019, li_1020, li_1021, li_1022, li_1023, li_1707, li_4096, li_9999, li_65536, li_100000, li_1000000, li_1664525, li_100000000, li_252645135, li_858993459, li_1000000007, li_1013904223, li_1431655765, li_m1, nI_add]
  rw [hm, W0.h38]
  refine wp_ite (fun q => ?_) (fun q => ?_)
  · rw [nI_leI (by omega) (by omega)] at q
    have : i = zd w := by omega
    subst this
    exact wp_ret ⟨rfl, rfl⟩
  · rw [nI_leI (by omega) (by omega)] at q
    have hB : sm (lg w) S.testBit (i + 1) = sm (lg w) S.testBit i + if S.testBit i = true then lg w i else 0 := rfl
    refine wp_ite (fun qb => ?_) (fun qb => ?_) <;> rw [nz_bit hS (by omega)] at qb
    · rw [if_pos qb] at hB
      rw [inb_nI (by omega) (by omega), chk_t, nI_clamp (by omega), (dee_v W0 (show i < zd w by omega)).2.2.1, nI_add, bnd_s]
      exact hX (zd w - (i + 1)) _ _ _ (by omega) ⟨i + 1, by omega, rfl, by rw [hB], rfl, rfl⟩
    · rw [if_neg qb] at hB
      rw [bnd_s]
      exact hX (zd w - (i + 1)) _ _ _ (by omega) ⟨i + 1, by omega, rfl, by rw [hB], rfl, rfl⟩
theorem w_worthM {S : Nat} (hN : 20000 ≤ N) (hm : m 124 = w) (W0 : WFc w) (hS : S < 2 ^ 31) : f_X12_worthOf N (nI S) m = some (nI (sm (vl w) S.testBit (zd w)), m) := by
  have ld := W0.lzd
  refine Wp.toEq ?_
  unfold f_X12_worthOf
  refine wp_it2 (fun n a c m' => ∃ i, i ≤ zd w ∧ n = zd w - i ∧ a = nI (sm (vl w) S.testBit i) ∧ c = nI i ∧ m' = m) ?_ N (zd w) _ _ _ (by omega) ⟨0, by omega, rfl, rfl, rfl, rfl⟩
  rintro n X a c' m' ⟨i, hi, rfl, rfl, rfl, rfl⟩ hX
  unfold f_X12_worthOf_L4
  simp only [li_0, li_1, li_2, li_3, li_4, li_5, li_6, li_7, li_8, li_9, li_10, li_11, li_12, li_13, li_14, li_15, li_16, li_17, li_18, li_19, li_20, li_21, li_22, li_23, li_24, li_25, li_26, li_27, li_28, li_29, li_30, li_31, li_32, li_37, li_38, li_39, li_40, li_41, li_42, li_43, li_44, li_45, li_46, li_47, li_48, li_49, li_50, li_57, li_59, li_60, li_61, li_62, li_63, li_64, li_65, li_69, li_81, li_89, li_90, li_92, li_97, li_99, li_100, li_101, li_103, li_104, li_105, li_106, li_108, li_111, li_112, li_113, li_114, li_115, li_116, li_117, li_119, li_122, li_123, li_124, li_125, li_126, li_127, li_128, li_129, li_130, li_131, li_132, li_133, li_134, li_135, li_136, li_137, li_140, li_141, li_142, li_143, li_145, li_147, li_150, li_153, li_159, li_160, li_161, li_162, li_185, li_197, li_213, li_222, li_223, li_255, li_256, li_257, li_258, li_259, li_260, li_261, li_262, li_263, li_264, li_271, li_272, li_273, li_274, li_275, li_276, li_277, li_278, li_300, li_400, li_420, li_500, li_802, li_820, li_823, li_839, li_855, li_871, li_887, li_999, li_1000, li_1001, li_1002, li_1003, li_1004, li_1005, li_1006, li_1007, li_1008, li_1009, li_1010, li_1011, li_1012, li_1013, li_1014, li_1015, li_1016, li_1017, li_1018, li_1019, li_1020, li_1021, li_1022, li_1023, li_1707, li_4096, li_9999, li_65536, li_100000, li_1000000, li_1664525, li_100000000, li_252645135, li_858993459, li_1000000007, li_1013904223, li_1431655765, li_m1, nI_add]
  rw [hm, W0.h38]
  refine wp_ite (fun q => ?_) (fun q => ?_)
  · rw [nI_leI (by omega) (by omega)] at q
    have : i = zd w := by omega
    subst this
    exact wp_ret ⟨rfl, rfl⟩
  · rw [nI_leI (by omega) (by omega)] at q
    have hB : sm (vl w) S.testBit (i + 1) = sm (vl w) S.testBit i + if S.testBit i = true then vl w i else 0 := rfl
    refine wp_ite (fun qb => ?_) (fun qb => ?_) <;> rw [nz_bit hS (by omega)] at qb
    · rw [if_pos qb] at hB
      rw [inb_nI (by omega) (by omega), chk_t, nI_clamp (by omega), (dee_v W0 (show i < zd w by omega)).1, nI_add, bnd_s]
      exact hX (zd w - (i + 1)) _ _ _ (by omega) ⟨i + 1, by omega, rfl, by rw [hB], rfl, rfl⟩
    · rw [if_neg qb] at hB
      rw [bnd_s]
      exact hX (zd w - (i + 1)) _ _ _ (by omega) ⟨i + 1, by omega, rfl, by rw [hB], rfl, rfl⟩
theorem w_sumV {S : Nat} (hN : 20000 ≤ N) (H : HRep 2 LN w m) (W0 : WFc w) (hS : S < 2 ^ 31) : f_X5_sumOf N (nI 0) (nI S) m = some (nI (sm (vl w) S.testBit (zd w)), m) :=
  w_sumOf hN H W0 hS (by decide) (fun i hi => (dee_v W0 hi).1)
theorem w_sumL {S : Nat} (hN : 20000 ≤ N) (H : HRep 2 LN w m) (W0 : WFc w) (hS : S < 2 ^ 31) : f_X5_sumOf N (nI 1) (nI S) m = some (nI (sm (lg w) S.testBit (zd w)), m) :=
  w_sumOf hN H W0 hS (by decide) (fun i hi => (dee_v W0 hi).2.2.1)
theorem sv_le (W0 : WFc w) {s : Nat → Bool} : sm (vl w) s (zd w) ≤ 72 := by
  have := sm_le (f := vl w) (s := s) (b := 9) (n := zd w) (fun i hi => (dee_v W0 hi).2.1)
  have := W0.lzd
  omega
theorem sl_le (W0 : WFc w) {s : Nat → Bool} : sm (lg w) s (zd w) ≤ 480 := by
  have := sm_le (f := lg w) (s := s) (b := 60) (n := zd w) (fun i hi => (dee_v W0 hi).2.2.2.2)
  have := W0.lzd
  omega
/-- the best of the first n sets -/
def filS (w : Arr) (L : Nat) : Nat → Nat
  | 0 => 0
  | n + 1 => if L < sm (lg w) n.testBit (zd w) then filS w L n else if sm (vl w) n.testBit (zd w) ≤ sm (vl w) (filS w L n).testBit (zd w) then filS w L n else n
theorem filS_le {L : Nat} : ∀ n, filS w L n ≤ n
  | 0 => Nat.le_refl _
  | n + 1 => by
    have := filS_le (L := L) n
    unfold filS
    split
    · omega
    · split <;> omega
theorem filS_1 {L : Nat} : filS w L 1 = 0 := by
  show (if L < _ then filS w L 0 else if _ then filS w L 0 else 0) = 0
  have e : filS w L 0 = 0 := rfl
  rw [e]
  split
  · rfl
  · split <;> rfl
theorem pow_le8 {n : Nat} (h : n ≤ 8) : 2 ^ n ≤ 256 := by
  have : 2 ^ n ≤ 2 ^ 8 := Nat.pow_le_pow_right (by decide) h
  omega
theorem pr_fills {a b : Int32} (hN : 20000 ≤ N) : Pr (f_X11_fills N a b) (f_X12_fills N a b) := by
  intro m hI
  obtain ⟨LN, H, G, -⟩ := id hI
  have ld := G.1.lzd
  have p8 := pow_le8 ld
  have p0 := pow_pos' (zd (m 124))
  unfold f_X11_fills
  simp only [li_0, li_1, li_2, li_3, li_4, li_5, li_6, li_7, li_8, li_9, li_10, li_11, li_12, li_13, li_14, li_15, li_16, li_17, li_18, li_19, li_20, li_21, li_22, li_23, li_24, li_25, li_26, li_27, li_28, li_29, li_30, li_31, li_32, li_37, li_38, li_39, li_40, li_41, li_42, li_43, li_44, li_45, li_46, li_47, li_48, li_49, li_50, li_57, li_59, li_60, li_61, li_62, li_63, li_64, li_65, li_69, li_81, li_89, li_90, li_92, li_97, li_99, li_100, li_101, li_103, li_104, li_105, li_106, li_108, li_111, li_112, li_113, li_114, li_115, li_116, li_117, li_119, li_122, li_123, li_124, li_125, li_126, li_127, li_128, li_129, li_130, li_131, li_132, li_133, li_134, li_135, li_136, li_137, li_140, li_141, li_142, li_143, li_145, li_147, li_150, li_153, li_159, li_160, li_161, li_162, li_185, li_197, li_213, li_222, li_223, li_255, li_256, li_257, li_258, li_259, li_260, li_261, li_262, li_263, li_264, li_271, li_272, li_273, li_274, li_275, li_276, li_277, li_278, li_300, li_400, li_420, li_500, li_802, li_820, li_823, li_839, li_855, li_871, li_887, li_999, li_1000, li_1001, li_1002, li_1003, li_1004, li_1005, li_1006, li_1007, li_1008, li_1009, li_1010, li_1011, li_1012, li_1013, li_1014, li_1015, li_1016, li_1017, li_1018, li_1019, li_1020, li_1021, li_1022, li_1023, li_1707, li_4096, li_9999, li_65536, li_100000, li_1000000, li_1664525, li_100000000, li_252645135, li_858993459, li_1000000007, li_1013904223, li_1431655765, li_m1]
  rw [e_within, bd_s]
  cases hq : decide (nI 1 ≤ a ∧ a ≤ nI 999) with
  | false =>
    rw [if_pos (by decide)]
    refine wp_ret ?_
    unfold f_X12_fills
    simp only [li_0, li_1, li_2, li_3, li_4, li_5, li_6, li_7, li_8, li_9, li_10, li_11, li_12, li_13, li_14, li_15, li_16, li_17, li_18, li_19, li_20, li_21, li_22, li_23, li_24, li_25, li_26, li_27, li_28, li_29, li_30, li_31, li_32, li_37, li_38, li_39, li_40, li_41, li_42, li_43, li_44, li_45, li_46, li_47, li_48, li_49, li_50, li_57, li_59, li_60, li_61, li_62, li_63, li_64, li_65, li_69, li_81, li_89, li_90, li_92, li_97, li_99, li_100, li_101, li_103, li_104, li_105, li_106, li_108, li_111, li_112, li_113, li_114, li_115, li_116, li_117, li_119, li_122, li_123, li_124, li_125, li_126, li_127, li_128, li_129, li_130, li_131, li_132, li_133, li_134, li_135, li_136, li_137, li_140, li_141, li_142, li_143, li_145, li_147, li_150, li_153, li_159, li_160, li_161, li_162, li_185, li_197, li_213, li_222, li_223, li_255, li_256, li_257, li_258, li_259, li_260, li_261, li_262, li_263, li_264, li_271, li_272, li_273, li_274, li_275, li_276, li_277, li_278, li_300, li_400, li_420, li_500, li_802, li_820, li_823, li_839, li_855, li_871, li_887, li_999, li_1000, li_1001, li_1002, li_1003, li_1004, li_1005, li_1006, li_1007, li_1008, li_1009, li_1010, li_1011, li_1012, li_1013, li_1014, li_1015, li_1016, li_1017, li_1018, li_1019, li_1020, li_1021, li_1022, li_1023, li_1707, li_4096, li_9999, li_65536, li_100000, li_1000000, li_1664525, li_100000000, li_252645135, li_858993459, li_1000000007, li_1013904223, li_1431655765, li_m1]
    rw [e_isIn, bd_s, hq, if_pos (by decide)]
    exact wp_ret ⟨rfl, hI⟩
  | true =>
    rw [if_neg (by decide), e_within, bd_s]
    cases hq2 : decide (nI 0 ≤ b ∧ b ≤ nI 1) with
    | false =>
      rw [if_pos (by decide)]
      refine wp_ret ?_
      unfold f_X12_fills
      simp only [li_0, li_1, li_2, li_3, li_4, li_5, li_6, li_7, li_8, li_9, li_10, li_11, li_12, li_13, li_14, li_15, li_16, li_17, li_18, li_19, li_20, li_21, li_22, li_23, li_24, li_25, li_26, li_27, li_28, li_29, li_30, li_31, li_32, li_37, li_38, li_39, li_40, li_41, li_42, li_43, li_44, li_45, li_46, li_47, li_48, li_49, li_50, li_57, li_59, li_60, li_61, li_62, li_63, li_64, li_65, li_69, li_81, li_89, li_90, li_92, li_97, li_99, li_100, li_101, li_103, li_104, li_105, li_106, li_108, li_111, li_112, li_113, li_114, li_115, li_116, li_117, li_119, li_122, li_123, li_124, li_125, li_126, li_127, li_128, li_129, li_130, li_131, li_132, li_133, li_134, li_135, li_136, li_137, li_140, li_141, li_142, li_143, li_145, li_147, li_150, li_153, li_159, li_160, li_161, li_162, li_185, li_197, li_213, li_222, li_223, li_255, li_256, li_257, li_258, li_259, li_260, li_261, li_262, li_263, li_264, li_271, li_272, li_273, li_274, li_275, li_276, li_277, li_278, li_300, li_400, li_420, li_500, li_802, li_820, li_823, li_839, li_855, li_871, li_887, li_999, li_1000, li_1001, li_1002, li_1003, li_1004, li_1005, li_1006, li_1007, li_1008, li_1009, li_1010, li_1011, li_1012, li_1013, li_1014, li_1015, li_1016, li_1017, li_1018, li_1019, li_1020, li_1021, li_1022, li_1023, li_1707, li_4096, li_9999, li_65536, li_100000, li_1000000, li_1664525, li_100000000, li_252645135, li_858993459, li_1000000007, li_1013904223, li_1431655765, li_m1]
      rw [e_isIn, bd_s, hq, if_neg (by decide), e_isIn, bd_s, hq2, if_pos (by decide)]
      exact wp_ret ⟨rfl, hI⟩
    | true =>
      rw [if_neg (by decide)]
      obtain ⟨L, -, hL, rfl⟩ := rng_of (by decide) (by decide) hq
      have hbb : b = nI 0 ∨ b = nI 1 := by
        obtain ⟨k, -, hk, rfl⟩ := rng_of (by decide) (by decide) hq2
        rcases (show k = 0 ∨ k = 1 by omega) with rfl | rfl
        · exact Or.inl rfl
        · exact Or.inr rfl
      have hl := filS_le (w := m 124) (L := L) (2 ^ zd (m 124))
      have eC : f_X5_fullest N (nI L) m = some (nI (filS (m 124) L (2 ^ zd (m 124))), m) := by
        refine Wp.toEq ?_
        unfold f_X5_fullest
        refine wp_it2 (fun n a c m' => ∃ i, i ≤ 2 ^ zd (m 124) ∧ n = 2 ^ zd (m 124) - i ∧ a = nI (filS (m 124) L i) ∧ c = nI i ∧ m' = m) ?_ N (2 ^ zd (m 124)) _ _ _ (by omega) ⟨0, by omega, rfl, rfl, rfl, rfl⟩
        rintro n X a c' m' ⟨i, hi, rfl, rfl, rfl, rfl⟩ hX
        unfold f_X5_fullest_L4
        simp only [li_0, li_1, li_2, li_3, li_4, li_5, li_6, li_7, li_8, li_9, li_10, li_11, li_12, li_13, li_14, li_15, li_16, li_17, li_18, li_19, li_20, li_21, li_22, li_23, li_24, li_25, li_26, li_27, li_28, li_29, li_30, li_31, li_32, li_37, li_38, li_39, li_40, li_41, li_42, li_43, li_44, li_45, li_46, li_47, li_48, li_49, li_50, li_57, li_59, li_60, li_61, li_62, li_63, li_64, li_65, li_69, li_81, li_89, li_90, li_92, li_97, li_99, li_100, li_101, li_103, li_104, li_105, li_106, li_108, li_111, li_112, li_113, li_114, li_115, li_116, li_117, li_119, li_122, li_123, li_124, li_125, li_126, li_127, li_128, li_129, li_130, li_131, li_132, li_133, li_134, li_135, li_136, li_137, li_140, li_141, li_142, li_143, li_145, li_147, li_150, li_153, li_159, li_160, li_161, li_162, li_185, li_197, li_213, li_222, li_223, li_255, li_256, li_257, li_258, li_259, li_260, li_261, li_262, li_263, li_264, li_271, li_272, li_273, li_274, li_275, li_276, li_277, li_278, li_300, li_400, li_420, li_500, li_802, li_820, li_823, li_839, li_855, li_871, li_887, li_999, li_1000, li_1001, li_1002, li_1003, li_1004, li_1005, li_1006, li_1007, li_1008, li_1009, li_1010, li_1011, li_1012, li_1013, li_1014, li_1015, li_1016, li_1017, li_1018, li_1019, li_1020, li_1021, li_1022, li_1023, li_1707, li_4096, li_9999, li_65536, li_100000, li_1000000, li_1664525, li_100000000, li_252645135, li_858993459, li_1000000007, li_1013904223, li_1431655765, li_m1, nI_up]
        rw [H.dee.1, G.1.h38, nz_one (by omega)]
        refine wp_ite (fun q => ?_) (fun q => ?_)
        · rw [nI_leI (by omega) (by omega)] at q
          have : i = 2 ^ zd (m' 124) := by omega
          subst this
          exact wp_ret ⟨rfl, rfl⟩
        · rw [nI_leI (by omega) (by omega)] at q
          have hli := filS_le (w := m' 124) (L := L) i
          have hB : filS (m' 124) L (i + 1) = if L < sm (lg (m' 124)) i.testBit (zd (m' 124)) then filS (m' 124) L i else if sm (vl (m' 124)) i.testBit (zd (m' 124)) ≤ sm (vl (m' 124)) (filS (m' 124) L i).testBit (zd (m' 124)) then filS (m' 124) L i else i := rfl
          have b1 := sl_le G.1 (s := i.testBit)
          have b2 := sv_le G.1 (s := i.testBit)
          have b3 := sv_le G.1 (s := (filS (m' 124) L i).testBit)
          rw [w_sumL hN H G.1 (by omega), bd_s]
          refine wp_ite (fun q2 => ?_) (fun q2 => ?_) <;> rw [nI_ltI (by omega) (by omega)] at q2
          · rw [if_pos q2] at hB
            exact hX (2 ^ zd (m' 124) - (i + 1)) _ _ _ (by omega) ⟨i + 1, by omega, rfl, by rw [hB], rfl, rfl⟩
          · rw [if_neg q2] at hB
            rw [w_sumV hN H G.1 (by omega), bd_s, w_sumV hN H G.1 (by omega), bd_s]
            refine wp_ite (fun q3 => ?_) (fun q3 => ?_) <;> rw [nI_leI (by omega) (by omega)] at q3
            · rw [if_pos q3] at hB
              exact hX (2 ^ zd (m' 124) - (i + 1)) _ _ _ (by omega) ⟨i + 1, by omega, rfl, by rw [hB], rfl, rfl⟩
            · rw [if_neg q3] at hB
              exact hX (2 ^ zd (m' 124) - (i + 1)) _ _ _ (by omega) ⟨i + 1, by omega, rfl, by rw [hB], rfl, rfl⟩
      have eM : Wp (f_X12_fills N (nI L) b m) (fun v m' => v = (if b = nI 0 then nI (sm (vl (m 124)) (filS (m 124) L (2 ^ zd (m 124))).testBit (zd (m 124))) else nI (filS (m 124) L (2 ^ zd (m 124)))) ∧ m' = m) := by
        unfold f_X12_fills
        simp only [li_0, li_1, li_2, li_3, li_4, li_5, li_6, li_7, li_8, li_9, li_10, li_11, li_12, li_13, li_14, li_15, li_16, li_17, li_18, li_19, li_20, li_21, li_22, li_23, li_24, li_25, li_26, li_27, li_28, li_29, li_30, li_31, li_32, li_37, li_38, li_39, li_40, li_41, li_42, li_43, li_44, li_45, li_46, li_47, li_48, li_49, li_50, li_57, li_59, li_60, li_61, li_62, li_63, li_64, li_65, li_69, li_81, li_89, li_90, li_92, li_97, li_99, li_100, li_101, li_103, li_104, li_105, li_106, li_108, li_111, li_112, li_113, li_114, li_115, li_116, li_117, li_119, li_122, li_123, li_124, li_125, li_126, li_127, li_128, li_129, li_130, li_131, li_132, li_133, li_134, li_135, li_136, li_137, li_140, li_141, li_142, li_143, li_145, li_147, li_150, li_153, li_159, li_160, li_161, li_162, li_185, li_197, li_213, li_222, li_223, li_255, li_256, li_257, li_258, li_259, li_260, li_261, li_262, li_263, li_264, li_271, li_272, li_273, li_274, li_275, li_276, li_277, li_278, li_300, li_400, li_420, li_500, li_802, li_820, li_823, li_839, li_855, li_871, li_887, li_999, li_1000, li_1001, li_1002, li_1003, li_1004, li_1005, li_1006, li_1007, li_1008, li_1009, li_1010, li_1011, li_1012, li_1013, li_1014, li_1015, li_1016, li_1017, li_1018, li_1019, li_1020, li_1021, li_1022, li_1023, li_1707, li_4096, li_9999, li_65536, li_100000, li_1000000, li_1664525, li_100000000, li_252645135, li_858993459, li_1000000007, li_1013904223, li_1431655765, li_m1]
        rw [e_isIn, bd_s, hq, if_neg (by decide), e_isIn, bd_s, hq2, if_neg (by decide)]
        refine wp_it2 (fun n a c m' => ∃ i, 1 ≤ i ∧ i ≤ 2 ^ zd (m 124) ∧ n = 2 ^ zd (m 124) - i ∧ a = nI (filS (m 124) L i) ∧ c = nI i ∧ m' = m) ?_ N (2 ^ zd (m 124) - 1) _ _ _ (by omega) ⟨1, by omega, by omega, rfl, by rw [filS_1], rfl, rfl⟩
        rintro n X a c' m' ⟨i, hi1, hi, rfl, rfl, rfl, rfl⟩ hX
        unfold f_X12_fills_L27
        simp only [li_0, li_1, li_2, li_3, li_4, li_5, li_6, li_7, li_8, li_9, li_10, li_11, li_12, li_13, li_14, li_15, li_16, li_17, li_18, li_19, li_20, li_21, li_22, li_23, li_24, li_25, li_26, li_27, li_28, li_29, li_30, li_31, li_32, li_37, li_38, li_39, li_40, li_41, li_42, li_43, li_44, li_45, li_46, li_47, li_48, li_49, li_50, li_57, li_59, li_60, li_61, li_62, li_63, li_64, li_65, li_69, li_81, li_89, li_90, li_92, li_97, li_99, li_100, li_101, li_103, li_104, li_105, li_106, li_108, li_111, li_112, li_113, li_114, li_115, li_116, li_117, li_119, li_122, li_123, li_124, li_125, li_126, li_127, li_128, li_129, li_130, li_131, li_132, li_133, li_134, li_135, li_136, li_137, li_140, li_141, li_142, li_143, li_145, li_147, li_150, li_153, li_159, li_160, li_161, li_162, li_185, li_197, li_213, li_222, li_223, li_255, li_256, li_257, li_258, li_259, li_260, li_261, li_262, li_263, li_264, li_271, li_272, li_273, li_274, li_275, li_276, li_277, li_278, li_300, li_400, li_420, li_500, li_802, li_820, li_823, li_839, li_855, li_871, li_887, li_999, li_1000, li_1001, li_1002, li_1003, li_1004, li_1005, li_1006, li_1007, li_1008, li_1009, li_1010, li_1011, li_1012, li_1013, li_1014, li_1015, li_1016, li_1017, li_1018, li_1019, li_1020, li_1021, li_1022, li_1023, li_1707, li_4096, li_9999, li_65536, li_100000, li_1000000, li_1664525, li_100000000, li_252645135, li_858993459, li_1000000007, li_1013904223, li_1431655765, li_m1, nI_up]
        rw [G.1.h38, nz_one (by omega)]
        refine wp_ite (fun q => ?_) (fun q => ?_)
        · rw [nI_leI (by omega) (by omega)] at q
          have : i = 2 ^ zd (m' 124) := by omega
          subst this
          refine wp_ite (fun q => ?_) (fun q => ?_)
          · rw [if_pos q, w_worthM hN rfl G.1 (by omega), bd_s]
            exact wp_ret ⟨rfl, rfl⟩
          · rw [if_neg q]
            exact wp_ret ⟨rfl, rfl⟩
        · rw [nI_leI (by omega) (by omega)] at q
          have hli := filS_le (w := m' 124) (L := L) i
          have hB : filS (m' 124) L (i + 1) = if L < sm (lg (m' 124)) i.testBit (zd (m' 124)) then filS (m' 124) L i else if sm (vl (m' 124)) i.testBit (zd (m' 124)) ≤ sm (vl (m' 124)) (filS (m' 124) L i).testBit (zd (m' 124)) then filS (m' 124) L i else i := rfl
          have b1 := sl_le G.1 (s := i.testBit)
          have b2 := sv_le G.1 (s := i.testBit)
          have b3 := sv_le G.1 (s := (filS (m' 124) L i).testBit)
          rw [w_longM hN rfl G.1 (by omega), bd_s]
          refine wp_ite (fun q2 => ?_) (fun q2 => ?_) <;> rw [nI_ltI (by omega) (by omega)] at q2
          · rw [if_pos q2] at hB
            exact hX (2 ^ zd (m' 124) - (i + 1)) _ _ _ (by omega) ⟨i + 1, by omega, by omega, rfl, by rw [hB], rfl, rfl⟩
          · rw [if_neg q2] at hB
            rw [w_worthM hN rfl G.1 (by omega), bd_s, w_worthM hN rfl G.1 (by omega), bd_s]
            refine wp_ite (fun q3 => ?_) (fun q3 => ?_) <;> rw [nI_leI (by omega) (by omega)] at q3
            · rw [if_pos q3] at hB
              exact hX (2 ^ zd (m' 124) - (i + 1)) _ _ _ (by omega) ⟨i + 1, by omega, by omega, rfl, by rw [hB], rfl, rfl⟩
            · rw [if_neg q3] at hB
              exact hX (2 ^ zd (m' 124) - (i + 1)) _ _ _ (by omega) ⟨i + 1, by omega, by omega, rfl, by rw [hB], rfl, rfl⟩
      rw [eC, bd_s]
      have fin : ∀ x, x = (if b = nI 0 then nI (sm (vl (m 124)) (filS (m 124) L (2 ^ zd (m 124))).testBit (zd (m 124))) else nI (filS (m 124) L (2 ^ zd (m 124)))) → Wp (some (x, m)) (fun v1 m1 => Wp (f_X12_fills N (nI L) b m1) (fun v2 m2 => v1 = v2 ∧ Inv m2)) := by
        rintro x rfl
        refine wp_ret (wp_mono eM ?_)
        rintro _ m3 ⟨rfl, rfl⟩
        exact ⟨rfl, hI⟩
      rcases hbb with rfl | rfl
      · rw [if_neg (by decide), w_sumV hN H G.1 (by omega), bd_s]
        exact fin _ rfl
      · rw [if_pos rfl]
        exact fin _ rfl
/-! bargain: worth more by the minute -/
def fstB (w : Arr) (s : Nat → Bool) : Nat → Option Nat
  | 0 => none
  | n + 1 => if s n = true then (match fstB w s n with
    | none => some n
    | some b => if vl w n * lg w b ≤ vl w b * lg w n then some b else some n) else fstB w s n
theorem fstB_lt {b : Nat} {s : Nat → Bool} : ∀ {n : Nat}, fstB w s n = some b → b < n ∧ s b = true
  | 0, h => by cases h
  | n + 1, h => by
    unfold fstB at h
    split at h
    · rename_i hs
      cases hq : fstB w s n with
      | none =>
        rw [hq] at h
        cases h
        exact ⟨by omega, hs⟩
      | some c =>
        rw [hq] at h
        simp only at h
        have := fstB_lt hq
        split at h
        · cases h
          exact ⟨by omega, this.2⟩
        · cases h
          exact ⟨by omega, hs⟩
    · have := fstB_lt h
      exact ⟨by omega, this.2⟩
theorem w_firstOf {S : Nat} (hN : 20000 ≤ N) (H : HRep 2 LN w m) (W0 : WFc w) (hS : S < 2 ^ 31) : f_X5_firstOf N (nI S) m = some (oix (fstB w S.testBit (zd w)), m) := by
  have ld := W0.lzd
  refine Wp.toEq ?_
  unfold f_X5_firstOf
  refine wp_it2 (fun n a c m' => ∃ i, i ≤ zd w ∧ n = zd w - i ∧ a = oix (fstB w S.testBit i) ∧ c = nI i ∧ m' = m) ?_ N (zd w) _ _ _ (by omega) ⟨0, by omega, rfl, rfl, rfl, rfl⟩
  rintro n X a c' m' ⟨i, hi, rfl, rfl, rfl, rfl⟩ hX
  unfold f_X5_firstOf_L4
  simp only [li_0, li_1, li_2, li_3, li_4, li_5, li_6, li_7, li_8, li_9, li_10, li_11, li_12, li_13, li_14, li_15, li_16, li_17, li_18, li_19, li_20, li_21, li_22, li_23, li_24, li_25, li_26, li_27, li_28, li_29, li_30, li_31, li_32, li_37, li_38, li_39, li_40, li_41, li_42, li_43, li_44, li_45, li_46, li_47, li_48, li_49, li_50, li_57, li_59, li_60, li_61, li_62, li_63, li_64, li_65, li_69, li_81, li_89, li_90, li_92, li_97, li_99, li_100, li_101, li_103, li_104, li_105, li_106, li_108, li_111, li_112, li_113, li_114, li_115, li_116, li_117, li_119, li_122, li_123, li_124, li_125, li_126, li_127, li_128, li_129, li_130, li_131, li_132, li_133, li_134, li_135, li_136, li_137, li_140, li_141, li_142, li_143, li_145, li_147, li_150, li_153, li_159, li_160, li_161, li_162, li_185, li_197, li_213, li_222, li_223, li_255, li_256, li_257, li_258, li_259, li_260, li_261, li_262, li_263, li_264, li_271, li_272, li_273, li_274, li_275, li_276, li_277, li_278, li_300, li_400, li_420, li_500, li_802, li_820, li_823, li_839, li_855, li_871, li_887, li_999, li_1000, li_1001, li_1002, li_1003, li_1004, li_1005, li_1006, li_1007, li_1008, li_1009, li_1010, li_1011, li_1012, li_1013, li_1014, li_1015, li_1016, li_1017, li_1018, li_1019, li_1020, li_1021, li_1022, li_1023, li_1707, li_4096, li_9999, li_65536, li_100000, li_1000000, li_1664525, li_100000000, li_252645135, li_858993459, li_1000000007, li_1013904223, li_1431655765, li_m1, nI_up]
  rw [H.dee.1, W0.h38]
  refine wp_ite (fun q => ?_) (fun q => ?_)
  · rw [nI_leI (by omega) (by omega)] at q
    have : i = zd w := by omega
    subst this
    exact wp_ret ⟨rfl, rfl⟩
  · rw [nI_leI (by omega) (by omega)] at q
    have hB : fstB w S.testBit (i + 1) = if S.testBit i = true then (match fstB w S.testBit i with
      | none => some i
      | some b => if vl w i * lg w b ≤ vl w b * lg w i then some b else some i) else fstB w S.testBit i := rfl
    rw [e_isInX m' (by omega) hS, bd_s]
    cases hb : S.testBit i with
    | false =>
      rw [if_pos (by decide)]
      rw [hb, if_neg (by decide)] at hB
      exact hX (zd w - (i + 1)) _ _ _ (by omega) ⟨i + 1, by omega, rfl, by rw [hB], rfl, rfl⟩
    | true =>
      rw [if_neg (by decide)]
      rw [hb, if_pos rfl] at hB
      cases hq : fstB w S.testBit i with
      | none =>
        rw [hq] at hB
        rw [if_pos (by rfl)]
        exact hX (zd w - (i + 1)) _ _ _ (by omega) ⟨i + 1, by omega, rfl, by rw [hB]; rfl, rfl, rfl⟩
      | some b =>
        rw [hq] at hB
        simp only at hB
        have hb2 := fstB_lt hq
        obtain ⟨i1, i2, i3, i4, i5⟩ := dee_v W0 (show i < zd w by omega)
        obtain ⟨j1, j2, j3, j4, j5⟩ := dee_v W0 (show b < zd w by omega)
        have m1 : vl w i * lg w b ≤ 9 * 60 := Nat.mul_le_mul i2 j5
        have m2 : vl w b * lg w i ≤ 9 * 60 := Nat.mul_le_mul j2 i5
        rw [if_neg (show ¬ oix (some b) = mo1 from nI_no1 (by omega))]
        show Wp (bd (f_X5_isWorthMore N (nI i) (nI b) m') _) _
        unfold f_X5_isWorthMore
        simp only [li_0, li_1, li_2, li_3, li_4, li_5, li_6, li_7, li_8, li_9, li_10, li_11, li_12, li_13, li_14, li_15, li_16, li_17, li_18, li_19, li_20, li_21, li_22, li_23, li_24, li_25, li_26, li_27, li_28, li_29, li_30, li_31, li_32, li_37, li_38, li_39, li_40, li_41, li_42, li_43, li_44, li_45, li_46, li_47, li_48, li_49, li_50, li_57, li_59, li_60, li_61, li_62, li_63, li_64, li_65, li_69, li_81, li_89, li_90, li_92, li_97, li_99, li_100, li_101, li_103, li_104, li_105, li_106, li_108, li_111, li_112, li_113, li_114, li_115, li_116, li_117, li_119, li_122, li_123, li_124, li_125, li_126, li_127, li_128, li_129, li_130, li_131, li_132, li_133, li_134, li_135, li_136, li_137, li_140, li_141, li_142, li_143, li_145, li_147, li_150, li_153, li_159, li_160, li_161, li_162, li_185, li_197, li_213, li_222, li_223, li_255, li_256, li_257, li_258, li_259, li_260, li_261, li_262, li_263, li_264, li_271, li_272, li_273, li_274, li_275, li_276, li_277, li_278, li_300, li_400, li_420, li_500, li_802, li_820, li_823, li_839, li_855, li_871, li_887, li_999, li_1000, li_1001, li_1002, li_1003, li_1004, li_1005, li_1006, li_1007, li_1008, li_1009, li_1010, li_1011, li_1012, li_1013, li_1014, li_1015, li_1016, li_1017, li_1018, li_1019, li_1020, li_1021, li_1022, li_1023, li_1707, li_4096, li_9999, li_65536, li_100000, li_1000000, li_1664525, li_100000000, li_252645135, li_858993459, li_1000000007, li_1013904223, li_1431655765, li_m1]
        rw [hr_dee H W0 (by omega) (by decide), bd_s, hr_dee H W0 (by omega) (by decide), bd_s, hr_dee H W0 (by omega) (by decide), bd_s, hr_dee H W0 (by omega) (by decide), bd_s,
          show deeV w i 0 = nI (vl w i) from i1, show deeV w b 1 = nI (lg w b) from j3, show deeV w b 0 = nI (vl w b) from j1, show deeV w i 1 = nI (lg w i) from i3, pk_mul, pk_mul]
        by_cases qq : vl w i * lg w b ≤ vl w b * lg w i
        · rw [if_pos ((nI_leI (by omega) (by omega)).mpr qq), bd_s, if_pos rfl]
          rw [if_pos qq] at hB
          exact hX (zd w - (i + 1)) _ _ _ (by omega) ⟨i + 1, by omega, rfl, by rw [hB], rfl, rfl⟩
        · rw [if_neg (fun z => qq ((nI_leI (by omega) (by omega)).mp z)), bd_s, if_neg (by decide)]
          rw [if_neg qq] at hB
          exact hX (zd w - (i + 1)) _ _ _ (by omega) ⟨i + 1, by omega, rfl, by rw [hB]; rfl, rfl, rfl⟩
theorem fstB_cg {s t : Nat → Bool} : ∀ {n : Nat}, (∀ i, i < n → s i = t i) → fstB w s n = fstB w t n
  | 0, _ => rfl
  | n + 1, h => by
    unfold fstB
    rw [h n (by omega), fstB_cg (fun i hi => h i (by omega))]
theorem pr_bargain {a : Int32} (hN : 20000 ≤ N) : Pr (f_X11_bargain N a) (f_X12_bargain N a) := by
  intro m hI
  obtain ⟨LN, H, G, -⟩ := id hI
  have ld := G.1.lzd
  have p8 := pow_le8 ld
  have p0 := pow_pos' (zd (m 124))
  unfold f_X11_bargain
  simp only [li_0, li_1, li_2, li_3, li_4, li_5, li_6, li_7, li_8, li_9, li_10, li_11, li_12, li_13, li_14, li_15, li_16, li_17, li_18, li_19, li_20, li_21, li_22, li_23, li_24, li_25, li_26, li_27, li_28, li_29, li_30, li_31, li_32, li_37, li_38, li_39, li_40, li_41, li_42, li_43, li_44, li_45, li_46, li_47, li_48, li_49, li_50, li_57, li_59, li_60, li_61, li_62, li_63, li_64, li_65, li_69, li_81, li_89, li_90, li_92, li_97, li_99, li_100, li_101, li_103, li_104, li_105, li_106, li_108, li_111, li_112, li_113, li_114, li_115, li_116, li_117, li_119, li_122, li_123, li_124, li_125, li_126, li_127, li_128, li_129, li_130, li_131, li_132, li_133, li_134, li_135, li_136, li_137, li_140, li_141, li_142, li_143, li_145, li_147, li_150, li_153, li_159, li_160, li_161, li_162, li_185, li_197, li_213, li_222, li_223, li_255, li_256, li_257, li_258, li_259, li_260, li_261, li_262, li_263, li_264, li_271, li_272, li_273, li_274, li_275, li_276, li_277, li_278, li_300, li_400, li_420, li_500, li_802, li_820, li_823, li_839, li_855, li_871, li_887, li_999, li_1000, li_1001, li_1002, li_1003, li_1004, li_1005, li_1006, li_1007, li_1008, li_1009, li_1010, li_1011, li_1012, li_1013, li_1014, li_1015, li_1016, li_1017, li_1018, li_1019, li_1020, li_1021, li_1022, li_1023, li_1707, li_4096, li_9999, li_65536, li_100000, li_1000000, li_1664525, li_100000000, li_252645135, li_858993459, li_1000000007, li_1013904223, li_1431655765, li_m1]
  rw [e_within, bd_s]
  cases hq : decide (nI 0 ≤ a ∧ a ≤ nI 1) with
  | false =>
    rw [if_pos (by decide)]
    refine wp_ret ?_
    unfold f_X12_bargain
    simp only [li_0, li_1, li_2, li_3, li_4, li_5, li_6, li_7, li_8, li_9, li_10, li_11, li_12, li_13, li_14, li_15, li_16, li_17, li_18, li_19, li_20, li_21, li_22, li_23, li_24, li_25, li_26, li_27, li_28, li_29, li_30, li_31, li_32, li_37, li_38, li_39, li_40, li_41, li_42, li_43, li_44, li_45, li_46, li_47, li_48, li_49, li_50, li_57, li_59, li_60, li_61, li_62, li_63, li_64, li_65, li_69, li_81, li_89, li_90, li_92, li_97, li_99, li_100, li_101, li_103, li_104, li_105, li_106, li_108, li_111, li_112, li_113, li_114, li_115, li_116, li_117, li_119, li_122, li_123, li_124, li_125, li_126, li_127, li_128, li_129, li_130, li_131, li_132, li_133, li_134, li_135, li_136, li_137, li_140, li_141, li_142, li_143, li_145, li_147, li_150, li_153, li_159, li_160, li_161, li_162, li_185, li_197, li_213, li_222, li_223, li_255, li_256, li_257, li_258, li_259, li_260, li_261, li_262, li_263, li_264, li_271, li_272, li_273, li_274, li_275, li_276, li_277, li_278, li_300, li_400, li_420, li_500, li_802, li_820, li_823, li_839, li_855, li_871, li_887, li_999, li_1000, li_1001, li_1002, li_1003, li_1004, li_1005, li_1006, li_1007, li_1008, li_1009, li_1010, li_1011, li_1012, li_1013, li_1014, li_1015, li_1016, li_1017, li_1018, li_1019, li_1020, li_1021, li_1022, li_1023, li_1707, li_4096, li_9999, li_65536, li_100000, li_1000000, li_1664525, li_100000000, li_252645135, li_858993459, li_1000000007, li_1013904223, li_1431655765, li_m1]
    rw [e_isIn, bd_s, hq, if_pos (by decide)]
    exact wp_ret ⟨rfl, hI⟩
  | true =>
    have hM0 : f_X12_bargain N a m = if nI (zd (m 124)) = nI 0 then some (mo1, m) else it2 (f_X12_bargain_L25 N a (fun k2_85 mk85 => if a = 0 then (some (k2_85, mk85))
      else (chk (inb ((81 : Int32) + k2_85) 1707) <|
      chk (inb ((89 : Int32) + k2_85) 1707) <|
      chk (decide (mk85 124 ((89 : Int32) + k2_85).toNatClampNeg ≠ 0)) <|
      some ((((mk85 124 ((81 : Int32) + k2_85).toNatClampNeg) * (60 : Int32)) / (mk85 124 ((89 : Int32) + k2_85).toNatClampNeg)), mk85)))) N (nI 0) (nI 1) m := by
      unfold f_X12_bargain
      simp only [li_0, li_1, li_2, li_3, li_4, li_5, li_6, li_7, li_8, li_9, li_10, li_11, li_12, li_13, li_14, li_15, li_16, li_17, li_18, li_19, li_20, li_21, li_22, li_23, li_24, li_25, li_26, li_27, li_28, li_29, li_30, li_31, li_32, li_37, li_38, li_39, li_40, li_41, li_42, li_43, li_44, li_45, li_46, li_47, li_48, li_49, li_50, li_57, li_59, li_60, li_61, li_62, li_63, li_64, li_65, li_69, li_81, li_89, li_90, li_92, li_97, li_99, li_100, li_101, li_103, li_104, li_105, li_106, li_108, li_111, li_112, li_113, li_114, li_115, li_116, li_117, li_119, li_122, li_123, li_124, li_125, li_126, li_127, li_128, li_129, li_130, li_131, li_132, li_133, li_134, li_135, li_136, li_137, li_140, li_141, li_142, li_143, li_145, li_147, li_150, li_153, li_159, li_160, li_161, li_162, li_185, li_197, li_213, li_222, li_223, li_255, li_256, li_257, li_258, li_259, li_260, li_261, li_262, li_263, li_264, li_271, li_272, li_273, li_274, li_275, li_276, li_277, li_278, li_300, li_400, li_420, li_500, li_802, li_820, li_823, li_839, li_855, li_871, li_887, li_999, li_1000, li_1001, li_1002, li_1003, li_1004, li_1005, li_1006, li_1007, li_1008, li_1009, li_1010, li_1011, li_1012, li_1013, li_1014, li_1015, li_1016, li_1017, li_1018, li_1019, li_1020, li_1021, li_1022, li_1023, li_1707, li_4096, li_9999, li_65536, li_100000, li_1000000, li_1664525, li_100000000, li_252645135, li_858993459, li_1000000007, li_1013904223, li_1431655765, li_m1]
      rw [e_isIn, bd_s, hq, if_neg (by decide), G.1.h38]
    have hS : fstB (m 124) (2 ^ zd (m 124) - 1).testBit (zd (m 124)) = fstB (m 124) (fun _ => true) (zd (m 124)) := by
      refine fstB_cg (fun i hi => ?_)
      rw [Nat.testBit_two_pow_sub_one]
      exact decide_eq_true hi
    rw [if_neg (by decide), H.dee.1, G.1.h38, nz_one (by omega), pk_sub (by omega), w_firstOf hN H G.1 (by omega), bd_s, hS]
    by_cases hz : zd (m 124) = 0
    · rw [hz]
      show Wp (bd (f_X9_at N 5 mo1 (nI 1) m) _) _
      rw [e_atR (n := zd (m 124)) (H.dee.1.trans G.1.h38) (Or.inl (by decide)), bd_s]
      rw [hz, if_pos rfl] at hM0
      have e1 : oix (fstB (m 124) (fun _ => true) 0) = mo1 := rfl
      rw [e1, if_neg (show ¬ nI 1 ≤ mo1 by decide)]
      split
      · refine wp_ret ?_
        rw [hM0]
        exact wp_ret ⟨rfl, hI⟩
      · refine wp_ret ?_
        rw [hM0]
        exact wp_ret ⟨rfl, hI⟩
    · rw [if_neg (fun z => hz ((nI_eq (by omega) (by decide)).mp z))] at hM0
      have f1 : fstB (m 124) (fun _ => true) 1 = some 0 := rfl
      have hM : Wp (f_X12_bargain N a m) (fun v m' => (∃ b, fstB (m 124) (fun _ => true) (zd (m 124)) = some b ∧ v = if a = nI 0 then nI b else nI (vl (m 124) b * 60) / nI (lg (m 124) b)) ∧ m' = m) := by
        rw [hM0]
        refine wp_it2 (fun n x c m' => ∃ i b, 1 ≤ i ∧ i ≤ zd (m 124) ∧ n = zd (m 124) - i ∧ fstB (m 124) (fun _ => true) i = some b ∧ x = nI b ∧ c = nI i ∧ m' = m) ?_ N (zd (m 124) - 1) _ _ _ (by omega) ⟨1, 0, by omega, by omega, rfl, f1, rfl, rfl, rfl⟩
        rintro n X x c m' ⟨i, b, hi1, hi, rfl, hb, rfl, rfl, rfl⟩ hX
        have hb2 := fstB_lt hb
        unfold f_X12_bargain_L25
        simp only [li_0, li_1, li_2, li_3, li_4, li_5, li_6, li_7, li_8, li_9, li_10, li_11, li_12, li_13, li_14, li_15, li_16, li_17, li_18, li_19, li_20, li_21, li_22, li_23, li_24, li_25, li_26, li_27, li_28, li_29, li_30, li_31, li_32, li_37, li_38, li_39, li_40, li_41, li_42, li_43, li_44, li_45, li_46, li_47, li_48, li_49, li_50, li_57, li_59, li_60, li_61, li_62, li_63, li_64, li_65, li_69, li_81, li_89, li_90, li_92, li_97, li_99, li_100, li_101, li_103, li_104, li_105, li_106, li_108, li_111, li_112, li_113, li_114, li_115, li_116, li_117, li_119, li_122, li_123, li_124, li_125, li_126, li_127, li_128, li_129, li_130, li_131, li_132, li_133, li_134, li_135, li_136, li_137, li_140, li_141, li_142, li_143, li_145, li_147, li_150, li_153, li_159, li_160, li_161, li_162, li_185, li_197, li_213, li_222, li_223, li_255, li_256, li_257, li_258, li_259, li_260, li_261, li_262, li_263, li_264, li_271, li_272, li_273, li_274, li_275, li_276, li_277, li_278, li_300, li_400, li_420, li_500, li_802, li_820, li_823, li_839, li_855, li_871, li_887, li_999, li_1000, li_1001, li_1002, li_1003, li_1004, li_1005, li_1006, li_1007, li_1008, li_1009, li_1010, li_1011, li_1012, li_1013, li_1014, li_1015, li_1016, li_1017, li_1018, li_1019, li_1020, li_1021, li_1022, li_1023, li_1707, li_4096, li_9999, li_65536, li_100000, li_1000000, li_1664525, li_100000000, li_252645135, li_858993459, li_1000000007, li_1013904223, li_1431655765, li_m1, nI_add]
        rw [G.1.h38]
        obtain ⟨j1, j2, j3, j4, j5⟩ := dee_v G.1 (show b < zd (m' 124) by omega)
        refine wp_ite (fun q => ?_) (fun q => ?_)
        · rw [nI_leI (by omega) (by omega)] at q
          have : i = zd (m' 124) := by omega
          subst this
          refine wp_ite (fun q => ?_) (fun q => ?_)
          · exact wp_ret ⟨⟨b, hb, by rw [if_pos q]⟩, rfl⟩
          · rw [inb_nI (by omega) (by omega), chk_t, inb_nI (by omega) (by omega), chk_t, nI_clamp (by omega), nI_clamp (by omega), j1, j3, decide_eq_true (nI_ne (by omega) (by omega) (by decide)), chk_t, pk_mul]
            exact wp_ret ⟨⟨b, hb, by rw [if_neg q]⟩, rfl⟩
        · rw [nI_leI (by omega) (by omega)] at q
          obtain ⟨i1, i2, i3, i4, i5⟩ := dee_v G.1 (show i < zd (m' 124) by omega)
          have m1 : vl (m' 124) i * lg (m' 124) b ≤ 9 * 60 := Nat.mul_le_mul i2 j5
          have m2 : vl (m' 124) b * lg (m' 124) i ≤ 9 * 60 := Nat.mul_le_mul j2 i5
          have hB : fstB (m' 124) (fun _ => true) (i + 1) = if vl (m' 124) i * lg (m' 124) b ≤ vl (m' 124) b * lg (m' 124) i then some b else some i := by
            show (if true = true then _ else _) = _
            rw [if_pos rfl, hb]
          rw [inb_nI (by omega) (by omega), chk_t, inb_nI (by omega) (by omega), chk_t, inb_nI (by omega) (by omega), chk_t, inb_nI (by omega) (by omega), chk_t, nI_clamp (by omega), nI_clamp (by omega), nI_clamp (by omega), nI_clamp (by omega), i1, i3, j1, j3, pk_mul, pk_mul]
          refine wp_ite (fun q2 => ?_) (fun q2 => ?_) <;> rw [nI_leI (by omega) (by omega)] at q2
          · rw [if_pos q2] at hB
            exact hX (zd (m' 124) - (i + 1)) _ _ _ (by omega) ⟨i + 1, b, by omega, by omega, rfl, hB, rfl, rfl, rfl⟩
          · rw [if_neg q2] at hB
            exact hX (zd (m' 124) - (i + 1)) _ _ _ (by omega) ⟨i + 1, i, by omega, by omega, rfl, hB, rfl, rfl, rfl⟩
      obtain ⟨v, m', ev, ⟨b, hb, hv⟩, hm'⟩ := hM
      subst hm'
      have hb2 := fstB_lt hb
      rw [hb]
      show Wp (bd (f_X9_at N 5 (nI b) (nI 1) m') _) _
      obtain ⟨j1, j2, j3, j4, j5⟩ := dee_v G.1 (show b < zd (m' 124) by omega)
      rw [hr_dee H G.1 (by omega) (by decide), bd_s, show deeV (m' 124) b 1 = nI (lg (m' 124) b) from j3]
      have fin : ∀ x, x = v → Wp (some (x, m')) (fun v1 m1 => Wp (f_X12_bargain N a m1) (fun v2 m2 => v1 = v2 ∧ Inv m2)) := by
        rintro x rfl
        exact wp_ret ⟨x, m', ev, rfl, hI⟩
      refine wp_ite (fun q => ?_) (fun q => ?_)
      · exact fin _ (by rw [hv, if_pos q]; rfl)
      · rw [if_pos (nI_le (by omega) (by omega))]
        show Wp (bd (f_X9_at N 5 (nI b) (nI 0) m') _) _
        rw [hr_dee H G.1 (by omega) (by decide), bd_s, show deeV (m' 124) b 0 = nI (vl (m' 124) b) from j1, decide_eq_true (nI_ne (by omega) (by omega) (by decide)), chk_t, pk_mul]
        exact fin _ (by rw [hv, if_neg q])
end FILLS
