/-! near, groups -/
section NEAR
variable {w w' v0 : Arr} {LN : List Lin} {m m' m2 : Mem} {N d n j i : Nat} {f g : Nat → Nat}
def rnf (f : Nat → Nat) (s : Nat) : Nat → Nat
  | 0 => s
  | h + 1 => if s.testBit h = true then rnf f s h ||| f h else rnf f s h
def itf (f : Nat → Nat) (n s : Nat) : Nat → Nat
  | 0 => s
  | r + 1 => rnf f (itf f n s r) n
theorem rnf_lt {s b : Nat} (hs : s < 2 ^ b) (hf : ∀ h, h < n → f h < 2 ^ b) : rnf f s n < 2 ^ b := by
  induction n with
  | zero => exact hs
  | succ n ih =>
    have := ih (fun h hh => hf h (by omega))
    unfold rnf
    split
    · exact Nat.or_lt_two_pow this (hf n (by omega))
    · exact this
theorem itf_lt {s b r : Nat} (hs : s < 2 ^ b) (hf : ∀ h, h < n → f h < 2 ^ b) : itf f n s r < 2 ^ b := by
  induction r with
  | zero => exact hs
  | succ r ih => exact rnf_lt ih hf
theorem rnf_cg {s : Nat} (h : ∀ k, k < n → f k = g k) : rnf f s n = rnf g s n := by
  induction n with
  | zero => rfl
  | succ n ih =>
    unfold rnf
    rw [ih (fun k hk => h k (by omega)), h n (by omega)]
theorem itf_cg {s r : Nat} (h : ∀ k, k < n → f k = g k) : itf f n s r = itf g n s r := by
  induction r with
  | zero => rfl
  | succ r ih =>
    unfold itf
    rw [ih, rnf_cg h]
theorem itf_fix {s r : Nat} (h : rnf f (itf f n s r) n = itf f n s r) : ∀ k, itf f n s (r + k) = itf f n s r
  | 0 => rfl
  | k + 1 => by
    show rnf f (itf f n s (r + k)) n = _
    rw [itf_fix h k, h]
theorem zn_lt (W0 : WFc w) {h : Nat} (hh : h < zh w) : zn w h < 2 ^ zh w := by
  have p := pow_le31 W0.lzh
  have p0 := pow_pos' (zh w)
  have e := ((W0.hea hh).2.2.2.2).le (by omega)
  unfold zn
  omega
theorem e_reached {s r L : Nat} (hN : 20000 ≤ N) (H : HRep 2 LN w m) (W0 : WFc w) (hs : s < 2 ^ zh w) (hr : r ≤ 12) : f_X7_reached N (nI s) (nI r) (nI L) m = some (nI (itf (fun h => zn w h &&& L) (zh w) s r), m) := by
  have lh := W0.lzh
  have p := pow_le31 lh
  have hf : ∀ h, h < zh w → zn w h &&& L < 2 ^ zh w := fun h hh => and_lt (zn_lt W0 hh)
  refine Wp.toEq ?_
  unfold f_X7_reached
  refine wp_it2 (fun q x y m' => ∃ i, i ≤ r ∧ q = r - i ∧ x = nI (itf (fun h => zn w h &&& L) (zh w) s i) ∧ y = nI i ∧ m' = m) ?_ N r _ _ _ (by omega) ⟨0, by omega, rfl, rfl, rfl, rfl⟩
  rintro q X x y m' ⟨i, hi, rfl, rfl, rfl, rfl⟩ hX
  have l1 := itf_lt (r := i) hs hf
  unfold f_X7_reached_L6
  simp only [li_0, li_1, li_2, li_3, li_4, li_5, li_6, li_7, li_8, li_9, li_10, li_11, li_12, li_13, li_14, li_15, li_16, li_17, li_18, li_19, li_20, li_21, li_22, li_23, li_24, li_25, li_26, li_27, li_28, li_29, li_30, li_31, li_32, li_37, li_38, li_39, li_40, li_41, li_42, li_43, li_44, li_45, li_46, li_47, li_48, li_49, li_50, li_57, li_59, li_60, li_61, li_62, li_63, li_64, li_65, li_69, li_81, li_89, li_90, li_92, li_97, li_99, li_100, li_101, li_103, li_104, li_105, li_106, li_108, li_111, li_112, li_113, li_114, li_115, li_116, li_117, li_119, li_122, li_123, li_124, li_125, li_126, li_127, li_128, li_129, li_130, li_131, li_132, li_133, li_134, li_135, li_136, li_137, li_140, li_141, li_142, li_143, li_145, li_147, li_150, li_153, li_159, li_160, li_161, li_162, li_185, li_197, li_213, li_222, li_223, li_255, li_256, li_257, li_258, li_259, li_260, li_261, li_262, li_263, li_264, li_271, li_272, li_273, li_274, li_275, li_276, li_277, li_278, li_300, li_400, li_420, li_500, li_802, li_820, li_823, li_839, li_855, li_871, li_887, li_999, li_1000, li_1001, li_1002, li_1003, li_1004, li_1005, li_1006, li_1007, li_1008, li_1009, li_1010, li_1011, li_1012, li_1013, li_1014, li_1015, li_1016, li_1017, li_1018, li_1019, li_1020, li_1021, li_1022, li_1023, li_1707, li_4096, li_9999, li_65536, li_100000, li_1000000, li_1664525, li_100000000, li_252645135, li_858993459, li_1000000007, li_1013904223, li_1431655765, li_m1, nI_up]
  refine wp_ite (fun q => ?_) (fun q => ?_) <;> rw [nI_leI (by omega) (by omega)] at q
  · have : i = r := by omega
    subst this
    exact wp_ret ⟨rfl, rfl⟩
  · rw [if_neg (nI_ge (by omega) (by omega))]
    refine wp_it2 (fun q x y m3 => ∃ h, h ≤ zh w ∧ q = zh w - h ∧ x = nI (rnf (fun h => zn w h &&& L) (itf (fun h => zn w h &&& L) (zh w) s i) h) ∧ y = nI h ∧ m3 = m') ?_ N (zh w) _ _ _ (by omega) ⟨0, by omega, rfl, rfl, rfl, rfl⟩
    rintro q X2 x y m3 ⟨h, hh, rfl, rfl, rfl, rfl⟩ hX2
    unfold f_X7_reached_L26
    simp only [li_0, li_1, li_2, li_3, li_4, li_5, li_6, li_7, li_8, li_9, li_10, li_11, li_12, li_13, li_14, li_15, li_16, li_17, li_18, li_19, li_20, li_21, li_22, li_23, li_24, li_25, li_26, li_27, li_28, li_29, li_30, li_31, li_32, li_37, li_38, li_39, li_40, li_41, li_42, li_43, li_44, li_45, li_46, li_47, li_48, li_49, li_50, li_57, li_59, li_60, li_61, li_62, li_63, li_64, li_65, li_69, li_81, li_89, li_90, li_92, li_97, li_99, li_100, li_101, li_103, li_104, li_105, li_106, li_108, li_111, li_112, li_113, li_114, li_115, li_116, li_117, li_119, li_122, li_123, li_124, li_125, li_126, li_127, li_128, li_129, li_130, li_131, li_132, li_133, li_134, li_135, li_136, li_137, li_140, li_141, li_142, li_143, li_145, li_147, li_150, li_153, li_159, li_160, li_161, li_162, li_185, li_197, li_213, li_222, li_223, li_255, li_256, li_257, li_258, li_259, li_260, li_261, li_262, li_263, li_264, li_271, li_272, li_273, li_274, li_275, li_276, li_277, li_278, li_300, li_400, li_420, li_500, li_802, li_820, li_823, li_839, li_855, li_871, li_887, li_999, li_1000, li_1001, li_1002, li_1003, li_1004, li_1005, li_1006, li_1007, li_1008, li_1009, li_1010, li_1011, li_1012, li_1013, li_1014, li_1015, li_1016, li_1017, li_1018, li_1019, li_1020, li_1021, li_1022, li_1023, li_1707, li_4096, li_9999, li_65536, li_100000, li_1000000, li_1664525, li_100000000, li_252645135, li_858993459, li_1000000007, li_1013904223, li_1431655765, li_m1, nI_up]
    rw [H.hea.1, W0.h37]
    refine wp_ite (fun q => ?_) (fun q => ?_) <;> rw [nI_leI (by omega) (by omega)] at q
    · have : h = zh w := by omega
      subst this
      have l2 := rnf_lt l1 hf
      by_cases e : rnf (fun h => zn w h &&& L) (itf (fun h => zn w h &&& L) (zh w) s i) (zh w) = itf (fun h => zn w h &&& L) (zh w) s i
      · rw [if_pos (by rw [e])]
        refine wp_ret ⟨?_, rfl⟩
        have := itf_fix e (r - i)
        rw [show i + (r - i) = r by omega] at this
        rw [this]
      · rw [if_neg (nI_ne e (by omega) (by omega))]
        exact hX (r - (i + 1)) _ _ _ (by omega) ⟨i + 1, by omega, rfl, rfl, rfl, rfl⟩
    · have hR : rnf (fun h => zn w h &&& L) (itf (fun h => zn w h &&& L) (zh w) s i) (h + 1) = if (itf (fun h => zn w h &&& L) (zh w) s i).testBit h = true then rnf (fun h => zn w h &&& L) (itf (fun h => zn w h &&& L) (zh w) s i) h ||| (zn w h &&& L) else rnf (fun h => zn w h &&& L) (itf (fun h => zn w h &&& L) (zh w) s i) h := rfl
      rw [e_isInX m3 (by omega) (by omega), bd_s]
      cases hb : (itf (fun h => zn w h &&& L) (zh w) s i).testBit h with
      | false =>
        rw [hb, if_neg (by decide)] at hR
        rw [if_pos (by decide)]
        exact hX2 (zh w - (h + 1)) _ _ _ (by omega) ⟨h + 1, by omega, rfl, by rw [hR], rfl, rfl⟩
      | true =>
        rw [hb, if_pos rfl] at hR
        rw [if_neg (by decide), hr_hea H W0 (by omega) (by decide), bd_s, show heaV w h 6 = w (185 + h) from rfl, (hea_zn W0 (show h < zh w by omega)).1, nz_and, nz_or, bnd_s]
        exact hX2 (zh w - (h + 1)) _ _ _ (by omega) ⟨h + 1, by omega, rfl, by rw [hR], rfl, rfl⟩
theorem e_nearTo {s r B : Nat} (hN : 20000 ≤ N) (hm : m 124 = w) (W0 : WFc w) (hs : s < 2 ^ zh w) (hr : r ≤ 12) : f_X12_nearTo N (nI s) (nI r) (nI B) m = some (nI (itf (fun h => sdf (zn w h) B) (zh w) s r), m) := by
  have lh := W0.lzh
  have p := pow_le31 lh
  have hf : ∀ h, h < zh w → sdf (zn w h) B < 2 ^ zh w := fun h hh => Nat.lt_of_le_of_lt (sdf_le _ _) (zn_lt W0 hh)
  refine Wp.toEq ?_
  unfold f_X12_nearTo
  refine wp_it2 (fun q x y m' => ∃ i, i ≤ r ∧ q = r - i ∧ x = nI (itf (fun h => sdf (zn w h) B) (zh w) s i) ∧ y = nI i ∧ m' = m) ?_ N r _ _ _ (by omega) ⟨0, by omega, rfl, rfl, rfl, rfl⟩
  rintro q X x y m' ⟨i, hi, rfl, rfl, rfl, rfl⟩ hX
  have l1 := itf_lt (r := i) hs hf
  unfold f_X12_nearTo_L6
  simp only [li_0, li_1, li_2, li_3, li_4, li_5, li_6, li_7, li_8, li_9, li_10, li_11, li_12, li_13, li_14, li_15, li_16, li_17, li_18, li_19, li_20, li_21, li_22, li_23, li_24, li_25, li_26, li_27, li_28, li_29, li_30, li_31, li_32, li_37, li_38, li_39, li_40, li_41, li_42, li_43, li_44, li_45, li_46, li_47, li_48, li_49, li_50, li_57, li_59, li_60, li_61, li_62, li_63, li_64, li_65, li_69, li_81, li_89, li_90, li_92, li_97, li_99, li_100, li_101, li_103, li_104, li_105, li_106, li_108, li_111, li_112, li_113, li_114, li_115, li_116, li_117, li_119, li_122, li_123, li_124, li_125, li_126, li_127, li_128, li_129, li_130, li_131, li_132, li_133, li_134, li_135, li_136, li_137, li_140, li_141, li_142, li_143, li_145, li_147, li_150, li_153, li_159, li_160, li_161, li_162, li_185, li_197, li_213, li_222, li_223, li_255, li_256, li_257, li_258, li_259, li_260, li_261, li_262, li_263, li_264, li_271, li_272, li_273, li_274, li_275, li_276, li_277, li_278, li_300, li_400, li_420, li_500, li_802, li_820, li_823, li_839, li_855, li_871, li_887, li_999, li_1000, li_1001, li_1002, li_1003, li_1004, li_1005, li_1006, li_1007, li_1008, li_1009, li_1010, li_1011, li_1012, li_1013, li_1014, li_1015, li_1016, li_1017, li_1018, li_1019, li_1020, li_1021, li_1022, li_1023, li_1707, li_4096, li_9999, li_65536, li_100000, li_1000000, li_1664525, li_100000000, li_252645135, li_858993459, li_1000000007, li_1013904223, li_1431655765, li_m1, nI_up]
  refine wp_ite (fun q => ?_) (fun q => ?_) <;> rw [nI_leI (by omega) (by omega)] at q
  · have : i = r := by omega
    subst this
    exact wp_ret ⟨rfl, rfl⟩
  · refine wp_it2 (fun q x y m3 => ∃ h, h ≤ zh w ∧ q = zh w - h ∧ x = nI (rnf (fun h => sdf (zn w h) B) (itf (fun h => sdf (zn w h) B) (zh w) s i) h) ∧ y = nI h ∧ m3 = m') ?_ N (zh w) _ _ _ (by omega) ⟨0, by omega, rfl, rfl, rfl, rfl⟩
    rintro q X2 x y m3 ⟨h, hh, rfl, rfl, rfl, rfl⟩ hX2
    unfold f_X12_nearTo_L19
    simp only [li_0, li_1, li_2, li_3, li_4, li_5, li_6, li_7, li_8, li_9, li_10, li_11, li_12, li_13, li_14, li_15, li_16, li_17, li_18, li_19, li_20, li_21, li_22, li_23, li_24, li_25, li_26, li_27, li_28, li_29, li_30, li_31, li_32, li_37, li_38, li_39, li_40, li_41, li_42, li_43, li_44, li_45, li_46, li_47, li_48, li_49, li_50, li_57, li_59, li_60, li_61, li_62, li_63, li_64, li_65, li_69, li_81, li_89, li_90, li_92, li_97, li_99, li_100, li_101, li_103, li_104, li_105, li_106, li_108, li_111, li_112, li_113, li_114, li_115, li_116, li_117, li_119, li_122, li_123, li_124, li_125, li_126, li_127, li_128, li_129, li_130, li_131, li_132, li_133, li_134, li_135, li_136, li_137, li_140, li_141, li_142, li_143, li_145, li_147, li_150, li_153, li_159, li_160, li_161, li_162, li_185, li_197, li_213, li_222, li_223, li_255, li_256, li_257, li_258, li_259, li_260, li_261, li_262, li_263, li_264, li_271, li_272, li_273, li_274, li_275, li_276, li_277, li_278, li_300, li_400, li_420, li_500, li_802, li_820, li_823, li_839, li_855, li_871, li_887, li_999, li_1000, li_1001, li_1002, li_1003, li_1004, li_1005, li_1006, li_1007, li_1008, li_1009, li_1010, li_1011, li_1012, li_1013, li_1014, li_1015, li_1016, li_1017, li_1018, li_1019, li_1020, li_1021, li_1022, li_1023, li_1707, li_4096, li_9999, li_65536, li_100000, li_1000000, li_1664525, li_100000000, li_252645135, li_858993459, li_1000000007, li_1013904223, li_1431655765, li_m1, nI_add]
    rw [hm, W0.h37]
    refine wp_ite (fun q => ?_) (fun q => ?_) <;> rw [nI_leI (by omega) (by omega)] at q
    · have : h = zh w := by omega
      subst this
      exact hX (r - (i + 1)) _ _ _ (by omega) ⟨i + 1, by omega, rfl, rfl, rfl, rfl⟩
    · have hR : rnf (fun h => sdf (zn w h) B) (itf (fun h => sdf (zn w h) B) (zh w) s i) (h + 1) = if (itf (fun h => sdf (zn w h) B) (zh w) s i).testBit h = true then rnf (fun h => sdf (zn w h) B) (itf (fun h => sdf (zn w h) B) (zh w) s i) h ||| sdf (zn w h) B else rnf (fun h => sdf (zn w h) B) (itf (fun h => sdf (zn w h) B) (zh w) s i) h := rfl
      refine wp_ite (fun qb => ?_) (fun qb => ?_) <;> rw [nz_bit (by omega) (by omega)] at qb
      · rw [if_pos qb] at hR
        rw [inb_nI (by omega) (by omega), chk_t, nI_clamp (by omega), (hea_zn W0 (show h < zh w by omega)).1, nz_diff, nz_or, bnd_s]
        exact hX2 (zh w - (h + 1)) _ _ _ (by omega) ⟨h + 1, by omega, rfl, by rw [hR], rfl, rfl⟩
      · rw [if_neg qb] at hR
        rw [nz_or, Nat.or_zero, bnd_s]
        exact hX2 (zh w - (h + 1)) _ _ _ (by omega) ⟨h + 1, by omega, rfl, by rw [hR], rfl, rfl⟩
theorem e_all (H : HRep 2 LN w m) (W0 : WFc w) : f_X7_all N m = some (nI (2 ^ zh w - 1), m) := by
  have lh := W0.lzh
  have p0 := pow_pos' (zh w)
  unfold f_X7_all
  simp only [li_0, li_1, li_2, li_3, li_4, li_5, li_6, li_7, li_8, li_9, li_10, li_11, li_12, li_13, li_14, li_15, li_16, li_17, li_18, li_19, li_20, li_21, li_22, li_23, li_24, li_25, li_26, li_27, li_28, li_29, li_30, li_31, li_32, li_37, li_38, li_39, li_40, li_41, li_42, li_43, li_44, li_45, li_46, li_47, li_48, li_49, li_50, li_57, li_59, li_60, li_61, li_62, li_63, li_64, li_65, li_69, li_81, li_89, li_90, li_92, li_97, li_99, li_100, li_101, li_103, li_104, li_105, li_106, li_108, li_111, li_112, li_113, li_114, li_115, li_116, li_117, li_119, li_122, li_123, li_124, li_125, li_126, li_127, li_128, li_129, li_130, li_131, li_132, li_133, li_134, li_135, li_136, li_137, li_140, li_141, li_142, li_143, li_145, li_147, li_150, li_153, li_159, li_160, li_161, li_162, li_185, li_197, li_213, li_222, li_223, li_255, li_256, li_257, li_258, li_259, li_260, li_261, li_262, li_263, li_264, li_271, li_272, li_273, li_274, li_275, li_276, li_277, li_278, li_300, li_400, li_420, li_500, li_802, li_820, li_823, li_839, li_855, li_871, li_887, li_999, li_1000, li_1001, li_1002, li_1003, li_1004, li_1005, li_1006, li_1007, li_1008, li_1009, li_1010, li_1011, li_1012, li_1013, li_1014, li_1015, li_1016, li_1017, li_1018, li_1019, li_1020, li_1021, li_1022, li_1023, li_1707, li_4096, li_9999, li_65536, li_100000, li_1000000, li_1664525, li_100000000, li_252645135, li_858993459, li_1000000007, li_1013904223, li_1431655765, li_m1]
  rw [H.hea.1, W0.h37, nz_one (by omega), pk_sub (by omega)]
theorem zn_all (W0 : WFc w) {h : Nat} (hh : h < zh w) : zn w h &&& (2 ^ zh w - 1) = zn w h := by
  rw [Nat.and_two_pow_sub_one_eq_mod, Nat.mod_eq_of_lt (zn_lt W0 hh)]
theorem sdf_0 {a : Nat} : sdf a 0 = a := by
  refine Nat.eq_of_testBit_eq (fun i => ?_)
  rw [sdf_bit, Nat.zero_testBit]
  cases a.testBit i <;> rfl
theorem near_eq (W0 : WFc w) {s r : Nat} : itf (fun h => zn w h &&& (2 ^ zh w - 1)) (zh w) s r = itf (fun h => sdf (zn w h) 0) (zh w) s r := itf_cg (fun k hk => by rw [zn_all W0 hk, sdf_0])
theorem pr_near {a b : Int32} (hN : 20000 ≤ N) : Pr (f_X11_near N a b) (f_X12_near N a b) := by
  intro m hI
  obtain ⟨LN, H, G, -⟩ := id hI
  have lh := G.1.lzh
  have p := pow_le31 lh
  unfold f_X11_near
  simp only [li_0, li_1, li_2, li_3, li_4, li_5, li_6, li_7, li_8, li_9, li_10, li_11, li_12, li_13, li_14, li_15, li_16, li_17, li_18, li_19, li_20, li_21, li_22, li_23, li_24, li_25, li_26, li_27, li_28, li_29, li_30, li_31, li_32, li_37, li_38, li_39, li_40, li_41, li_42, li_43, li_44, li_45, li_46, li_47, li_48, li_49, li_50, li_57, li_59, li_60, li_61, li_62, li_63, li_64, li_65, li_69, li_81, li_89, li_90, li_92, li_97, li_99, li_100, li_101, li_103, li_104, li_105, li_106, li_108, li_111, li_112, li_113, li_114, li_115, li_116, li_117, li_119, li_122, li_123, li_124, li_125, li_126, li_127, li_128, li_129, li_130, li_131, li_132, li_133, li_134, li_135, li_136, li_137, li_140, li_141, li_142, li_143, li_145, li_147, li_150, li_153, li_159, li_160, li_161, li_162, li_185, li_197, li_213, li_222, li_223, li_255, li_256, li_257, li_258, li_259, li_260, li_261, li_262, li_263, li_264, li_271, li_272, li_273, li_274, li_275, li_276, li_277, li_278, li_300, li_400, li_420, li_500, li_802, li_820, li_823, li_839, li_855, li_871, li_887, li_999, li_1000, li_1001, li_1002, li_1003, li_1004, li_1005, li_1006, li_1007, li_1008, li_1009, li_1010, li_1011, li_1012, li_1013, li_1014, li_1015, li_1016, li_1017, li_1018, li_1019, li_1020, li_1021, li_1022, li_1023, li_1707, li_4096, li_9999, li_65536, li_100000, li_1000000, li_1664525, li_100000000, li_252645135, li_858993459, li_1000000007, li_1013904223, li_1431655765, li_m1]
  rw [hr_hasH H G.1, bd_s]
  rcases inb_cases a (n := zh (m 124)) (by omega) with ⟨e, -⟩ | ⟨h, hh, rfl⟩
  · rw [e, if_pos (by decide)]
    refine wp_ret ?_
    unfold f_X12_near
    simp only [li_0, li_1, li_2, li_3, li_4, li_5, li_6, li_7, li_8, li_9, li_10, li_11, li_12, li_13, li_14, li_15, li_16, li_17, li_18, li_19, li_20, li_21, li_22, li_23, li_24, li_25, li_26, li_27, li_28, li_29, li_30, li_31, li_32, li_37, li_38, li_39, li_40, li_41, li_42, li_43, li_44, li_45, li_46, li_47, li_48, li_49, li_50, li_57, li_59, li_60, li_61, li_62, li_63, li_64, li_65, li_69, li_81, li_89, li_90, li_92, li_97, li_99, li_100, li_101, li_103, li_104, li_105, li_106, li_108, li_111, li_112, li_113, li_114, li_115, li_116, li_117, li_119, li_122, li_123, li_124, li_125, li_126, li_127, li_128, li_129, li_130, li_131, li_132, li_133, li_134, li_135, li_136, li_137, li_140, li_141, li_142, li_143, li_145, li_147, li_150, li_153, li_159, li_160, li_161, li_162, li_185, li_197, li_213, li_222, li_223, li_255, li_256, li_257, li_258, li_259, li_260, li_261, li_262, li_263, li_264, li_271, li_272, li_273, li_274, li_275, li_276, li_277, li_278, li_300, li_400, li_420, li_500, li_802, li_820, li_823, li_839, li_855, li_871, li_887, li_999, li_1000, li_1001, li_1002, li_1003, li_1004, li_1005, li_1006, li_1007, li_1008, li_1009, li_1010, li_1011, li_1012, li_1013, li_1014, li_1015, li_1016, li_1017, li_1018, li_1019, li_1020, li_1021, li_1022, li_1023, li_1707, li_4096, li_9999, li_65536, li_100000, li_1000000, li_1664525, li_100000000, li_252645135, li_858993459, li_1000000007, li_1013904223, li_1431655765, li_m1]
    rw [e_isHearer rfl G.1, e, bd_s, if_pos (by decide)]
    exact wp_ret ⟨rfl, hI⟩
  · have ph : 2 ^ h < 2 ^ zh (m 124) := Nat.pow_lt_pow_right (by decide) hh
    rw [inb_nI hh (by omega), if_neg (by decide), e_within, bd_s]
    cases hq : decide (nI 0 ≤ b ∧ b ≤ nI 12) with
    | false =>
      rw [if_pos (by decide)]
      refine wp_ret ?_
      unfold f_X12_near
      simp only [li_0, li_1, li_2, li_3, li_4, li_5, li_6, li_7, li_8, li_9, li_10, li_11, li_12, li_13, li_14, li_15, li_16, li_17, li_18, li_19, li_20, li_21, li_22, li_23, li_24, li_25, li_26, li_27, li_28, li_29, li_30, li_31, li_32, li_37, li_38, li_39, li_40, li_41, li_42, li_43, li_44, li_45, li_46, li_47, li_48, li_49, li_50, li_57, li_59, li_60, li_61, li_62, li_63, li_64, li_65, li_69, li_81, li_89, li_90, li_92, li_97, li_99, li_100, li_101, li_103, li_104, li_105, li_106, li_108, li_111, li_112, li_113, li_114, li_115, li_116, li_117, li_119, li_122, li_123, li_124, li_125, li_126, li_127, li_128, li_129, li_130, li_131, li_132, li_133, li_134, li_135, li_136, li_137, li_140, li_141, li_142, li_143, li_145, li_147, li_150, li_153, li_159, li_160, li_161, li_162, li_185, li_197, li_213, li_222, li_223, li_255, li_256, li_257, li_258, li_259, li_260, li_261, li_262, li_263, li_264, li_271, li_272, li_273, li_274, li_275, li_276, li_277, li_278, li_300, li_400, li_420, li_500, li_802, li_820, li_823, li_839, li_855, li_871, li_887, li_999, li_1000, li_1001, li_1002, li_1003, li_1004, li_1005, li_1006, li_1007, li_1008, li_1009, li_1010, li_1011, li_1012, li_1013, li_1014, li_1015, li_1016, li_1017, li_1018, li_1019, li_1020, li_1021, li_1022, li_1023, li_1707, li_4096, li_9999, li_65536, li_100000, li_1000000, li_1664525, li_100000000, li_252645135, li_858993459, li_1000000007, li_1013904223, li_1431655765, li_m1]
      rw [e_isHearer rfl G.1, inb_nI hh (by omega), bd_s, if_neg (by decide), e_isIn, bd_s, hq, if_pos (by decide)]
      exact wp_ret ⟨rfl, hI⟩
    | true =>
      obtain ⟨r, -, hr, rfl⟩ := rng_of (by decide) (by decide) hq
      rw [if_neg (by decide), e_all H G.1, bd_s, nz_one (by omega), e_reached hN H G.1 ph hr, bd_s]
      refine wp_ret ?_
      unfold f_X12_near
      simp only [li_0, li_1, li_2, li_3, li_4, li_5, li_6, li_7, li_8, li_9, li_10, li_11, li_12, li_13, li_14, li_15, li_16, li_17, li_18, li_19, li_20, li_21, li_22, li_23, li_24, li_25, li_26, li_27, li_28, li_29, li_30, li_31, li_32, li_37, li_38, li_39, li_40, li_41, li_42, li_43, li_44, li_45, li_46, li_47, li_48, li_49, li_50, li_57, li_59, li_60, li_61, li_62, li_63, li_64, li_65, li_69, li_81, li_89, li_90, li_92, li_97, li_99, li_100, li_101, li_103, li_104, li_105, li_106, li_108, li_111, li_112, li_113, li_114, li_115, li_116, li_117, li_119, li_122, li_123, li_124, li_125, li_126, li_127, li_128, li_129, li_130, li_131, li_132, li_133, li_134, li_135, li_136, li_137, li_140, li_141, li_142, li_143, li_145, li_147, li_150, li_153, li_159, li_160, li_161, li_162, li_185, li_197, li_213, li_222, li_223, li_255, li_256, li_257, li_258, li_259, li_260, li_261, li_262, li_263, li_264, li_271, li_272, li_273, li_274, li_275, li_276, li_277, li_278, li_300, li_400, li_420, li_500, li_802, li_820, li_823, li_839, li_855, li_871, li_887, li_999, li_1000, li_1001, li_1002, li_1003, li_1004, li_1005, li_1006, li_1007, li_1008, li_1009, li_1010, li_1011, li_1012, li_1013, li_1014, li_1015, li_1016, li_1017, li_1018, li_1019, li_1020, li_1021, li_1022, li_1023, li_1707, li_4096, li_9999, li_65536, li_100000, li_1000000, li_1664525, li_100000000, li_252645135, li_858993459, li_1000000007, li_1013904223, li_1431655765, li_m1]
      rw [e_isHearer rfl G.1, inb_nI hh (by omega), bd_s, if_neg (by decide), e_isIn, bd_s, hq, if_neg (by decide), nz_one (by omega), e_nearTo hN rfl G.1 ph hr, bd_s]
      exact wp_ret ⟨by rw [near_eq G.1], hI⟩
/-! groups: how many, the biggest, who has been reached -/
def grpS (w : Arr) : Nat → Nat × Nat × Nat
  | 0 => (0, 0, 0)
  | h + 1 => if (grpS w h).2.2.testBit h = true then grpS w h
    else ((grpS w h).1 + 1, (if pc (itf (fun h => sdf (zn w h) 0) (zh w) (2 ^ h) 12) ≤ pc (grpS w h).2.1 then (grpS w h).2.1 else itf (fun h => sdf (zn w h) 0) (zh w) (2 ^ h) 12), (grpS w h).2.2 ||| itf (fun h => sdf (zn w h) 0) (zh w) (2 ^ h) 12)
theorem grpS_lt (W0 : WFc w) : ∀ h, h ≤ zh w → (grpS w h).1 ≤ h ∧ (grpS w h).2.1 < 2 ^ zh w ∧ (grpS w h).2.2 < 2 ^ zh w
  | 0, _ => ⟨Nat.le_refl _, pow_pos' _, pow_pos' _⟩
  | h + 1, hh => by
    obtain ⟨a, b, c⟩ := grpS_lt W0 h (by omega)
    have l : itf (fun h => sdf (zn w h) 0) (zh w) (2 ^ h) 12 < 2 ^ zh w := itf_lt (Nat.pow_lt_pow_right (by decide) (by omega)) (fun k hk => Nat.lt_of_le_of_lt (sdf_le _ _) (zn_lt W0 hk))
    unfold grpS
    split
    · exact ⟨by omega, b, c⟩
    · refine ⟨by show _ + 1 ≤ _; omega, ?_, Nat.or_lt_two_pow c l⟩
      show (if _ then _ else _) < _
      split
      · exact b
      · exact l
theorem pr_groups {a : Int32} (hN : 20000 ≤ N) : Pr (f_X11_groups N a) (f_X12_groups N a) := by
  intro m hI
  obtain ⟨LN, H, G, -⟩ := id hI
  have lh := G.1.lzh
  have p := pow_le31 lh
  have p0 := pow_pos' (zh (m 124))
  unfold f_X11_groups
  simp only [li_0, li_1, li_2, li_3, li_4, li_5, li_6, li_7, li_8, li_9, li_10, li_11, li_12, li_13, li_14, li_15, li_16, li_17, li_18, li_19, li_20, li_21, li_22, li_23, li_24, li_25, li_26, li_27, li_28, li_29, li_30, li_31, li_32, li_37, li_38, li_39, li_40, li_41, li_42, li_43, li_44, li_45, li_46, li_47, li_48, li_49, li_50, li_57, li_59, li_60, li_61, li_62, li_63, li_64, li_65, li_69, li_81, li_89, li_90, li_92, li_97, li_99, li_100, li_101, li_103, li_104, li_105, li_106, li_108, li_111, li_112, li_113, li_114, li_115, li_116, li_117, li_119, li_122, li_123, li_124, li_125, li_126, li_127, li_128, li_129, li_130, li_131, li_132, li_133, li_134, li_135, li_136, li_137, li_140, li_141, li_142, li_143, li_145, li_147, li_150, li_153, li_159, li_160, li_161, li_162, li_185, li_197, li_213, li_222, li_223, li_255, li_256, li_257, li_258, li_259, li_260, li_261, li_262, li_263, li_264, li_271, li_272, li_273, li_274, li_275, li_276, li_277, li_278, li_300, li_400, li_420, li_500, li_802, li_820, li_823, li_839, li_855, li_871, li_887, li_999, li_1000, li_1001, li_1002, li_1003, li_1004, li_1005, li_1006, li_1007, li_1008, li_1009, li_1010, li_1011, li_1012, li_1013, li_1014, li_1015, li_1016, li_1017, li_1018, li_1019, li_1020, li_1021, li_1022, li_1023, li_1707, li_4096, li_9999, li_65536, li_100000, li_1000000, li_1664525, li_100000000, li_252645135, li_858993459, li_1000000007, li_1013904223, li_1431655765, li_m1]
  rw [e_within, bd_s]
  cases hq : decide (nI 0 ≤ a ∧ a ≤ nI 1) with
  | false =>
    rw [if_pos (by decide)]
    refine wp_ret ?_
    unfold f_X12_groups
    simp only [li_0, li_1, li_2, li_3, li_4, li_5, li_6, li_7, li_8, li_9, li_10, li_11, li_12, li_13, li_14, li_15, li_16, li_17, li_18, li_19, li_20, li_21, li_22, li_23, li_24, li_25, li_26, li_27, li_28, li_29, li_30, li_31, li_32, li_37, li_38, li_39, li_40, li_41, li_42, li_43, li_44, li_45, li_46, li_47, li_48, li_49, li_50, li_57, li_59, li_60, li_61, li_62, li_63, li_64, li_65, li_69, li_81, li_89, li_90, li_92, li_97, li_99, li_100, li_101, li_103, li_104, li_105, li_106, li_108, li_111, li_112, li_113, li_114, li_115, li_116, li_117, li_119, li_122, li_123, li_124, li_125, li_126, li_127, li_128, li_129, li_130, li_131, li_132, li_133, li_134, li_135, li_136, li_137, li_140, li_141, li_142, li_143, li_145, li_147, li_150, li_153, li_159, li_160, li_161, li_162, li_185, li_197, li_213, li_222, li_223, li_255, li_256, li_257, li_258, li_259, li_260, li_261, li_262, li_263, li_264, li_271, li_272, li_273, li_274, li_275, li_276, li_277, li_278, li_300, li_400, li_420, li_500, li_802, li_820, li_823, li_839, li_855, li_871, li_887, li_999, li_1000, li_1001, li_1002, li_1003, li_1004, li_1005, li_1006, li_1007, li_1008, li_1009, li_1010, li_1011, li_1012, li_1013, li_1014, li_1015, li_1016, li_1017, li_1018, li_1019, li_1020, li_1021, li_1022, li_1023, li_1707, li_4096, li_9999, li_65536, li_100000, li_1000000, li_1664525, li_100000000, li_252645135, li_858993459, li_1000000007, li_1013904223, li_1431655765, li_m1]
    rw [e_isIn, bd_s, hq, if_pos (by decide)]
    exact wp_ret ⟨rfl, hI⟩
  | true =>
    rw [if_neg (by decide)]
    refine wp_mono (Q := fun v m' => v = (if a = nI 0 then nI (grpS (m 124) (zh (m 124))).1 else nI (grpS (m 124) (zh (m 124))).2.1) ∧ m' = m) (wp_it4 (fun q x y z c m' => ∃ h, h ≤ zh (m 124) ∧ q = zh (m 124) - h ∧ x = nI (grpS (m 124) h).1 ∧ y = nI (grpS (m 124) h).2.1 ∧ z = nI (grpS (m 124) h).2.2 ∧ c = nI h ∧ m' = m) ?_ N (zh (m 124)) _ _ _ _ _ (by omega) ⟨0, by omega, rfl, rfl, rfl, rfl, rfl, rfl⟩) ?_
    · rintro q X x y z c m' ⟨h, hh, rfl, rfl, rfl, rfl, rfl, rfl⟩ hX
      obtain ⟨g1, g2, g3⟩ := grpS_lt G.1 h hh
      unfold f_X11_groups_L21
      simp only [li_0, li_1, li_2, li_3, li_4, li_5, li_6, li_7, li_8, li_9, li_10, li_11, li_12, li_13, li_14, li_15, li_16, li_17, li_18, li_19, li_20, li_21, li_22, li_23, li_24, li_25, li_26, li_27, li_28, li_29, li_30, li_31, li_32, li_37, li_38, li_39, li_40, li_41, li_42, li_43, li_44, li_45, li_46, li_47, li_48, li_49, li_50, li_57, li_59, li_60, li_61, li_62, li_63, li_64, li_65, li_69, li_81, li_89, li_90, li_92, li_97, li_99, li_100, li_101, li_103, li_104, li_105, li_106, li_108, li_111, li_112, li_113, li_114, li_115, li_116, li_117, li_119, li_122, li_123, li_124, li_125, li_126, li_127, li_128, li_129, li_130, li_131, li_132, li_133, li_134, li_135, li_136, li_137, li_140, li_141, li_142, li_143, li_145, li_147, li_150, li_153, li_159, li_160, li_161, li_162, li_185, li_197, li_213, li_222, li_223, li_255, li_256, li_257, li_258, li_259, li_260, li_261, li_262, li_263, li_264, li_271, li_272, li_273, li_274, li_275, li_276, li_277, li_278, li_300, li_400, li_420, li_500, li_802, li_820, li_823, li_839, li_855, li_871, li_887, li_999, li_1000, li_1001, li_1002, li_1003, li_1004, li_1005, li_1006, li_1007, li_1008, li_1009, li_1010, li_1011, li_1012, li_1013, li_1014, li_1015, li_1016, li_1017, li_1018, li_1019, li_1020, li_1021, li_1022, li_1023, li_1707, li_4096, li_9999, li_65536, li_100000, li_1000000, li_1664525, li_100000000, li_252645135, li_858993459, li_1000000007, li_1013904223, li_1431655765, li_m1, nI_up]
      rw [H.hea.1, G.1.h37]
      refine wp_ite (fun q => ?_) (fun q => ?_) <;> rw [nI_leI (by omega) (by omega)] at q
      · have : h = zh (m' 124) := by omega
        subst this
        refine wp_ite (fun q => ?_) (fun q => ?_)
        · rw [if_pos q]; exact wp_ret ⟨rfl, rfl⟩
        · rw [if_neg q]; exact wp_ret ⟨rfl, rfl⟩
      · have ph : 2 ^ h < 2 ^ zh (m' 124) := Nat.pow_lt_pow_right (by decide) (by omega)
        have hG : grpS (m' 124) (h + 1) = if (grpS (m' 124) h).2.2.testBit h = true then grpS (m' 124) h else ((grpS (m' 124) h).1 + 1, (if pc (itf (fun h => sdf (zn (m' 124) h) 0) (zh (m' 124)) (2 ^ h) 12) ≤ pc (grpS (m' 124) h).2.1 then (grpS (m' 124) h).2.1 else itf (fun h => sdf (zn (m' 124) h) 0) (zh (m' 124)) (2 ^ h) 12), (grpS (m' 124) h).2.2 ||| itf (fun h => sdf (zn (m' 124) h) 0) (zh (m' 124)) (2 ^ h) 12) := rfl
        rw [e_isInX m' (by omega) (by omega), bd_s]
        cases hb : (grpS (m' 124) h).2.2.testBit h with
        | true =>
          rw [hb, if_pos rfl] at hG
          rw [if_neg (by decide)]
          exact hX (zh (m' 124) - (h + 1)) _ _ _ _ _ (by omega) ⟨h + 1, by omega, rfl, by rw [hG], by rw [hG], by rw [hG], rfl, rfl⟩
        | false =>
          rw [hb, if_neg (by decide)] at hG
          have l : itf (fun h => sdf (zn (m' 124) h) 0) (zh (m' 124)) (2 ^ h) 12 < 2 ^ zh (m' 124) := itf_lt ph (fun k hk => Nat.lt_of_le_of_lt (sdf_le _ _) (zn_lt G.1 hk))
          rw [if_pos (by decide), e_all H G.1, bd_s, nz_one (by omega), e_reached hN H G.1 ph (by decide), bd_s, near_eq G.1]
          generalize itf (fun h => sdf (zn (m' 124) h) 0) (zh (m' 124)) (2 ^ h) 12 = r at hG l
          have lp1 := pc_le r
          have lp2 := pc_le (grpS (m' 124) h).2.1
          rw [nz_or, bnd_s, e_bitCount _ (by omega), bd_s, e_bitCount _ (by omega), bd_s]
          refine wp_ite (fun q2 => ?_) (fun q2 => ?_) <;> rw [nI_leI (by omega) (by omega)] at q2
          · rw [if_pos q2] at hG
            exact hX (zh (m' 124) - (h + 1)) _ _ _ _ _ (by omega) ⟨h + 1, by omega, rfl, by rw [hG], by rw [hG], by rw [hG], rfl, rfl⟩
          · rw [if_neg q2] at hG
            exact hX (zh (m' 124) - (h + 1)) _ _ _ _ _ (by omega) ⟨h + 1, by omega, rfl, by rw [hG], by rw [hG], by rw [hG], rfl, rfl⟩
    · rintro _ m1 ⟨rfl, rfl⟩
      unfold f_X12_groups f_X12_allHearers
      simp only [li_0, li_1, li_2, li_3, li_4, li_5, li_6, li_7, li_8, li_9, li_10, li_11, li_12, li_13, li_14, li_15, li_16, li_17, li_18, li_19, li_20, li_21, li_22, li_23, li_24, li_25, li_26, li_27, li_28, li_29, li_30, li_31, li_32, li_37, li_38, li_39, li_40, li_41, li_42, li_43, li_44, li_45, li_46, li_47, li_48, li_49, li_50, li_57, li_59, li_60, li_61, li_62, li_63, li_64, li_65, li_69, li_81, li_89, li_90, li_92, li_97, li_99, li_100, li_101, li_103, li_104, li_105, li_106, li_108, li_111, li_112, li_113, li_114, li_115, li_116, li_117, li_119, li_122, li_123, li_124, li_125, li_126, li_127, li_128, li_129, li_130, li_131, li_132, li_133, li_134, li_135, li_136, li_137, li_140, li_141, li_142, li_143, li_145, li_147, li_150, li_153, li_159, li_160, li_161, li_162, li_185, li_197, li_213, li_222, li_223, li_255, li_256, li_257, li_258, li_259, li_260, li_261, li_262, li_263, li_264, li_271, li_272, li_273, li_274, li_275, li_276, li_277, li_278, li_300, li_400, li_420, li_500, li_802, li_820, li_823, li_839, li_855, li_871, li_887, li_999, li_1000, li_1001, li_1002, li_1003, li_1004, li_1005, li_1006, li_1007, li_1008, li_1009, li_1010, li_1011, li_1012, li_1013, li_1014, li_1015, li_1016, li_1017, li_1018, li_1019, li_1020, li_1021, li_1022, li_1023, li_1707, li_4096, li_9999, li_65536, li_100000, li_1000000, li_1664525, li_100000000, li_252645135, li_858993459, li_1000000007, li_1013904223, li_1431655765, li_m1]
      rw [e_isIn, bd_s, hq, if_neg (by decide), G.1.h37, nz_one (by omega), pk_sub (by omega), bd_s]
      refine wp_mono (Q := fun v m' => v = (if a = nI 0 then nI (grpS (m1 124) (zh (m1 124))).1 else nI (grpS (m1 124) (zh (m1 124))).2.1) ∧ m' = m1) (wp_it4 (fun q z x y c m' => ∃ h, h ≤ zh (m1 124) ∧ q = zh (m1 124) - h ∧ x = nI (grpS (m1 124) h).1 ∧ y = nI (grpS (m1 124) h).2.1 ∧ z = nI (sdf (2 ^ zh (m1 124) - 1) (grpS (m1 124) h).2.2) ∧ c = nI h ∧ m' = m1) ?_ N (zh (m1 124)) _ _ _ _ _ (by omega)
        ⟨0, by omega, rfl, rfl, rfl, by rw [show (grpS (m1 124) 0).2.2 = 0 from rfl, sdf_0], rfl, rfl⟩) (fun v m2 hv => ⟨hv.1.symm, by rw [hv.2]; exact hI⟩)
      rintro q X z x y c m' ⟨h, hh, rfl, rfl, rfl, rfl, rfl, rfl⟩ hX
      obtain ⟨g1, g2, g3⟩ := grpS_lt G.1 h hh
      have lsd := sdf_le (2 ^ zh (m' 124) - 1) (grpS (m' 124) h).2.2
      unfold f_X12_groups_L24
      simp only [li_0, li_1, li_2, li_3, li_4, li_5, li_6, li_7, li_8, li_9, li_10, li_11, li_12, li_13, li_14, li_15, li_16, li_17, li_18, li_19, li_20, li_21, li_22, li_23, li_24, li_25, li_26, li_27, li_28, li_29, li_30, li_31, li_32, li_37, li_38, li_39, li_40, li_41, li_42, li_43, li_44, li_45, li_46, li_47, li_48, li_49, li_50, li_57, li_59, li_60, li_61, li_62, li_63, li_64, li_65, li_69, li_81, li_89, li_90, li_92, li_97, li_99, li_100, li_101, li_103, li_104, li_105, li_106, li_108, li_111, li_112, li_113, li_114, li_115, li_116, li_117, li_119, li_122, li_123, li_124, li_125, li_126, li_127, li_128, li_129, li_130, li_131, li_132, li_133, li_134, li_135, li_136, li_137, li_140, li_141, li_142, li_143, li_145, li_147, li_150, li_153, li_159, li_160, li_161, li_162, li_185, li_197, li_213, li_222, li_223, li_255, li_256, li_257, li_258, li_259, li_260, li_261, li_262, li_263, li_264, li_271, li_272, li_273, li_274, li_275, li_276, li_277, li_278, li_300, li_400, li_420, li_500, li_802, li_820, li_823, li_839, li_855, li_871, li_887, li_999, li_1000, li_1001, li_1002, li_1003, li_1004, li_1005, li_1006, li_1007, li_1008, li_1009, li_1010, li_1011, li_1012, li_1013, li_1014, li_1015, li_1016, li_1017, li_1018, li_1019, li_1020, li_1021, li_1022, li_1023, li_1707, li_4096, li_9999, li_65536, li_100000, li_1000000, li_1664525, li_100000000, li_252645135, li_858993459, li_1000000007, li_1013904223, li_1431655765, li_m1, nI_up]
      rw [G.1.h37]
      refine wp_ite (fun q => ?_) (fun q => ?_) <;> rw [nI_leI (by omega) (by omega)] at q
      · have : h = zh (m' 124) := by omega
        subst this
        refine wp_ite (fun q => ?_) (fun q => ?_)
        · rw [if_pos q]; exact wp_ret ⟨rfl, rfl⟩
        · rw [if_neg q]; exact wp_ret ⟨rfl, rfl⟩
      · have ph : 2 ^ h < 2 ^ zh (m' 124) := Nat.pow_lt_pow_right (by decide) (by omega)
        have hG : grpS (m' 124) (h + 1) = if (grpS (m' 124) h).2.2.testBit h = true then grpS (m' 124) h else ((grpS (m' 124) h).1 + 1, (if pc (itf (fun h => sdf (zn (m' 124) h) 0) (zh (m' 124)) (2 ^ h) 12) ≤ pc (grpS (m' 124) h).2.1 then (grpS (m' 124) h).2.1 else itf (fun h => sdf (zn (m' 124) h) 0) (zh (m' 124)) (2 ^ h) 12), (grpS (m' 124) h).2.2 ||| itf (fun h => sdf (zn (m' 124) h) 0) (zh (m' 124)) (2 ^ h) 12) := rfl
        have hbit : (sdf (2 ^ zh (m' 124) - 1) (grpS (m' 124) h).2.2).testBit h = !(grpS (m' 124) h).2.2.testBit h := by
          rw [sdf_bit, Nat.testBit_two_pow_sub_one, decide_eq_true (show h < zh (m' 124) by omega), Bool.true_and]
        cases hb : (grpS (m' 124) h).2.2.testBit h with
        | true =>
          rw [hb] at hbit
          rw [hb, if_pos rfl] at hG
          rw [if_pos ((nz_bit0 (by omega) (by omega)).mpr hbit)]
          exact hX (zh (m' 124) - (h + 1)) _ _ _ _ _ (by omega) ⟨h + 1, by omega, rfl, by rw [hG], by rw [hG], by rw [hG], rfl, rfl⟩
        | false =>
          rw [hb] at hbit
          rw [hb, if_neg (by decide)] at hG
          have l : itf (fun h => sdf (zn (m' 124) h) 0) (zh (m' 124)) (2 ^ h) 12 < 2 ^ zh (m' 124) := itf_lt ph (fun k hk => Nat.lt_of_le_of_lt (sdf_le _ _) (zn_lt G.1 hk))
          rw [if_neg (fun z => by rw [(nz_bit0 (by omega) (by omega)).mp z] at hbit; cases hbit), nz_one (by omega), e_nearTo hN rfl G.1 ph (by decide), bd_s]
          generalize itf (fun h => sdf (zn (m' 124) h) 0) (zh (m' 124)) (2 ^ h) 12 = r at hG l
          have lp1 := pc_le r
          have lp2 := pc_le (grpS (m' 124) h).2.1
          have hsd : sdf (sdf (2 ^ zh (m' 124) - 1) (grpS (m' 124) h).2.2) r = sdf (2 ^ zh (m' 124) - 1) ((grpS (m' 124) h).2.2 ||| r) := by
            refine Nat.eq_of_testBit_eq (fun i => ?_)
            rw [sdf_bit, sdf_bit, sdf_bit, Nat.testBit_or]
            cases (2 ^ zh (m' 124) - 1).testBit i <;> cases (grpS (m' 124) h).2.2.testBit i <;> cases r.testBit i <;> rfl
          rw [nz_diff, bnd_s, hsd, e_count _ hN (by omega), bd_s, e_count _ hN (by omega), bd_s]
          refine wp_ite (fun q2 => ?_) (fun q2 => ?_) <;> rw [nI_leI (by omega) (by omega)] at q2
          · rw [if_pos q2] at hG
            exact hX (zh (m' 124) - (h + 1)) _ _ _ _ _ (by omega) ⟨h + 1, by omega, rfl, by rw [hG], by rw [hG], by rw [hG], rfl, rfl⟩
          · rw [if_neg q2] at hG
            exact hX (zh (m' 124) - (h + 1)) _ _ _ _ _ (by omega) ⟨h + 1, by omega, rfl, by rw [hG], by rw [hG], by rw [hG], rfl, rfl⟩
end NEAR
