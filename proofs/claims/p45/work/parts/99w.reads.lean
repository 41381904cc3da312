/-! what the model answers when it is asked -/
section READS
variable {m : Mem} {N h d i c j : Nat} {a b : Int32} {LN : List Lin}
theorem e_ofH (W0 : WFc (m 124)) : f_X12_of N a b m = if b2i (inb a (zh (m 124))) = nI 0 then some (mo1, m) else (swt (Int32.toInt b - (3)) [(bd (f_X12_isThere N a m) fun r_46 m_46 => if r_46 = 0 then (some (0, m_46)) else (some (1, m_46))),
      (bd (f_X12_isGloved N a m) fun r_60 m_60 => if r_60 = 0 then (some (0, m_60)) else (some (1, m_60))), (chk (inb ((9 : Int32) + a) 1707) <| some (m 124 ((9 : Int32) + a).toNatClampNeg, m)), (chk (inb ((185 : Int32) + a) 1707) <| some (m 124 ((185 : Int32) + a).toNatClampNeg, m)),
      (bd (f_X12_countsAs N a m) fun r_95 m_95 => some (r_95, m_95))] (bd (f_X12_isIn N b 0 2 m) fun r_102 m_102 => if r_102 = 0 then (bd (f_X12_isDeed N (b - (10 : Int32)) m_102) fun r_128 m_128 => if r_128 = 0 then (some ((-1), m_128)) else (bd (f_X12_clapOf N a (b - (10 : Int32)) 0 m_128) fun r_141 m_141 => some (r_141, m_141)))
        else (chk (inb (((45 : Int32) + ((12 : Int32) * b)) + a) 1707) <| some (m_102 124 (((45 : Int32) + ((12 : Int32) * b)) + a).toNatClampNeg, m_102)))) := by
  unfold f_X12_of
  rw [e_isHearer rfl W0, bd_s]
  rfl
theorem e_ofX (W0 : WFc (m 124)) : f_X12_of N (nI (zh (m 124))) b m = some (mo1, m) := by
  have l := W0.lzh
  rw [e_ofH W0, inb_no (Or.inr (Int32.le_refl _)) (by omega), if_pos (by decide)]
theorem e_ofJ (hN : 20000 ≤ N) (W0 : WFc (m 124)) (hh : h < zh (m 124)) (h8 : j < 8) : f_X12_of N (nI h) (nI j) m = some (heaV (m 124) h j, m) := by
  have lh := W0.lzh
  rw [e_ofH W0, inb_nI hh (by omega), if_neg (by decide), e_there rfl W0 (by omega), e_gloved rfl W0 (by omega), e_counts hN rfl W0 (by omega), e_isIn]
  simp only [li_0, li_1, li_2, li_3, li_4, li_5, li_6, li_7, li_8, li_9, li_10, li_11, li_12, li_13, li_14, li_15, li_16, li_17, li_18, li_19, li_20, li_21, li_22, li_23, li_24, li_25, li_26, li_27, li_28, li_29, li_30, li_31, li_32, li_37, li_38, li_39, li_40, li_41, li_42, li_43, li_44, li_45, li_46, li_47, li_48, li_49, li_50, li_57, li_59, li_60, li_61, li_62, li_63, li_64, li_65, li_69, li_81, li_89, li_90, li_92, li_97, li_99, li_100, li_101, li_103, li_104, li_105, li_106, li_108, li_111, li_112, li_113, li_114, li_115, li_116, li_117, li_119, li_122, li_123, li_124, li_125, li_126, li_127, li_128, li_129, li_130, li_131, li_132, li_133, li_134, li_135, li_136, li_137, li_140, li_141, li_142, li_143, li_145, li_147, li_150, li_153, li_159, li_160, li_161, li_162, li_185, li_197, li_213, li_222, li_223, li_255, li_256, li_257, li_258, li_259, li_260, li_261, li_262, li_263, li_264, li_271, li_272, li_273, li_274, li_275, li_276, li_277, li_278, li_300, li_400, li_420, li_500, li_802, li_820, li_823, li_839, li_855, li_871, li_887, li_999, li_1000, li_1001, li_1002, li_1003, li_1004, li_1005, li_1006, li_1007, li_1008, li_1009, li_1010, li_1011, li_1012, li_1013, li_1014, li_1015, li_1016, li_1017, li_1018, li_1019, li_1020, li_1021, li_1022, li_1023, li_1707, li_4096, li_9999, li_65536, li_100000, li_1000000, li_1664525, li_100000000, li_252645135, li_858993459, li_1000000007, li_1013904223, li_1431655765, li_m1, pk_mul, nI_add, bd_s]
  rw [inb_nI (show 9 + h < 1707 by omega) (by omega), inb_nI (show 185 + h < 1707 by omega) (by omega), chk_t, chk_t, nI_clamp (show 9 + h < 2 ^ 31 by omega), nI_clamp (show 185 + h < 2 ^ 31 by omega)]
  match j, h8 with
  | 0, _ => rw [swt_no (Or.inl (by decide)), show decide (nI 0 ≤ nI 0 ∧ nI 0 ≤ nI 2) = true by decide, if_neg (by decide), inb_nI (by omega) (by omega), chk_t, nI_clamp (by omega)]; rfl
  | 1, _ => rw [swt_no (Or.inl (by decide)), show decide (nI 0 ≤ nI 1 ∧ nI 1 ≤ nI 2) = true by decide, if_neg (by decide), inb_nI (by omega) (by omega), chk_t, nI_clamp (by omega)]; rfl
  | 2, _ => rw [swt_no (Or.inl (by decide)), show decide (nI 0 ≤ nI 2 ∧ nI 2 ≤ nI 2) = true by decide, if_neg (by decide), inb_nI (by omega) (by omega), chk_t, nI_clamp (by omega)]; rfl
  | 3, _ =>
    rw [swt_at 0 (by decide) rfl, show heaV (m 124) h 3 = b2i ((zt (m 124)).testBit h) from rfl]
    cases (zt (m 124)).testBit h
    · rw [if_pos (by decide)]; rfl
    · rw [if_neg (by decide)]; rfl
  | 4, _ =>
    rw [swt_at 1 (by decide) rfl, show heaV (m 124) h 4 = b2i ((zv (m 124)).testBit h) from rfl]
    cases (zv (m 124)).testBit h
    · rw [if_pos (by decide)]; rfl
    · rw [if_neg (by decide)]; rfl
  | 5, _ => rw [swt_at 2 (by decide) rfl]; rfl
  | 6, _ => rw [swt_at 3 (by decide) rfl]; rfl
  | 7, _ => rw [swt_at 4 (by decide) rfl]; rfl
theorem e_ofN (W0 : WFc (m 124)) (hh : h < zh (m 124)) (h8 : j = 8 ∨ j = 10 + zd (m 124)) : f_X12_of N (nI h) (nI j) m = some (mo1, m) := by
  have lh := W0.lzh
  have ld := W0.lzd
  rw [e_ofH W0, inb_nI hh (by omega), if_neg (by decide)]
  refine (swt_hi (n := 8) (nI_le (by omega) (by omega)) (by decide) (by simp)).trans ?_
  have e : inb (nI j - nI 10) (zd (m 124)) = false := by
    rcases h8 with rfl | rfl
    · rcases sub10 (nI 8) (n := zd (m 124)) (by omega) with ⟨e, -⟩ | ⟨k, hk, e⟩
      · exact e
      · exact absurd e (nI_ne (by omega) (by omega) (by omega))
    · rw [pk_sub (by omega), Nat.add_sub_cancel_left]
      exact inb_no (Or.inr (Int32.le_refl _)) (by omega)
  simp only [li_0, li_1, li_2, li_3, li_4, li_5, li_6, li_7, li_8, li_9, li_10, li_11, li_12, li_13, li_14, li_15, li_16, li_17, li_18, li_19, li_20, li_21, li_22, li_23, li_24, li_25, li_26, li_27, li_28, li_29, li_30, li_31, li_32, li_37, li_38, li_39, li_40, li_41, li_42, li_43, li_44, li_45, li_46, li_47, li_48, li_49, li_50, li_57, li_59, li_60, li_61, li_62, li_63, li_64, li_65, li_69, li_81, li_89, li_90, li_92, li_97, li_99, li_100, li_101, li_103, li_104, li_105, li_106, li_108, li_111, li_112, li_113, li_114, li_115, li_116, li_117, li_119, li_122, li_123, li_124, li_125, li_126, li_127, li_128, li_129, li_130, li_131, li_132, li_133, li_134, li_135, li_136, li_137, li_140, li_141, li_142, li_143, li_145, li_147, li_150, li_153, li_159, li_160, li_161, li_162, li_185, li_197, li_213, li_222, li_223, li_255, li_256, li_257, li_258, li_259, li_260, li_261, li_262, li_263, li_264, li_271, li_272, li_273, li_274, li_275, li_276, li_277, li_278, li_300, li_400, li_420, li_500, li_802, li_820, li_823, li_839, li_855, li_871, li_887, li_999, li_1000, li_1001, li_1002, li_1003, li_1004, li_1005, li_1006, li_1007, li_1008, li_1009, li_1010, li_1011, li_1012, li_1013, li_1014, li_1015, li_1016, li_1017, li_1018, li_1019, li_1020, li_1021, li_1022, li_1023, li_1707, li_4096, li_9999, li_65536, li_100000, li_1000000, li_1664525, li_100000000, li_252645135, li_858993459, li_1000000007, li_1013904223, li_1431655765, li_m1]
  rw [e_isIn, bd_s, rng_is (by omega) (by decide) (by decide), decide_eq_false (by omega), if_pos (by decide), e_isDeed rfl W0, e, bd_s, if_pos (by decide)]
theorem w_ofC (hN : 20000 ≤ N) (W0 : WFc (m 124)) (L : Lw LN (m 124)) (hh : h < zh (m 124)) (hd : d < zd (m 124)) : Wp (f_X12_of N (nI h) (nI (10 + d)) m) (fun v m' => v = nI (clapS LN (m 124) h d 0) ∧ Fr [(132, 133)] m m') := by
  have lh := W0.lzh
  have ld := W0.lzd
  rw [e_ofH W0, inb_nI hh (by omega), if_neg (by decide)]
  refine wp_eq (swt_hi (n := 10) (nI_le (by omega) (by omega)) (by decide) (by simp)) ?_
  simp only [li_0, li_1, li_2, li_3, li_4, li_5, li_6, li_7, li_8, li_9, li_10, li_11, li_12, li_13, li_14, li_15, li_16, li_17, li_18, li_19, li_20, li_21, li_22, li_23, li_24, li_25, li_26, li_27, li_28, li_29, li_30, li_31, li_32, li_37, li_38, li_39, li_40, li_41, li_42, li_43, li_44, li_45, li_46, li_47, li_48, li_49, li_50, li_57, li_59, li_60, li_61, li_62, li_63, li_64, li_65, li_69, li_81, li_89, li_90, li_92, li_97, li_99, li_100, li_101, li_103, li_104, li_105, li_106, li_108, li_111, li_112, li_113, li_114, li_115, li_116, li_117, li_119, li_122, li_123, li_124, li_125, li_126, li_127, li_128, li_129, li_130, li_131, li_132, li_133, li_134, li_135, li_136, li_137, li_140, li_141, li_142, li_143, li_145, li_147, li_150, li_153, li_159, li_160, li_161, li_162, li_185, li_197, li_213, li_222, li_223, li_255, li_256, li_257, li_258, li_259, li_260, li_261, li_262, li_263, li_264, li_271, li_272, li_273, li_274, li_275, li_276, li_277, li_278, li_300, li_400, li_420, li_500, li_802, li_820, li_823, li_839, li_855, li_871, li_887, li_999, li_1000, li_1001, li_1002, li_1003, li_1004, li_1005, li_1006, li_1007, li_1008, li_1009, li_1010, li_1011, li_1012, li_1013, li_1014, li_1015, li_1016, li_1017, li_1018, li_1019, li_1020, li_1021, li_1022, li_1023, li_1707, li_4096, li_9999, li_65536, li_100000, li_1000000, li_1664525, li_100000000, li_252645135, li_858993459, li_1000000007, li_1013904223, li_1431655765, li_m1]
  rw [e_isIn, bd_s, rng_is (by omega) (by decide) (by decide), decide_eq_false (by omega), if_pos (by decide), pk_sub (by omega), Nat.add_sub_cancel_left, e_isDeed rfl W0, inb_nI hd (by omega), bd_s, if_neg (by decide)]
  refine wp_bind (w_clapM hN rfl (by omega) (by omega) L.1 L.2) ?_
  rintro v m3 ⟨rfl, f3⟩
  exact wp_ret ⟨rfl, f3⟩
theorem e_dofH (W0 : WFc (m 124)) : f_X12_deedOf N a b m = if b2i (inb a (zd (m 124))) = nI 0 then some (mo1, m) else (swt (Int32.toInt b - (0)) [(chk (inb ((81 : Int32) + a) 1707) <| some (m 124 ((81 : Int32) + a).toNatClampNeg, m)), (chk (inb ((89 : Int32) + a) 1707) <| some (m 124 ((89 : Int32) + a).toNatClampNeg, m)),
      (chk (inb ((97 : Int32) + a) 1707) <| some (m 124 ((97 : Int32) + a).toNatClampNeg, m)), (chk (inb ((21 : Int32) + a) 1707) <| some (m 124 ((21 : Int32) + a).toNatClampNeg, m)), (chk (inb ((29 : Int32) + a) 1707) <| some (m 124 ((29 : Int32) + a).toNatClampNeg, m)),
      (bd (f_X12_loudOf N a m) fun r_104 m_104 => some (r_104, m_104)), (bd (f_X12_wearsOf N a m) fun r_110 m_110 => some (r_110, m_110))] (some ((-1), m))) := by
  unfold f_X12_deedOf
  rw [e_isDeed rfl W0, bd_s]
  rfl
theorem e_dofX (W0 : WFc (m 124)) : f_X12_deedOf N (nI (zd (m 124))) b m = some (mo1, m) := by
  have l := W0.lzd
  rw [e_dofH W0, inb_no (Or.inr (Int32.le_refl _)) (by omega), if_pos (by decide)]
theorem e_dofN (W0 : WFc (m 124)) (hd : d < zd (m 124)) : f_X12_deedOf N (nI d) (nI 7) m = some (mo1, m) := by
  have l := W0.lzd
  rw [e_dofH W0, inb_nI hd (by omega), if_neg (by decide)]
  exact swt_hi (n := 7) (nI_le (by omega) (by omega)) (by decide) (by simp)
theorem e_dofJ (W0 : WFc (m 124)) (hd : d < zd (m 124)) (h5 : j < 5) : f_X12_deedOf N (nI d) (nI j) m = some (deeV (m 124) d j, m) := by
  have l := W0.lzd
  rw [e_dofH W0, inb_nI hd (by omega), if_neg (by decide)]
  simp only [li_0, li_1, li_2, li_3, li_4, li_5, li_6, li_7, li_8, li_9, li_10, li_11, li_12, li_13, li_14, li_15, li_16, li_17, li_18, li_19, li_20, li_21, li_22, li_23, li_24, li_25, li_26, li_27, li_28, li_29, li_30, li_31, li_32, li_37, li_38, li_39, li_40, li_41, li_42, li_43, li_44, li_45, li_46, li_47, li_48, li_49, li_50, li_57, li_59, li_60, li_61, li_62, li_63, li_64, li_65, li_69, li_81, li_89, li_90, li_92, li_97, li_99, li_100, li_101, li_103, li_104, li_105, li_106, li_108, li_111, li_112, li_113, li_114, li_115, li_116, li_117, li_119, li_122, li_123, li_124, li_125, li_126, li_127, li_128, li_129, li_130, li_131, li_132, li_133, li_134, li_135, li_136, li_137, li_140, li_141, li_142, li_143, li_145, li_147, li_150, li_153, li_159, li_160, li_161, li_162, li_185, li_197, li_213, li_222, li_223, li_255, li_256, li_257, li_258, li_259, li_260, li_261, li_262, li_263, li_264, li_271, li_272, li_273, li_274, li_275, li_276, li_277, li_278, li_300, li_400, li_420, li_500, li_802, li_820, li_823, li_839, li_855, li_871, li_887, li_999, li_1000, li_1001, li_1002, li_1003, li_1004, li_1005, li_1006, li_1007, li_1008, li_1009, li_1010, li_1011, li_1012, li_1013, li_1014, li_1015, li_1016, li_1017, li_1018, li_1019, li_1020, li_1021, li_1022, li_1023, li_1707, li_4096, li_9999, li_65536, li_100000, li_1000000, li_1664525, li_100000000, li_252645135, li_858993459, li_1000000007, li_1013904223, li_1431655765, li_m1, nI_add]
  rw [inb_nI (show 81 + d < 1707 by omega) (by omega), inb_nI (show 89 + d < 1707 by omega) (by omega), inb_nI (show 97 + d < 1707 by omega) (by omega), inb_nI (show 21 + d < 1707 by omega) (by omega), inb_nI (show 29 + d < 1707 by omega) (by omega), chk_t, chk_t, chk_t, chk_t, chk_t,
    nI_clamp (show 81 + d < 2 ^ 31 by omega), nI_clamp (show 89 + d < 2 ^ 31 by omega), nI_clamp (show 97 + d < 2 ^ 31 by omega), nI_clamp (show 21 + d < 2 ^ 31 by omega), nI_clamp (show 29 + d < 2 ^ 31 by omega)]
  match j, h5 with
  | 0, _ => rw [swt_at 0 (by decide) rfl]; rfl
  | 1, _ => rw [swt_at 1 (by decide) rfl]; rfl
  | 2, _ => rw [swt_at 2 (by decide) rfl]; rfl
  | 3, _ => rw [swt_at 3 (by decide) rfl]; rfl
  | 4, _ => rw [swt_at 4 (by decide) rfl]; rfl
theorem w_dofL (hN : 20000 ≤ N) (W0 : WFc (m 124)) (L : Lw LN (m 124)) (hd : d < zd (m 124)) : Wp (f_X12_deedOf N (nI d) (nI 5) m) (fun v m' => v = nI (loudS LN (m 124) d) ∧ Fr [(132, 133)] m m') := by
  have l := W0.lzd
  rw [e_dofH W0, inb_nI hd (by omega), if_neg (by decide), swt_at 5 (by decide) rfl]
  refine wp_bind (w_loudM hN rfl (by omega) L.1 L.2) ?_
  rintro v m3 ⟨rfl, f3⟩
  exact wp_ret ⟨rfl, f3⟩
theorem w_dofW (hN : 20000 ≤ N) (W0 : WFc (m 124)) (L : Lw LN (m 124)) (hd : d < zd (m 124)) : Wp (f_X12_deedOf N (nI d) (nI 6) m) (fun v m' => v = nI (wearS LN (m 124) d) ∧ Fr [(132, 133)] m m') := by
  have l := W0.lzd
  rw [e_dofH W0, inb_nI hd (by omega), if_neg (by decide), swt_at 6 (by decide) rfl]
  refine wp_bind (w_wearsM hN rfl (by omega) L.1 L.2) ?_
  rintro v m3 ⟨rfl, f3⟩
  exact wp_ret ⟨rfl, f3⟩
theorem e_staM (hN : 20000 ≤ N) (W0 : WFc (m 124)) : f_X12_statute N a m = some (if a = 0 then hndS (m 124) else if a = 1 then lstS (m 124) 8 (nI 9) (zs (m 124)) else if a = 2 then lstS (m 124) 10 (nI 300) (zs (m 124)) else -1, m) := by
  unfold f_X12_statute
  rw [e_handsM hN rfl W0, e_mostM hN rfl W0, e_endM hN rfl W0]
  split
  · rfl
  · split
    · rfl
    · split <;> rfl
theorem e_bookM (W0 : WFc (m 124)) : f_X12_book N a b m = some (if inb a (zb (m 124)) = true ∧ inb b 4 = true then m 124 (223 + 4 * nv a + nv b) else mo1, m) := by
  have l := W0.lzb
  unfold f_X12_book
  simp only [li_0, li_1, li_2, li_3, li_4, li_5, li_6, li_7, li_8, li_9, li_10, li_11, li_12, li_13, li_14, li_15, li_16, li_17, li_18, li_19, li_20, li_21, li_22, li_23, li_24, li_25, li_26, li_27, li_28, li_29, li_30, li_31, li_32, li_37, li_38, li_39, li_40, li_41, li_42, li_43, li_44, li_45, li_46, li_47, li_48, li_49, li_50, li_57, li_59, li_60, li_61, li_62, li_63, li_64, li_65, li_69, li_81, li_89, li_90, li_92, li_97, li_99, li_100, li_101, li_103, li_104, li_105, li_106, li_108, li_111, li_112, li_113, li_114, li_115, li_116, li_117, li_119, li_122, li_123, li_124, li_125, li_126, li_127, li_128, li_129, li_130, li_131, li_132, li_133, li_134, li_135, li_136, li_137, li_140, li_141, li_142, li_143, li_145, li_147, li_150, li_153, li_159, li_160, li_161, li_162, li_185, li_197, li_213, li_222, li_223, li_255, li_256, li_257, li_258, li_259, li_260, li_261, li_262, li_263, li_264, li_271, li_272, li_273, li_274, li_275, li_276, li_277, li_278, li_300, li_400, li_420, li_500, li_802, li_820, li_823, li_839, li_855, li_871, li_887, li_999, li_1000, li_1001, li_1002, li_1003, li_1004, li_1005, li_1006, li_1007, li_1008, li_1009, li_1010, li_1011, li_1012, li_1013, li_1014, li_1015, li_1016, li_1017, li_1018, li_1019, li_1020, li_1021, li_1022, li_1023, li_1707, li_4096, li_9999, li_65536, li_100000, li_1000000, li_1664525, li_100000000, li_252645135, li_858993459, li_1000000007, li_1013904223, li_1431655765, li_m1]
  rw [W0.h6, e_isIn, bd_s, rng_inb (by omega)]
  rcases inb_cases a (n := zb (m 124)) (by omega) with ⟨e, h⟩ | ⟨i, hi, rfl⟩
  · rw [e, if_pos (by decide), if_neg (fun z => by cases z.1)]
  · rw [inb_nI hi (by omega), if_neg (by decide), e_isIn, bd_s, show nI 3 = nI 4 - nI 1 from rfl, rng_inb (by decide)]
    rcases inb_cases b (n := 4) (by decide) with ⟨e, h⟩ | ⟨c, hc, rfl⟩
    · rw [e, if_pos (by decide), if_neg (fun z => by cases z.2)]
    · simp only [pk_mul, nI_add]
      rw [inb_nI hc (by decide), if_neg (by decide), inb_nI (by omega) (by omega), chk_t, nI_clamp (by omega), if_pos ⟨trivial, rfl⟩, nv_nI (by omega), nv_nI (by omega)]
end READS
