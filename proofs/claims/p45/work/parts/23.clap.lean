/-! loud, clap, wears on both sides -/
def facD (w : Arr) (d : Nat) : Arr := fun k => if k = 6 then w (81 + d) else if k = 7 then w (21 + d) else if k = 8 then w 4 else if k = 10 then w 0 / nI 60 else nI 0
def facH (w : Arr) (h d b : Nat) : Arr := fun k => if k = 1 then nI h else if k = 2 then w (45 + h) else if k = 3 then w (57 + h) else if k = 4 then w (69 + h) else if k = 5 then w (9 + h) else if k = 9 then nI b else facD w d k
def loudS (LN : List Lin) (w : Arr) (d : Nat) : Nat := sayV 99 (w (81 + d) / nI 3) (sayL (facD w d) 0 LN)
def wearS (LN : List Lin) (w : Arr) (d : Nat) : Nat := sayV 99 (nI 2) (sayL (facD w d) 2 LN)
def clapF (LN : List Lin) (w : Arr) (h : Nat) (fa : Arr) : Nat := sayV 1000 (nI 100 * w (57 + h)) (sayL fa 1 LN)
def clapS (LN : List Lin) (w : Arr) (h d b : Nat) : Nat := clapF LN w h (facH w h d b)
theorem sayV_le {most : Nat} {wo : Int32} {o : Option Int32} : sayV most wo o ≤ most := by
  unfold sayV
  split <;> exact clm_le _ _
theorem e_ask {N i : Nat} {v : Int32} (m : Mem) (h : i < 10) : f_X2_ask N (nI i) v m = some (0, mset m 111 i v) := by
  unfold f_X2_ask
  simp only [li_0, li_1, li_2, li_3, li_4, li_5, li_6, li_7, li_8, li_9, li_10, li_11, li_12, li_13, li_14, li_15, li_16, li_17, li_18, li_19, li_20, li_21, li_22, li_23, li_24, li_25, li_26, li_27, li_28, li_29, li_30, li_31, li_32, li_37, li_38, li_39, li_40, li_41, li_42, li_43, li_44, li_45, li_46, li_47, li_48, li_49, li_50, li_57, li_59, li_60, li_61, li_62, li_63, li_64, li_65, li_69, li_81, li_89, li_90, li_92, li_97, li_99, li_100, li_101, li_103, li_104, li_105, li_106, li_108, li_111, li_112, li_113, li_114, li_115, li_116, li_117, li_119, li_122, li_123, li_124, li_125, li_126, li_127, li_128, li_129, li_130, li_131, li_132, li_133, li_134, li_135, li_136, li_137, li_140, li_141, li_142, li_143, li_145, li_147, li_150, li_153, li_159, li_160, li_161, li_162, li_185, li_197, li_213, li_222, li_223, li_255, li_256, li_257, li_258, li_259, li_260, li_261, li_262, li_263, li_264, li_271, li_272, li_273, li_274, li_275, li_276, li_277, li_278, li_300, li_400, li_420, li_500, li_802, li_820, li_823, li_839, li_855, li_871, li_887, li_999, li_1000, li_1001, li_1002, li_1003, li_1004, li_1005, li_1006, li_1007, li_1008, li_1009, li_1010, li_1011, li_1012, li_1013, li_1014, li_1015, li_1016, li_1017, li_1018, li_1019, li_1020, li_1021, li_1022, li_1023, li_1707, li_4096, li_9999, li_65536, li_100000, li_1000000, li_1664525, li_100000000, li_252645135, li_858993459, li_1000000007, li_1013904223, li_1431655765, li_m1]
  rw [if_neg (nI_no0 (by omega)), if_neg (nI_ge h (by omega)), inb_nI h (by omega), chk_t, nI_clamp (by omega), bnd_s]
section CLAP
variable {N : Nat} {LN : List Lin} {w : Arr} {m : Mem} {h d b : Nat}
theorem hr_hea {c : Nat} (H : HRep 2 LN w m) (W0 : WFc w) (hh : h < zh w) (hc : c < 8) : f_X9_at N 3 (nI h) (nI c) m = some (heaV w h c, m) := by
  have s := W0.sml
  have e := H.hea
  rw [e_at H.fx (show (3, 12, 8) ∈ tbs by decide) (n := zh w) (e.1.trans (W0.1.eq (by decide))) s.1 hh hc]
  rw [← e.2 h hh c hc]
theorem hr_dee {c : Nat} (H : HRep 2 LN w m) (W0 : WFc w) (hd : d < zd w) (hc : c < 5) : f_X9_at N 5 (nI d) (nI c) m = some (deeV w d c, m) := by
  have s := W0.sml
  have e := H.dee
  rw [e_at H.fx (show (5, 8, 5) ∈ tbs by decide) (n := zd w) (e.1.trans (W0.2.1.eq (by decide))) s.2.1 hd hc]
  rw [← e.2 d hd c hc]
theorem hr_hou {c : Nat} (H : HRep 2 LN w m) (hc : c < 7) : f_X9_at N 7 (nI 0) (nI c) m = some (w (houI c), m) := by
  have e := H.hou
  rw [e_at H.fx (show (7, 1, 7) ∈ tbs by decide) (n := 1) e.1 (Nat.le_refl 1) (by decide) hc, ← e.2 c hc]
  simp
theorem hr_hour {c : Nat} (H : HRep 2 LN w m) (hc : c < 7) : f_X1_hour N (nI c) m = some (w (houI c), m) := by
  unfold f_X1_hour
  show bd (f_X9_at N 7 (nI 0) (nI c) m) _ = _
  rw [hr_hou H hc, bd_s]
theorem hr_hasH (H : HRep 2 LN w m) (W0 : WFc w) (a : Int32) : f_X9_has N 3 a m = some (b2i (inb a (zh w)), m) :=
  e_has H.fx (show (3, 12, 8) ∈ tbs by decide) (H.hea.1.trans (W0.1.eq (by decide))) W0.sml.1 a
theorem hr_hasD (H : HRep 2 LN w m) (W0 : WFc w) (a : Int32) : f_X9_has N 5 a m = some (b2i (inb a (zd w)), m) :=
  e_has H.fx (show (5, 8, 5) ∈ tbs by decide) (H.dee.1.trans (W0.2.1.eq (by decide))) W0.sml.2.1 a
theorem fr111 {m1 : Mem} {j : Nat} {v : Int32} (hf : Fr [(111, 111)] m m1) : Fr [(111, 111)] m (mset m1 111 j v) := hf.set (by decide)
theorem hr111 {m1 : Mem} (H : HRep 2 LN w m) (W0 : WFc w) (hf : Fr [(111, 111)] m m1) : HRep 2 LN w m1 := H.fr W0.sml hf (by decide +kernel)
/-- what is asked of a HEARER -/
theorem w_askH (H : HRep 2 LN w m) (W0 : WFc w) (hh : h < zh w) (hd : d < zd w) : Wp (f_X2_askOf N (nI h) (nI d) (nI b) m) (fun _ m' => Fr [(111, 111)] m m' ∧ ∀ i, i < 10 → m' 111 i = facH w h d b (i + 1)) := by
  have s := W0.sml.1
  unfold f_X2_askOf
  rw [hr_hasH H W0, inb_nI hh (by omega), bd_s, if_neg (show ¬ b2i true = 0 by decide)]
  unfold f_X2_askOf_J25
  simp only [li_0, li_1, li_2, li_3, li_4, li_5, li_6, li_7, li_8, li_9, li_10, li_11, li_12, li_13, li_14, li_15, li_16, li_17, li_18, li_19, li_20, li_21, li_22, li_23, li_24, li_25, li_26, li_27, li_28, li_29, li_30, li_31, li_32, li_37, li_38, li_39, li_40, li_41, li_42, li_43, li_44, li_45, li_46, li_47, li_48, li_49, li_50, li_57, li_59, li_60, li_61, li_62, li_63, li_64, li_65, li_69, li_81, li_89, li_90, li_92, li_97, li_99, li_100, li_101, li_103, li_104, li_105, li_106, li_108, li_111, li_112, li_113, li_114, li_115, li_116, li_117, li_119, li_122, li_123, li_124, li_125, li_126, li_127, li_128, li_129, li_130, li_131, li_132, li_133, li_134, li_135, li_136, li_137, li_140, li_141, li_142, li_143, li_145, li_147, li_150, li_153, li_159, li_160, li_161, li_162, li_185, li_197, li_213, li_222, li_223, li_255, li_256, li_257, li_258, li_259, li_260, li_261, li_262, li_263, li_264, li_271, li_272, li_273, li_274, li_275, li_276, li_277, li_278, li_300, li_400, li_420, li_500, li_802, li_820, li_823, li_839, li_855, li_871, li_887, li_999, li_1000, li_1001, li_1002, li_1003, li_1004, li_1005, li_1006, li_1007, li_1008, li_1009, li_1010, li_1011, li_1012, li_1013, li_1014, li_1015, li_1016, li_1017, li_1018, li_1019, li_1020, li_1021, li_1022, li_1023, li_1707, li_4096, li_9999, li_65536, li_100000, li_1000000, li_1664525, li_100000000, li_252645135, li_858993459, li_1000000007, li_1013904223, li_1431655765, li_m1]
  have f0 := fr111 (j := 0) (v := nI h) (Fr.rf (m := m))
  rw [e_ask _ (by decide), bd_s, if_neg (show ¬ b2i true = nI 0 by decide), hr_hea (hr111 H W0 f0) W0 hh (by decide), bd_s]
  unfold f_X2_askOf_J51
  simp only [li_0, li_1, li_2, li_3, li_4, li_5, li_6, li_7, li_8, li_9, li_10, li_11, li_12, li_13, li_14, li_15, li_16, li_17, li_18, li_19, li_20, li_21, li_22, li_23, li_24, li_25, li_26, li_27, li_28, li_29, li_30, li_31, li_32, li_37, li_38, li_39, li_40, li_41, li_42, li_43, li_44, li_45, li_46, li_47, li_48, li_49, li_50, li_57, li_59, li_60, li_61, li_62, li_63, li_64, li_65, li_69, li_81, li_89, li_90, li_92, li_97, li_99, li_100, li_101, li_103, li_104, li_105, li_106, li_108, li_111, li_112, li_113, li_114, li_115, li_116, li_117, li_119, li_122, li_123, li_124, li_125, li_126, li_127, li_128, li_129, li_130, li_131, li_132, li_133, li_134, li_135, li_136, li_137, li_140, li_141, li_142, li_143, li_145, li_147, li_150, li_153, li_159, li_160, li_161, li_162, li_185, li_197, li_213, li_222, li_223, li_255, li_256, li_257, li_258, li_259, li_260, li_261, li_262, li_263, li_264, li_271, li_272, li_273, li_274, li_275, li_276, li_277, li_278, li_300, li_400, li_420, li_500, li_802, li_820, li_823, li_839, li_855, li_871, li_887, li_999, li_1000, li_1001, li_1002, li_1003, li_1004, li_1005, li_1006, li_1007, li_1008, li_1009, li_1010, li_1011, li_1012, li_1013, li_1014, li_1015, li_1016, li_1017, li_1018, li_1019, li_1020, li_1021, li_1022, li_1023, li_1707, li_4096, li_9999, li_65536, li_100000, li_1000000, li_1664525, li_100000000, li_252645135, li_858993459, li_1000000007, li_1013904223, li_1431655765, li_m1]
  have f1 := fr111 (j := 1) (v := heaV w h 0) f0
  rw [e_ask _ (by decide), bd_s, if_neg (show ¬ b2i true = nI 0 by decide), hr_hea (hr111 H W0 f1) W0 hh (by decide), bd_s]
  unfold f_X2_askOf_J77
  simp only [li_0, li_1, li_2, li_3, li_4, li_5, li_6, li_7, li_8, li_9, li_10, li_11, li_12, li_13, li_14, li_15, li_16, li_17, li_18, li_19, li_20, li_21, li_22, li_23, li_24, li_25, li_26, li_27, li_28, li_29, li_30, li_31, li_32, li_37, li_38, li_39, li_40, li_41, li_42, li_43, li_44, li_45, li_46, li_47, li_48, li_49, li_50, li_57, li_59, li_60, li_61, li_62, li_63, li_64, li_65, li_69, li_81, li_89, li_90, li_92, li_97, li_99, li_100, li_101, li_103, li_104, li_105, li_106, li_108, li_111, li_112, li_113, li_114, li_115, li_116, li_117, li_119, li_122, li_123, li_124, li_125, li_126, li_127, li_128, li_129, li_130, li_131, li_132, li_133, li_134, li_135, li_136, li_137, li_140, li_141, li_142, li_143, li_145, li_147, li_150, li_153, li_159, li_160, li_161, li_162, li_185, li_197, li_213, li_222, li_223, li_255, li_256, li_257, li_258, li_259, li_260, li_261, li_262, li_263, li_264, li_271, li_272, li_273, li_274, li_275, li_276, li_277, li_278, li_300, li_400, li_420, li_500, li_802, li_820, li_823, li_839, li_855, li_871, li_887, li_999, li_1000, li_1001, li_1002, li_1003, li_1004, li_1005, li_1006, li_1007, li_1008, li_1009, li_1010, li_1011, li_1012, li_1013, li_1014, li_1015, li_1016, li_1017, li_1018, li_1019, li_1020, li_1021, li_1022, li_1023, li_1707, li_4096, li_9999, li_65536, li_100000, li_1000000, li_1664525, li_100000000, li_252645135, li_858993459, li_1000000007, li_1013904223, li_1431655765, li_m1]
  have f2 := fr111 (j := 2) (v := heaV w h 1) f1
  rw [e_ask _ (by decide), bd_s, if_neg (show ¬ b2i true = nI 0 by decide), hr_hea (hr111 H W0 f2) W0 hh (by decide), bd_s]
  unfold f_X2_askOf_J103
  simp only [li_0, li_1, li_2, li_3, li_4, li_5, li_6, li_7, li_8, li_9, li_10, li_11, li_12, li_13, li_14, li_15, li_16, li_17, li_18, li_19, li_20, li_21, li_22, li_23, li_24, li_25, li_26, li_27, li_28, li_29, li_30, li_31, li_32, li_37, li_38, li_39, li_40, li_41, li_42, li_43, li_44, li_45, li_46, li_47, li_48, li_49, li_50, li_57, li_59, li_60, li_61, li_62, li_63, li_64, li_65, li_69, li_81, li_89, li_90, li_92, li_97, li_99, li_100, li_101, li_103, li_104, li_105, li_106, li_108, li_111, li_112, li_113, li_114, li_115, li_116, li_117, li_119, li_122, li_123, li_124, li_125, li_126, li_127, li_128, li_129, li_130, li_131, li_132, li_133, li_134, li_135, li_136, li_137, li_140, li_141, li_142, li_143, li_145, li_147, li_150, li_153, li_159, li_160, li_161, li_162, li_185, li_197, li_213, li_222, li_223, li_255, li_256, li_257, li_258, li_259, li_260, li_261, li_262, li_263, li_264, li_271, li_272, li_273, li_274, li_275, li_276, li_277, li_278, li_300, li_400, li_420, li_500, li_802, li_820, li_823, li_839, li_855, li_871, li_887, li_999, li_1000, li_1001, li_1002, li_1003, li_1004, li_1005, li_1006, li_1007, li_1008, li_1009, li_1010, li_1011, li_1012, li_1013, li_1014, li_1015, li_1016, li_1017, li_1018, li_1019, li_1020, li_1021, li_1022, li_1023, li_1707, li_4096, li_9999, li_65536, li_100000, li_1000000, li_1664525, li_100000000, li_252645135, li_858993459, li_1000000007, li_1013904223, li_1431655765, li_m1]
  have f3 := fr111 (j := 3) (v := heaV w h 2) f2
  rw [e_ask _ (by decide), bd_s, if_neg (show ¬ b2i true = nI 0 by decide), hr_hea (hr111 H W0 f3) W0 hh (by decide), bd_s]
  unfold f_X2_askOf_J129
  simp only [li_0, li_1, li_2, li_3, li_4, li_5, li_6, li_7, li_8, li_9, li_10, li_11, li_12, li_13, li_14, li_15, li_16, li_17, li_18, li_19, li_20, li_21, li_22, li_23, li_24, li_25, li_26, li_27, li_28, li_29, li_30, li_31, li_32, li_37, li_38, li_39, li_40, li_41, li_42, li_43, li_44, li_45, li_46, li_47, li_48, li_49, li_50, li_57, li_59, li_60, li_61, li_62, li_63, li_64, li_65, li_69, li_81, li_89, li_90, li_92, li_97, li_99, li_100, li_101, li_103, li_104, li_105, li_106, li_108, li_111, li_112, li_113, li_114, li_115, li_116, li_117, li_119, li_122, li_123, li_124, li_125, li_126, li_127, li_128, li_129, li_130, li_131, li_132, li_133, li_134, li_135, li_136, li_137, li_140, li_141, li_142, li_143, li_145, li_147, li_150, li_153, li_159, li_160, li_161, li_162, li_185, li_197, li_213, li_222, li_223, li_255, li_256, li_257, li_258, li_259, li_260, li_261, li_262, li_263, li_264, li_271, li_272, li_273, li_274, li_275, li_276, li_277, li_278, li_300, li_400, li_420, li_500, li_802, li_820, li_823, li_839, li_855, li_871, li_887, li_999, li_1000, li_1001, li_1002, li_1003, li_1004, li_1005, li_1006, li_1007, li_1008, li_1009, li_1010, li_1011, li_1012, li_1013, li_1014, li_1015, li_1016, li_1017, li_1018, li_1019, li_1020, li_1021, li_1022, li_1023, li_1707, li_4096, li_9999, li_65536, li_100000, li_1000000, li_1664525, li_100000000, li_252645135, li_858993459, li_1000000007, li_1013904223, li_1431655765, li_m1]
  have f4 := fr111 (j := 4) (v := heaV w h 5) f3
  rw [e_ask _ (by decide), bd_s, hr_dee (hr111 H W0 f4) W0 hd (by decide), bd_s]
  have f5 := fr111 (j := 5) (v := deeV w d 0) f4
  rw [e_ask _ (by decide), bd_s, hr_dee (hr111 H W0 f5) W0 hd (by decide), bd_s]
  have f6 := fr111 (j := 6) (v := deeV w d 3) f5
  rw [e_ask _ (by decide), bd_s, hr_hou (hr111 H W0 f6) (by decide), bd_s]
  have f7 := fr111 (j := 7) (v := w (houI 5)) f6
  rw [e_ask _ (by decide), bd_s]
  have f8 := fr111 (j := 8) (v := nI b) f7
  rw [e_ask _ (by decide), bd_s, hr_hou (hr111 H W0 f8) (by decide), bd_s]
  have f9 := fr111 (j := 9) (v := w (houI 0) / nI 60) f8
  rw [e_ask _ (by decide), bd_s]
  refine wp_ret ⟨f9, fun i hi => ?_⟩
  match i, hi with
  | 0, _ => simp [mset, facH]
  | 1, _ => simp [mset, facH, heaV]
  | 2, _ => simp [mset, facH, heaV]
  | 3, _ => simp [mset, facH, heaV]
  | 4, _ => simp [mset, facH, heaV]
  | 5, _ => simp [mset, facH, facD, deeV]
  | 6, _ => simp [mset, facH, facD, deeV]
  | 7, _ => simp [mset, facH, facD, houI]
  | 8, _ => simp [mset, facH, facD]
  | 9, _ => simp [mset, facH, facD, houI]
/-- what is asked of a DEED alone -/
theorem w_askD (H : HRep 2 LN w m) (W0 : WFc w) (hd : d < zd w) : Wp (f_X2_askOf N mo1 (nI d) (nI 0) m) (fun _ m' => Fr [(111, 111)] m m' ∧ ∀ i, i < 10 → m' 111 i = facD w d (i + 1)) := by
  have s := W0.sml.1
  unfold f_X2_askOf
  rw [hr_hasH H W0, inb_no (x := mo1) (Or.inl (by decide)) (by omega), bd_s, if_pos (show b2i false = 0 by decide)]
  unfold f_X2_askOf_J25
  simp only [li_0, li_1, li_2, li_3, li_4, li_5, li_6, li_7, li_8, li_9, li_10, li_11, li_12, li_13, li_14, li_15, li_16, li_17, li_18, li_19, li_20, li_21, li_22, li_23, li_24, li_25, li_26, li_27, li_28, li_29, li_30, li_31, li_32, li_37, li_38, li_39, li_40, li_41, li_42, li_43, li_44, li_45, li_46, li_47, li_48, li_49, li_50, li_57, li_59, li_60, li_61, li_62, li_63, li_64, li_65, li_69, li_81, li_89, li_90, li_92, li_97, li_99, li_100, li_101, li_103, li_104, li_105, li_106, li_108, li_111, li_112, li_113, li_114, li_115, li_116, li_117, li_119, li_122, li_123, li_124, li_125, li_126, li_127, li_128, li_129, li_130, li_131, li_132, li_133, li_134, li_135, li_136, li_137, li_140, li_141, li_142, li_143, li_145, li_147, li_150, li_153, li_159, li_160, li_161, li_162, li_185, li_197, li_213, li_222, li_223, li_255, li_256, li_257, li_258, li_259, li_260, li_261, li_262, li_263, li_264, li_271, li_272, li_273, li_274, li_275, li_276, li_277, li_278, li_300, li_400, li_420, li_500, li_802, li_820, li_823, li_839, li_855, li_871, li_887, li_999, li_1000, li_1001, li_1002, li_1003, li_1004, li_1005, li_1006, li_1007, li_1008, li_1009, li_1010, li_1011, li_1012, li_1013, li_1014, li_1015, li_1016, li_1017, li_1018, li_1019, li_1020, li_1021, li_1022, li_1023, li_1707, li_4096, li_9999, li_65536, li_100000, li_1000000, li_1664525, li_100000000, li_252645135, li_858993459, li_1000000007, li_1013904223, li_1431655765, li_m1]
  have f0 := fr111 (j := 0) (v := nI 0) (Fr.rf (m := m))
  rw [e_ask _ (by decide), bd_s, if_pos (show b2i false = nI 0 by decide)]
  unfold f_X2_askOf_J51
  simp only [li_0, li_1, li_2, li_3, li_4, li_5, li_6, li_7, li_8, li_9, li_10, li_11, li_12, li_13, li_14, li_15, li_16, li_17, li_18, li_19, li_20, li_21, li_22, li_23, li_24, li_25, li_26, li_27, li_28, li_29, li_30, li_31, li_32, li_37, li_38, li_39, li_40, li_41, li_42, li_43, li_44, li_45, li_46, li_47, li_48, li_49, li_50, li_57, li_59, li_60, li_61, li_62, li_63, li_64, li_65, li_69, li_81, li_89, li_90, li_92, li_97, li_99, li_100, li_101, li_103, li_104, li_105, li_106, li_108, li_111, li_112, li_113, li_114, li_115, li_116, li_117, li_119, li_122, li_123, li_124, li_125, li_126, li_127, li_128, li_129, li_130, li_131, li_132, li_133, li_134, li_135, li_136, li_137, li_140, li_141, li_142, li_143, li_145, li_147, li_150, li_153, li_159, li_160, li_161, li_162, li_185, li_197, li_213, li_222, li_223, li_255, li_256, li_257, li_258, li_259, li_260, li_261, li_262, li_263, li_264, li_271, li_272, li_273, li_274, li_275, li_276, li_277, li_278, li_300, li_400, li_420, li_500, li_802, li_820, li_823, li_839, li_855, li_871, li_887, li_999, li_1000, li_1001, li_1002, li_1003, li_1004, li_1005, li_1006, li_1007, li_1008, li_1009, li_1010, li_1011, li_1012, li_1013, li_1014, li_1015, li_1016, li_1017, li_1018, li_1019, li_1020, li_1021, li_1022, li_1023, li_1707, li_4096, li_9999, li_65536, li_100000, li_1000000, li_1664525, li_100000000, li_252645135, li_858993459, li_1000000007, li_1013904223, li_1431655765, li_m1]
  have f1 := fr111 (j := 1) (v := nI 0) f0
  rw [e_ask _ (by decide), bd_s, if_pos (show b2i false = nI 0 by decide)]
  unfold f_X2_askOf_J77
  simp only [li_0, li_1, li_2, li_3, li_4, li_5, li_6, li_7, li_8, li_9, li_10, li_11, li_12, li_13, li_14, li_15, li_16, li_17, li_18, li_19, li_20, li_21, li_22, li_23, li_24, li_25, li_26, li_27, li_28, li_29, li_30, li_31, li_32, li_37, li_38, li_39, li_40, li_41, li_42, li_43, li_44, li_45, li_46, li_47, li_48, li_49, li_50, li_57, li_59, li_60, li_61, li_62, li_63, li_64, li_65, li_69, li_81, li_89, li_90, li_92, li_97, li_99, li_100, li_101, li_103, li_104, li_105, li_106, li_108, li_111, li_112, li_113, li_114, li_115, li_116, li_117, li_119, li_122, li_123, li_124, li_125, li_126, li_127, li_128, li_129, li_130, li_131, li_132, li_133, li_134, li_135, li_136, li_137, li_140, li_141, li_142, li_143, li_145, li_147, li_150, li_153, li_159, li_160, li_161, li_162, li_185, li_197, li_213, li_222, li_223, li_255, li_256, li_257, li_258, li_259, li_260, li_261, li_262, li_263, li_264, li_271, li_272, li_273, li_274, li_275, li_276, li_277, li_278, li_300, li_400, li_420, li_500, li_802, li_820, li_823, li_839, li_855, li_871, li_887, li_999, li_1000, li_1001, li_1002, li_1003, li_1004, li_1005, li_1006, li_1007, li_1008, li_1009, li_1010, li_1011, li_1012, li_1013, li_1014, li_1015, li_1016, li_1017, li_1018, li_1019, li_1020, li_1021, li_1022, li_1023, li_1707, li_4096, li_9999, li_65536, li_100000, li_1000000, li_1664525, li_100000000, li_252645135, li_858993459, li_1000000007, li_1013904223, li_1431655765, li_m1]
  have f2 := fr111 (j := 2) (v := nI 0) f1
  rw [e_ask _ (by decide), bd_s, if_pos (show b2i false = nI 0 by decide)]
  unfold f_X2_askOf_J103
  simp only [li_0, li_1, li_2, li_3, li_4, li_5, li_6, li_7, li_8, li_9, li_10, li_11, li_12, li_13, li_14, li_15, li_16, li_17, li_18, li_19, li_20, li_21, li_22, li_23, li_24, li_25, li_26, li_27, li_28, li_29, li_30, li_31, li_32, li_37, li_38, li_39, li_40, li_41, li_42, li_43, li_44, li_45, li_46, li_47, li_48, li_49, li_50, li_57, li_59, li_60, li_61, li_62, li_63, li_64, li_65, li_69, li_81, li_89, li_90, li_92, li_97, li_99, li_100, li_101, li_103, li_104, li_105, li_106, li_108, li_111, li_112, li_113, li_114, li_115, li_116, li_117, li_119, li_122, li_123, li_124, li_125, li_126, li_127, li_128, li_129, li_130, li_131, li_132, li_133, li_134, li_135, li_136, li_137, li_140, li_141, li_142, li_143, li_145, li_147, li_150, li_153, li_159, li_160, li_161, li_162, li_185, li_197, li_213, li_222, li_223, li_255, li_256, li_257, li_258, li_259, li_260, li_261, li_262, li_263, li_264, li_271, li_272, li_273, li_274, li_275, li_276, li_277, li_278, li_300, li_400, li_420, li_500, li_802, li_820, li_823, li_839, li_855, li_871, li_887, li_999, li_1000, li_1001, li_1002, li_1003, li_1004, li_1005, li_1006, li_1007, li_1008, li_1009, li_1010, li_1011, li_1012, li_1013, li_1014, li_1015, li_1016, li_1017, li_1018, li_1019, li_1020, li_1021, li_1022, li_1023, li_1707, li_4096, li_9999, li_65536, li_100000, li_1000000, li_1664525, li_100000000, li_252645135, li_858993459, li_1000000007, li_1013904223, li_1431655765, li_m1]
  have f3 := fr111 (j := 3) (v := nI 0) f2
  rw [e_ask _ (by decide), bd_s, if_pos (show b2i false = nI 0 by decide)]
  unfold f_X2_askOf_J129
  simp only [li_0, li_1, li_2, li_3, li_4, li_5, li_6, li_7, li_8, li_9, li_10, li_11, li_12, li_13, li_14, li_15, li_16, li_17, li_18, li_19, li_20, li_21, li_22, li_23, li_24, li_25, li_26, li_27, li_28, li_29, li_30, li_31, li_32, li_37, li_38, li_39, li_40, li_41, li_42, li_43, li_44, li_45, li_46, li_47, li_48, li_49, li_50, li_57, li_59, li_60, li_61, li_62, li_63, li_64, li_65, li_69, li_81, li_89, li_90, li_92, li_97, li_99, li_100, li_101, li_103, li_104, li_105, li_106, li_108, li_111, li_112, li_113, li_114, li_115, li_116, li_117, li_119, li_122, li_123, li_124, li_125, li_126, li_127, li_128, li_129, li_130, li_131, li_132, li_133, li_134, li_135, li_136, li_137, li_140, li_141, li_142, li_143, li_145, li_147, li_150, li_153, li_159, li_160, li_161, li_162, li_185, li_197, li_213, li_222, li_223, li_255, li_256, li_257, li_258, li_259, li_260, li_261, li_262, li_263, li_264, li_271, li_272, li_273, li_274, li_275, li_276, li_277, li_278, li_300, li_400, li_420, li_500, li_802, li_820, li_823, li_839, li_855, li_871, li_887, li_999, li_1000, li_1001, li_1002, li_1003, li_1004, li_1005, li_1006, li_1007, li_1008, li_1009, li_1010, li_1011, li_1012, li_1013, li_1014, li_1015, li_1016, li_1017, li_1018, li_1019, li_1020, li_1021, li_1022, li_1023, li_1707, li_4096, li_9999, li_65536, li_100000, li_1000000, li_1664525, li_100000000, li_252645135, li_858993459, li_1000000007, li_1013904223, li_1431655765, li_m1]
  have f4 := fr111 (j := 4) (v := nI 0) f3
  rw [e_ask _ (by decide), bd_s, hr_dee (hr111 H W0 f4) W0 hd (by decide), bd_s]
  have f5 := fr111 (j := 5) (v := deeV w d 0) f4
  rw [e_ask _ (by decide), bd_s, hr_dee (hr111 H W0 f5) W0 hd (by decide), bd_s]
  have f6 := fr111 (j := 6) (v := deeV w d 3) f5
  rw [e_ask _ (by decide), bd_s, hr_hou (hr111 H W0 f6) (by decide), bd_s]
  have f7 := fr111 (j := 7) (v := w (houI 5)) f6
  rw [e_ask _ (by decide), bd_s]
  have f8 := fr111 (j := 8) (v := nI 0) f7
  rw [e_ask _ (by decide), bd_s, hr_hou (hr111 H W0 f8) (by decide), bd_s]
  have f9 := fr111 (j := 9) (v := w (houI 0) / nI 60) f8
  rw [e_ask _ (by decide), bd_s]
  refine wp_ret ⟨f9, fun i hi => ?_⟩
  match i, hi with
  | 0, _ => simp [mset, facD]
  | 1, _ => simp [mset, facD]
  | 2, _ => simp [mset, facD]
  | 3, _ => simp [mset, facD]
  | 4, _ => simp [mset, facD]
  | 5, _ => simp [mset, facD, deeV]
  | 6, _ => simp [mset, facD, deeV]
  | 7, _ => simp [mset, facD, houI]
  | 8, _ => simp [mset, facD]
  | 9, _ => simp [mset, facD, houI]
theorem clm_like {k : Nat} (hk : k ≤ 9) : nI k * nI 100 = nI (clm 1000 (nI 100 * nI k)) := by
  rw [pk_mul, pk_mul, clm_nI (by omega), Nat.min_eq_right (by omega), Nat.mul_comm]
theorem clm_third {k : Nat} (hk : k ≤ 9) : nI k / nI 3 = nI (clm 99 (nI k / nI 3)) := by
  rw [pk_div (by omega) (by decide) (by decide), clm_nI (by omega), Nat.min_eq_right (by omega)]
theorem tellC {m1 : Mem} {fa : Arr} (hN : 20000 ≤ N) (H : HRep 2 LN w m) (W0 : WFc w) (hh : h < zh w) (hf : Fr [(111, 111)] m m1) (hfa : ∀ i, i < 10 → m1 111 i = fa (i + 1)) (h3 : fa 3 = w (57 + h)) : Wp (f_X2_tell N (nI 257) m1) (fun v m' => v = nI (clapF LN w h fa) ∧ Fr [(111, 112)] m m') := by
  have H1 := hr111 H W0 hf
  refine wp_mono (w_tell (word := 1) (fa := fa) hN H1.fx H1.lawc H1.lawk (by decide) hfa) ?_
  rintro v m2 ⟨rfl, h2⟩
  refine ⟨?_, (hf.mono (by decide)).trans (h2.mono (by decide))⟩
  obtain ⟨k, hk, e⟩ := (W0.2.2.2.2.2.2.2.2.2.1 h hh).2.1
  unfold clapF sayV
  cases sayL fa 1 LN with
  | some x => rfl
  | none =>
    show fa 3 * nI 100 = _
    rw [h3, e]
    exact clm_like hk
/-- the class's clap -/
theorem w_clap (hN : 20000 ≤ N) (H : HRep 2 LN w m) (W0 : WFc w) (hh : h < zh w) (hd : d < zd w) : Wp (f_X2_clap N (nI h) (nI d) (nI b) m) (fun v m' => v = nI (clapS LN w h d b) ∧ Fr [(111, 112)] m m') := by
  unfold f_X2_clap
  refine wp_bind (w_askH H W0 hh hd) ?_
  rintro _ m1 ⟨hf, hfa⟩
  simp only [li_0, li_1, li_2, li_3, li_4, li_5, li_6, li_7, li_8, li_9, li_10, li_11, li_12, li_13, li_14, li_15, li_16, li_17, li_18, li_19, li_20, li_21, li_22, li_23, li_24, li_25, li_26, li_27, li_28, li_29, li_30, li_31, li_32, li_37, li_38, li_39, li_40, li_41, li_42, li_43, li_44, li_45, li_46, li_47, li_48, li_49, li_50, li_57, li_59, li_60, li_61, li_62, li_63, li_64, li_65, li_69, li_81, li_89, li_90, li_92, li_97, li_99, li_100, li_101, li_103, li_104, li_105, li_106, li_108, li_111, li_112, li_113, li_114, li_115, li_116, li_117, li_119, li_122, li_123, li_124, li_125, li_126, li_127, li_128, li_129, li_130, li_131, li_132, li_133, li_134, li_135, li_136, li_137, li_140, li_141, li_142, li_143, li_145, li_147, li_150, li_153, li_159, li_160, li_161, li_162, li_185, li_197, li_213, li_222, li_223, li_255, li_256, li_257, li_258, li_259, li_260, li_261, li_262, li_263, li_264, li_271, li_272, li_273, li_274, li_275, li_276, li_277, li_278, li_300, li_400, li_420, li_500, li_802, li_820, li_823, li_839, li_855, li_871, li_887, li_999, li_1000, li_1001, li_1002, li_1003, li_1004, li_1005, li_1006, li_1007, li_1008, li_1009, li_1010, li_1011, li_1012, li_1013, li_1014, li_1015, li_1016, li_1017, li_1018, li_1019, li_1020, li_1021, li_1022, li_1023, li_1707, li_4096, li_9999, li_65536, li_100000, li_1000000, li_1664525, li_100000000, li_252645135, li_858993459, li_1000000007, li_1013904223, li_1431655765, li_m1]
  refine wp_bind (tellC hN H W0 hh hf hfa rfl) ?_
  rintro v m2 ⟨rfl, h2⟩
  exact wp_ret ⟨rfl, h2⟩
/-- loud -/
theorem w_loud (hN : 20000 ≤ N) (H : HRep 2 LN w m) (W0 : WFc w) (hd : d < zd w) : Wp (f_X2_ofDeed N (nI 256) (nI d) m) (fun v m' => v = nI (loudS LN w d) ∧ Fr [(111, 112)] m m') := by
  unfold f_X2_ofDeed
  simp only [li_0, li_1, li_2, li_3, li_4, li_5, li_6, li_7, li_8, li_9, li_10, li_11, li_12, li_13, li_14, li_15, li_16, li_17, li_18, li_19, li_20, li_21, li_22, li_23, li_24, li_25, li_26, li_27, li_28, li_29, li_30, li_31, li_32, li_37, li_38, li_39, li_40, li_41, li_42, li_43, li_44, li_45, li_46, li_47, li_48, li_49, li_50, li_57, li_59, li_60, li_61, li_62, li_63, li_64, li_65, li_69, li_81, li_89, li_90, li_92, li_97, li_99, li_100, li_101, li_103, li_104, li_105, li_106, li_108, li_111, li_112, li_113, li_114, li_115, li_116, li_117, li_119, li_122, li_123, li_124, li_125, li_126, li_127, li_128, li_129, li_130, li_131, li_132, li_133, li_134, li_135, li_136, li_137, li_140, li_141, li_142, li_143, li_145, li_147, li_150, li_153, li_159, li_160, li_161, li_162, li_185, li_197, li_213, li_222, li_223, li_255, li_256, li_257, li_258, li_259, li_260, li_261, li_262, li_263, li_264, li_271, li_272, li_273, li_274, li_275, li_276, li_277, li_278, li_300, li_400, li_420, li_500, li_802, li_820, li_823, li_839, li_855, li_871, li_887, li_999, li_1000, li_1001, li_1002, li_1003, li_1004, li_1005, li_1006, li_1007, li_1008, li_1009, li_1010, li_1011, li_1012, li_1013, li_1014, li_1015, li_1016, li_1017, li_1018, li_1019, li_1020, li_1021, li_1022, li_1023, li_1707, li_4096, li_9999, li_65536, li_100000, li_1000000, li_1664525, li_100000000, li_252645135, li_858993459, li_1000000007, li_1013904223, li_1431655765, li_m1]
  refine wp_bind (w_askD H W0 hd) ?_
  rintro _ m1 ⟨hf, hfa⟩
  have H1 := hr111 H W0 hf
  refine wp_bind (w_tell (word := 0) hN H1.fx H1.lawc H1.lawk (by decide) hfa) ?_
  rintro v m2 ⟨rfl, h2⟩
  refine wp_ret ⟨?_, (hf.mono (by decide)).trans (h2.mono (by decide))⟩
  obtain ⟨k, hk, e⟩ := (W0.2.2.2.2.2.2.2.2.2.2.2.1 d hd).1
  unfold loudS sayV
  cases sayL (facD w d) 0 LN with
  | some x => rfl
  | none =>
    show facD w d 6 / nI 3 = _
    rw [show facD w d 6 = w (81 + d) from rfl, e]
    exact clm_third hk
/-- wears -/
theorem w_wears (hN : 20000 ≤ N) (H : HRep 2 LN w m) (W0 : WFc w) (hd : d < zd w) : Wp (f_X2_ofDeed N (nI 258) (nI d) m) (fun v m' => v = nI (wearS LN w d) ∧ Fr [(111, 112)] m m') := by
  unfold f_X2_ofDeed
  simp only [li_0, li_1, li_2, li_3, li_4, li_5, li_6, li_7, li_8, li_9, li_10, li_11, li_12, li_13, li_14, li_15, li_16, li_17, li_18, li_19, li_20, li_21, li_22, li_23, li_24, li_25, li_26, li_27, li_28, li_29, li_30, li_31, li_32, li_37, li_38, li_39, li_40, li_41, li_42, li_43, li_44, li_45, li_46, li_47, li_48, li_49, li_50, li_57, li_59, li_60, li_61, li_62, li_63, li_64, li_65, li_69, li_81, li_89, li_90, li_92, li_97, li_99, li_100, li_101, li_103, li_104, li_105, li_106, li_108, li_111, li_112, li_113, li_114, li_115, li_116, li_117, li_119, li_122, li_123, li_124, li_125, li_126, li_127, li_128, li_129, li_130, li_131, li_132, li_133, li_134, li_135, li_136, li_137, li_140, li_141, li_142, li_143, li_145, li_147, li_150, li_153, li_159, li_160, li_161, li_162, li_185, li_197, li_213, li_222, li_223, li_255, li_256, li_257, li_258, li_259, li_260, li_261, li_262, li_263, li_264, li_271, li_272, li_273, li_274, li_275, li_276, li_277, li_278, li_300, li_400, li_420, li_500, li_802, li_820, li_823, li_839, li_855, li_871, li_887, li_999, li_1000, li_1001, li_1002, li_1003, li_1004, li_1005, li_1006, li_1007, li_1008, li_1009, li_1010, li_1011, li_1012, li_1013, li_1014, li_1015, li_1016, li_1017, li_1018, li_1019, li_1020, li_1021, li_1022, li_1023, li_1707, li_4096, li_9999, li_65536, li_100000, li_1000000, li_1664525, li_100000000, li_252645135, li_858993459, li_1000000007, li_1013904223, li_1431655765, li_m1]
  refine wp_bind (w_askD H W0 hd) ?_
  rintro _ m1 ⟨hf, hfa⟩
  have H1 := hr111 H W0 hf
  refine wp_bind (w_tell (word := 2) hN H1.fx H1.lawc H1.lawk (by decide) hfa) ?_
  rintro v m2 ⟨rfl, h2⟩
  refine wp_ret ⟨?_, (hf.mono (by decide)).trans (h2.mono (by decide))⟩
  unfold wearS sayV
  cases sayL (facD w d) 2 LN with
  | some x => rfl
  | none => rfl
/-- the class's clap, were so much paid -/
def facP (w : Arr) (h d p : Nat) : Arr := fun k => if k = 5 then nI p else facH w h d 0 k
end CLAP
/-! the reference's -/
section CLAPM
variable {N : Nat} {LN : List Lin} {w : Arr} {m : Mem} {h d b : Nat}
theorem w_lays (hN : 20000 ≤ N) (hm : m 124 = w) (hd : d < 8) : Wp (f_X12_laysDeed N (nI d) m) (fun _ m' => Fr [(133, 133)] m m' ∧ ∀ i, i ≤ 10 → m' 133 i = facD w d i) := by
  unfold f_X12_laysDeed
  refine wp_it1 (fun n a m' => ∃ i, i ≤ 11 ∧ n = 11 - i ∧ a = nI i ∧ Fr [(133, 133)] m m' ∧ ∀ j, j < i → m' 133 j = nI 0) ?_ N 11 _ _ (by omega) ⟨0, by omega, rfl, rfl, Fr.rf, fun j hj => absurd hj (by omega)⟩
  rintro n X a m' ⟨i, hi, rfl, rfl, hfr, hz⟩ hX
  have e124 : m' 124 = w := by rw [hfr.at 124 (by decide)]; exact hm
  unfold f_X12_laysDeed_L2
  simp only [li_0, li_1, li_2, li_3, li_4, li_5, li_6, li_7, li_8, li_9, li_10, li_11, li_12, li_13, li_14, li_15, li_16, li_17, li_18, li_19, li_20, li_21, li_22, li_23, li_24, li_25, li_26, li_27, li_28, li_29, li_30, li_31, li_32, li_37, li_38, li_39, li_40, li_41, li_42, li_43, li_44, li_45, li_46, li_47, li_48, li_49, li_50, li_57, li_59, li_60, li_61, li_62, li_63, li_64, li_65, li_69, li_81, li_89, li_90, li_92, li_97, li_99, li_100, li_101, li_103, li_104, li_105, li_106, li_108, li_111, li_112, li_113, li_114, li_115, li_116, li_117, li_119, li_122, li_123, li_124, li_125, li_126, li_127, li_128, li_129, li_130, li_131, li_132, li_133, li_134, li_135, li_136, li_137, li_140, li_141, li_142, li_143, li_145, li_147, li_150, li_153, li_159, li_160, li_161, li_162, li_185, li_197, li_213, li_222, li_223, li_255, li_256, li_257, li_258, li_259, li_260, li_261, li_262, li_263, li_264, li_271, li_272, li_273, li_274, li_275, li_276, li_277, li_278, li_300, li_400, li_420, li_500, li_802, li_820, li_823, li_839, li_855, li_871, li_887, li_999, li_1000, li_1001, li_1002, li_1003, li_1004, li_1005, li_1006, li_1007, li_1008, li_1009, li_1010, li_1011, li_1012, li_1013, li_1014, li_1015, li_1016, li_1017, li_1018, li_1019, li_1020, li_1021, li_1022, li_1023, li_1707, li_4096, li_9999, li_65536, li_100000, li_1000000, li_1664525, li_100000000, li_252645135, li_858993459, li_1000000007, li_1013904223, li_1431655765, li_m1, nI_add]
  refine wp_ite (fun q => ?_) (fun q => ?_)
  · rw [nI_leI (by omega) (by omega)] at q
    have : i = 11 := by omega
    subst this
    rw [inb_nI (by omega) (by omega), chk_t, nI_clamp (by omega), bnd_s, inb_nI (by omega) (by omega), chk_t, nI_clamp (by omega), bnd_s, bnd_s, bnd_s]
    refine wp_ret ⟨Fr.set (Fr.set (Fr.set (Fr.set hfr (by decide)) (by decide)) (by decide)) (by decide), fun i hi => ?_⟩
    simp only [mset_ne (show (124 : Nat) ≠ 133 by decide), e124]
    unfold facD
    by_cases h10 : i = 10
    · subst h10; simp [mset_at]
    · rw [mset_j h10]
      by_cases h8 : i = 8
      · subst h8; simp [mset_at]
      · rw [mset_j h8]
        by_cases h7 : i = 7
        · subst h7; simp [mset_at]
        · rw [mset_j h7]
          by_cases h6 : i = 6
          · subst h6; simp [mset_at]
          · rw [mset_j h6, hz i (by omega), if_neg h6, if_neg h7, if_neg h8, if_neg h10]
  · rw [nI_leI (by omega) (by omega)] at q
    rw [inb_nI (by omega) (by omega), chk_t, nI_clamp (by omega), bnd_s]
    refine hX (11 - (i + 1)) _ _ (by omega) ⟨i + 1, by omega, rfl, rfl, Fr.set hfr (by decide), fun j hj => ?_⟩
    by_cases e : j = i
    · subst e; exact mset_at _ _ _ _
    · rw [mset_j e]
      exact hz j (by omega)
theorem w_loudM (hN : 20000 ≤ N) (hm : m 124 = w) (hd : d < 8) (hw : lawW w LN) (ho : lawOk LN) : Wp (f_X12_loudOf N (nI d) m) (fun v m' => v = nI (loudS LN w d) ∧ Fr [(132, 133)] m m') := by
  unfold f_X12_loudOf
  refine wp_bind (w_lays hN hm hd) ?_
  rintro _ m1 ⟨hf, hfa⟩
  have e1 : m1 124 = w := by rw [hf.at 124 (by decide)]; exact hm
  simp only [li_0, li_1, li_2, li_3, li_4, li_5, li_6, li_7, li_8, li_9, li_10, li_11, li_12, li_13, li_14, li_15, li_16, li_17, li_18, li_19, li_20, li_21, li_22, li_23, li_24, li_25, li_26, li_27, li_28, li_29, li_30, li_31, li_32, li_37, li_38, li_39, li_40, li_41, li_42, li_43, li_44, li_45, li_46, li_47, li_48, li_49, li_50, li_57, li_59, li_60, li_61, li_62, li_63, li_64, li_65, li_69, li_81, li_89, li_90, li_92, li_97, li_99, li_100, li_101, li_103, li_104, li_105, li_106, li_108, li_111, li_112, li_113, li_114, li_115, li_116, li_117, li_119, li_122, li_123, li_124, li_125, li_126, li_127, li_128, li_129, li_130, li_131, li_132, li_133, li_134, li_135, li_136, li_137, li_140, li_141, li_142, li_143, li_145, li_147, li_150, li_153, li_159, li_160, li_161, li_162, li_185, li_197, li_213, li_222, li_223, li_255, li_256, li_257, li_258, li_259, li_260, li_261, li_262, li_263, li_264, li_271, li_272, li_273, li_274, li_275, li_276, li_277, li_278, li_300, li_400, li_420, li_500, li_802, li_820, li_823, li_839, li_855, li_871, li_887, li_999, li_1000, li_1001, li_1002, li_1003, li_1004, li_1005, li_1006, li_1007, li_1008, li_1009, li_1010, li_1011, li_1012, li_1013, li_1014, li_1015, li_1016, li_1017, li_1018, li_1019, li_1020, li_1021, li_1022, li_1023, li_1707, li_4096, li_9999, li_65536, li_100000, li_1000000, li_1664525, li_100000000, li_252645135, li_858993459, li_1000000007, li_1013904223, li_1431655765, li_m1, nI_add]
  rw [inb_nI (by omega) (by omega), chk_t, nI_clamp (by omega), e1]
  refine wp_bind (w_says (word := 0) (fa := facD w d) hN (by rw [e1]; exact hw) ho (by decide) (by decide) (fun i hi => hfa (i + 1) (by omega))) ?_
  rintro v m2 ⟨rfl, h2⟩
  exact wp_ret ⟨rfl, (hf.mono (by decide)).trans (h2.mono (by decide))⟩
theorem w_wearsM (hN : 20000 ≤ N) (hm : m 124 = w) (hd : d < 8) (hw : lawW w LN) (ho : lawOk LN) : Wp (f_X12_wearsOf N (nI d) m) (fun v m' => v = nI (wearS LN w d) ∧ Fr [(132, 133)] m m') := by
  unfold f_X12_wearsOf
  refine wp_bind (w_lays hN hm hd) ?_
  rintro _ m1 ⟨hf, hfa⟩
  have e1 : m1 124 = w := by rw [hf.at 124 (by decide)]; exact hm
  simp only [li_0, li_1, li_2, li_3, li_4, li_5, li_6, li_7, li_8, li_9, li_10, li_11, li_12, li_13, li_14, li_15, li_16, li_17, li_18, li_19, li_20, li_21, li_22, li_23, li_24, li_25, li_26, li_27, li_28, li_29, li_30, li_31, li_32, li_37, li_38, li_39, li_40, li_41, li_42, li_43, li_44, li_45, li_46, li_47, li_48, li_49, li_50, li_57, li_59, li_60, li_61, li_62, li_63, li_64, li_65, li_69, li_81, li_89, li_90, li_92, li_97, li_99, li_100, li_101, li_103, li_104, li_105, li_106, li_108, li_111, li_112, li_113, li_114, li_115, li_116, li_117, li_119, li_122, li_123, li_124, li_125, li_126, li_127, li_128, li_129, li_130, li_131, li_132, li_133, li_134, li_135, li_136, li_137, li_140, li_141, li_142, li_143, li_145, li_147, li_150, li_153, li_159, li_160, li_161, li_162, li_185, li_197, li_213, li_222, li_223, li_255, li_256, li_257, li_258, li_259, li_260, li_261, li_262, li_263, li_264, li_271, li_272, li_273, li_274, li_275, li_276, li_277, li_278, li_300, li_400, li_420, li_500, li_802, li_820, li_823, li_839, li_855, li_871, li_887, li_999, li_1000, li_1001, li_1002, li_1003, li_1004, li_1005, li_1006, li_1007, li_1008, li_1009, li_1010, li_1011, li_1012, li_1013, li_1014, li_1015, li_1016, li_1017, li_1018, li_1019, li_1020, li_1021, li_1022, li_1023, li_1707, li_4096, li_9999, li_65536, li_100000, li_1000000, li_1664525, li_100000000, li_252645135, li_858993459, li_1000000007, li_1013904223, li_1431655765, li_m1]
  refine wp_bind (w_says (word := 2) (fa := facD w d) hN (by rw [e1]; exact hw) ho (by decide) (by decide) (fun i hi => hfa (i + 1) (by omega))) ?_
  rintro v m2 ⟨rfl, h2⟩
  exact wp_ret ⟨rfl, (hf.mono (by decide)).trans (h2.mono (by decide))⟩
theorem w_clapM (hN : 20000 ≤ N) (hm : m 124 = w) (hh : h < 12) (hd : d < 8) (hw : lawW w LN) (ho : lawOk LN) : Wp (f_X12_clapOf N (nI h) (nI d) (nI b) m) (fun v m' => v = nI (clapS LN w h d b) ∧ Fr [(132, 133)] m m') := by
  unfold f_X12_clapOf
  refine wp_bind (w_lays hN hm hd) ?_
  rintro _ m1 ⟨hf, hfa⟩
  have e1 : m1 124 = w := by rw [hf.at 124 (by decide)]; exact hm
  simp only [li_0, li_1, li_2, li_3, li_4, li_5, li_6, li_7, li_8, li_9, li_10, li_11, li_12, li_13, li_14, li_15, li_16, li_17, li_18, li_19, li_20, li_21, li_22, li_23, li_24, li_25, li_26, li_27, li_28, li_29, li_30, li_31, li_32, li_37, li_38, li_39, li_40, li_41, li_42, li_43, li_44, li_45, li_46, li_47, li_48, li_49, li_50, li_57, li_59, li_60, li_61, li_62, li_63, li_64, li_65, li_69, li_81, li_89, li_90, li_92, li_97, li_99, li_100, li_101, li_103, li_104, li_105, li_106, li_108, li_111, li_112, li_113, li_114, li_115, li_116, li_117, li_119, li_122, li_123, li_124, li_125, li_126, li_127, li_128, li_129, li_130, li_131, li_132, li_133, li_134, li_135, li_136, li_137, li_140, li_141, li_142, li_143, li_145, li_147, li_150, li_153, li_159, li_160, li_161, li_162, li_185, li_197, li_213, li_222, li_223, li_255, li_256, li_257, li_258, li_259, li_260, li_261, li_262, li_263, li_264, li_271, li_272, li_273, li_274, li_275, li_276, li_277, li_278, li_300, li_400, li_420, li_500, li_802, li_820, li_823, li_839, li_855, li_871, li_887, li_999, li_1000, li_1001, li_1002, li_1003, li_1004, li_1005, li_1006, li_1007, li_1008, li_1009, li_1010, li_1011, li_1012, li_1013, li_1014, li_1015, li_1016, li_1017, li_1018, li_1019, li_1020, li_1021, li_1022, li_1023, li_1707, li_4096, li_9999, li_65536, li_100000, li_1000000, li_1664525, li_100000000, li_252645135, li_858993459, li_1000000007, li_1013904223, li_1431655765, li_m1, nI_add]
  rw [bnd_s, inb_nI (by omega) (by omega), chk_t, nI_clamp (by omega), bnd_s, inb_nI (by omega) (by omega), chk_t, nI_clamp (by omega), bnd_s, inb_nI (by omega) (by omega), chk_t, nI_clamp (by omega), bnd_s, inb_nI (by omega) (by omega), chk_t, nI_clamp (by omega), bnd_s, bnd_s, chk_t]
  simp only [mset_ne (show (124 : Nat) ≠ 133 by decide), e1]
  refine wp_bind (w_says (word := 1) (LN := LN) (fa := facH w h d b) hN (by simp only [mset_ne (show (124 : Nat) ≠ 133 by decide), e1]; exact hw) ho (by decide) (by decide) ?_) ?_
  · intro i hi
    unfold facH
    by_cases h9 : i + 1 = 9
    · rw [h9]; simp [mset_at]
    · rw [mset_j h9]
      by_cases h5 : i + 1 = 5
      · rw [h5]; simp [mset_at]
      · rw [mset_j h5]
        by_cases h4 : i + 1 = 4
        · rw [h4]; simp [mset_at]
        · rw [mset_j h4]
          by_cases h3 : i + 1 = 3
          · rw [h3]; simp [mset_at]
          · rw [mset_j h3]
            by_cases h2 : i + 1 = 2
            · rw [h2]; simp [mset_at]
            · rw [mset_j h2]
              by_cases h1 : i + 1 = 1
              · rw [h1]; simp [mset_at]
              · rw [mset_j h1, hfa _ (by omega), if_neg h1, if_neg h2, if_neg h3, if_neg h4, if_neg h5, if_neg h9]
  · rintro v m2 ⟨rfl, h2⟩
    refine wp_ret ⟨rfl, ?_⟩
    refine Fr.trans ?_ (h2.mono (by decide))
    exact Fr.set (Fr.set (Fr.set (Fr.set (Fr.set (Fr.set (hf.mono (by decide)) (by decide)) (by decide)) (by decide)) (by decide)) (by decide)) (by decide)
end CLAPM
