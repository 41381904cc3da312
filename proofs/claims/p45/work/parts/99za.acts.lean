/-! what the model does when it is told -/
section ACTSM
variable {m m' : Mem} {N h d i c j k q : Nat} {a b : Int32} {LN : List Lin} {w w' a0 : Arr} {f : Nat → Arr}
/-- the state is w' now, k' Moments f' are kept; the TAPE has as many bytes -/
def AcM (w' : Arr) (k' : Nat) (f' : Nat → Arr) (m m' : Mem) : Prop := m' 124 = w' ∧ PaM k' f' m' ∧ m' 123 16 = m 123 16
theorem AcM.rf (hm : m 124 = w) (P : PaM k f m) : AcM w k f m m := ⟨hm, P, rfl⟩
theorem PaM.cg (P : PaM k f m) (h4 : m' 123 4 = m 123 4) (h126 : m' 126 = m 126) : PaM k f m' := ⟨h4.trans P.1, fun i hi j hj => by rw [h126]; exact P.2 i hi j hj⟩
theorem PaM.zero (h4 : m' 123 4 = nI 0) : PaM 0 f m' := ⟨h4, fun i hi => absurd hi (by omega)⟩
theorem m_perf (hN : 20000 ≤ N) (hw : m 124 = w) (W0 : WFc w) (hm : WFm 11258 w) (L : Lw LN w) (hk : k ≤ 6) (P : PaM k f m) (hd : d < zd w) (q : w 0 + nI 21 * w (89 + d) < nI 9999) :
    Wp (f_X12_perform N (nI d) m) (fun v m' => v = nI (dosS LN true d 21 w 0).2 ∧ AcM (dosS LN true d 21 w 0).1 (min 6 (k + 1)) (nxt k f w) m m') := by
  have ld := W0.lzd
  unfold f_X12_perform
  rw [e_isDeed hw W0, bd_s, inb_nI hd (by omega), if_neg (by decide)]
  simp only [li_0, li_1, li_2, li_3, li_4, li_5, li_6, li_7, li_8, li_9, li_10, li_11, li_12, li_13, li_14, li_15, li_16, li_17, li_18, li_19, li_20, li_21, li_22, li_23, li_24, li_25, li_26, li_27, li_28, li_29, li_30, li_31, li_32, li_37, li_38, li_39, li_40, li_41, li_42, li_43, li_44, li_45, li_46, li_47, li_48, li_49, li_50, li_57, li_59, li_60, li_61, li_62, li_63, li_64, li_65, li_69, li_81, li_89, li_90, li_92, li_97, li_99, li_100, li_101, li_103, li_104, li_105, li_106, li_108, li_111, li_112, li_113, li_114, li_115, li_116, li_117, li_119, li_122, li_123, li_124, li_125, li_126, li_127, li_128, li_129, li_130, li_131, li_132, li_133, li_134, li_135, li_136, li_137, li_140, li_141, li_142, li_143, li_145, li_147, li_150, li_153, li_159, li_160, li_161, li_162, li_185, li_197, li_213, li_222, li_223, li_255, li_256, li_257, li_258, li_259, li_260, li_261, li_262, li_263, li_264, li_271, li_272, li_273, li_274, li_275, li_276, li_277, li_278, li_300, li_400, li_420, li_500, li_802, li_820, li_823, li_839, li_855, li_871, li_887, li_999, li_1000, li_1001, li_1002, li_1003, li_1004, li_1005, li_1006, li_1007, li_1008, li_1009, li_1010, li_1011, li_1012, li_1013, li_1014, li_1015, li_1016, li_1017, li_1018, li_1019, li_1020, li_1021, li_1022, li_1023, li_1707, li_4096, li_9999, li_65536, li_100000, li_1000000, li_1664525, li_100000000, li_252645135, li_858993459, li_1000000007, li_1013904223, li_1431655765, li_m1, nI_add]
  rw [inb_nI (by omega) (by omega), chk_t, nI_clamp (by omega), hw, if_pos q]
  refine wp_bind (w_kM hN hw hk P) ?_
  rintro _ m1 ⟨P1, s26, sj, sf⟩
  have e1 : m1 124 = w := (sf.at 124 (by decide)).trans hw
  refine wp_bind (w_doesM (tru := true) (B := 11258) hN e1 W0 hm (by decide) hd L.1 L.2 s26) ?_
  rintro v m2 ⟨rfl, h2, j2, f2⟩
  exact wp_ret ⟨rfl, h2, P1.cg (by rw [j2 4 (by decide)]) (f2.at 126 (by decide)), by rw [j2 16 (by decide), sj 16 (by decide) (by decide)]⟩
theorem m_perfN (hw : m 124 = w) (W0 : WFc w) (hd : d < zd w) (q : ¬ w 0 + nI 21 * w (89 + d) < nI 9999) : f_X12_perform N (nI d) m = some (mo1, m) := by
  have ld := W0.lzd
  unfold f_X12_perform
  rw [e_isDeed hw W0, bd_s, inb_nI hd (by omega), if_neg (by decide)]
  simp only [li_0, li_1, li_2, li_3, li_4, li_5, li_6, li_7, li_8, li_9, li_10, li_11, li_12, li_13, li_14, li_15, li_16, li_17, li_18, li_19, li_20, li_21, li_22, li_23, li_24, li_25, li_26, li_27, li_28, li_29, li_30, li_31, li_32, li_37, li_38, li_39, li_40, li_41, li_42, li_43, li_44, li_45, li_46, li_47, li_48, li_49, li_50, li_57, li_59, li_60, li_61, li_62, li_63, li_64, li_65, li_69, li_81, li_89, li_90, li_92, li_97, li_99, li_100, li_101, li_103, li_104, li_105, li_106, li_108, li_111, li_112, li_113, li_114, li_115, li_116, li_117, li_119, li_122, li_123, li_124, li_125, li_126, li_127, li_128, li_129, li_130, li_131, li_132, li_133, li_134, li_135, li_136, li_137, li_140, li_141, li_142, li_143, li_145, li_147, li_150, li_153, li_159, li_160, li_161, li_162, li_185, li_197, li_213, li_222, li_223, li_255, li_256, li_257, li_258, li_259, li_260, li_261, li_262, li_263, li_264, li_271, li_272, li_273, li_274, li_275, li_276, li_277, li_278, li_300, li_400, li_420, li_500, li_802, li_820, li_823, li_839, li_855, li_871, li_887, li_999, li_1000, li_1001, li_1002, li_1003, li_1004, li_1005, li_1006, li_1007, li_1008, li_1009, li_1010, li_1011, li_1012, li_1013, li_1014, li_1015, li_1016, li_1017, li_1018, li_1019, li_1020, li_1021, li_1022, li_1023, li_1707, li_4096, li_9999, li_65536, li_100000, li_1000000, li_1664525, li_100000000, li_252645135, li_858993459, li_1000000007, li_1013904223, li_1431655765, li_m1, nI_add]
  rw [inb_nI (by omega) (by omega), chk_t, nI_clamp (by omega), hw, if_neg q]
theorem m_perfX (hw : m 124 = w) (W0 : WFc w) (hd : inb a (zd w) = false) : f_X12_perform N a m = some (mo1, m) := by
  unfold f_X12_perform
  rw [e_isDeed hw W0, bd_s, hd, if_pos (by decide)]
  rfl
def payV (w : Arr) (h : Nat) (b : Int32) : Int32 := if w (9 + h) + b < nI 99 then w (9 + h) + b else nI 99
def payS (w : Arr) (h : Nat) (b : Int32) : Arr := upd (upd w (9 + h) (payV w h b)) 2 (w 2 - b)
theorem payV_le (W0 : WFc w) (hh : h < zh w) (hq : q ≤ 99) : ∃ v, v ≤ 99 ∧ payV w h (nI q) = nI v := by
  obtain ⟨pd, hpd, epd⟩ := (W0.hea hh).2.2.2.1
  unfold payV
  rw [epd, nI_add]
  by_cases z : pd + q < 99
  · exact ⟨pd + q, by omega, if_pos (nI_lt z (by decide))⟩
  · exact ⟨99, Nat.le_refl _, if_neg (nI_nlt (by omega) (by omega))⟩
theorem payW (W0 : WFc w) (hh : h < zh w) (hq : q ≤ 99) : WFc (payS w h (nI q)) := by
  obtain ⟨v, hv, e⟩ := payV_le W0 hh hq
  unfold payS
  rw [e]
  exact WFc.up (W0.hea_set (c := 5) hh (by omega)) (by decide)
theorem m_pay (hN : 20000 ≤ N) (hw : m 124 = w) (W0 : WFc w) (hk : k ≤ 6) (P : PaM k f m) (hh : h < zh w) (h1 : 1 ≤ q) (h2 : q ≤ 99) :
    Wp (f_X12_pay N (nI h) (nI q) m) (fun v m' => v = 1 ∧ AcM (nteS (payS w h (nI q)) (nI 3) (nI h) (nI q)) (min 6 (k + 1)) (nxt k f w) m m') := by
  have lh := W0.lzh
  have W3 := payW W0 hh h2
  unfold f_X12_pay
  rw [e_isHearer hw W0, bd_s, inb_nI hh (by omega), if_neg (by decide), e_isIn]
  simp only [li_0, li_1, li_2, li_3, li_4, li_5, li_6, li_7, li_8, li_9, li_10, li_11, li_12, li_13, li_14, li_15, li_16, li_17, li_18, li_19, li_20, li_21, li_22, li_23, li_24, li_25, li_26, li_27, li_28, li_29, li_30, li_31, li_32, li_37, li_38, li_39, li_40, li_41, li_42, li_43, li_44, li_45, li_46, li_47, li_48, li_49, li_50, li_57, li_59, li_60, li_61, li_62, li_63, li_64, li_65, li_69, li_81, li_89, li_90, li_92, li_97, li_99, li_100, li_101, li_103, li_104, li_105, li_106, li_108, li_111, li_112, li_113, li_114, li_115, li_116, li_117, li_119, li_122, li_123, li_124, li_125, li_126, li_127, li_128, li_129, li_130, li_131, li_132, li_133, li_134, li_135, li_136, li_137, li_140, li_141, li_142, li_143, li_145, li_147, li_150, li_153, li_159, li_160, li_161, li_162, li_185, li_197, li_213, li_222, li_223, li_255, li_256, li_257, li_258, li_259, li_260, li_261, li_262, li_263, li_264, li_271, li_272, li_273, li_274, li_275, li_276, li_277, li_278, li_300, li_400, li_420, li_500, li_802, li_820, li_823, li_839, li_855, li_871, li_887, li_999, li_1000, li_1001, li_1002, li_1003, li_1004, li_1005, li_1006, li_1007, li_1008, li_1009, li_1010, li_1011, li_1012, li_1013, li_1014, li_1015, li_1016, li_1017, li_1018, li_1019, li_1020, li_1021, li_1022, li_1023, li_1707, li_4096, li_9999, li_65536, li_100000, li_1000000, li_1664525, li_100000000, li_252645135, li_858993459, li_1000000007, li_1013904223, li_1431655765, li_m1, nI_add]
  rw [rng_is (by omega) (by decide) (by decide), decide_eq_true ⟨h1, h2⟩, bd_s, if_neg (by decide)]
  refine wp_bind (w_kM hN hw hk P) ?_
  rintro _ m1 ⟨P1, s26, sj, sf⟩
  have e1 : m1 124 = w := (sf.at 124 (by decide)).trans hw
  rw [inb_nI (by omega) (by omega), chk_t, nI_clamp (by omega), e1, e_lesser, bd_s, chk_t, bnd_s, bnd_s]
  have ew : mset (mset m1 124 (9 + h) (payV w h (nI q))) 124 2 (mset m1 124 (9 + h) (payV w h (nI q)) 124 2 - nI q) 124 = payS w h (nI q) := by
    rw [mset_eq, mset_eq, e1]
    unfold payS
    rw [ud_n (by omega)]
  have h26 : mset (mset m1 124 (9 + h) (payV w h (nI q))) 124 2 (mset m1 124 (9 + h) (payV w h (nI q)) 124 2 - nI q) 123 26 = nI 1 := by rw [mset_k (by decide), mset_k (by decide)]; exact s26
  refine wp_bind (w_noteM (a := nI 3) (b := nI h) (c := nI q) ew W3 h26) ?_
  rintro _ m2 ⟨h4, f4⟩
  have e123 : m2 123 = m1 123 := by rw [f4.at 123 (by decide), mset_ne (by decide), mset_ne (by decide)]
  have e126 : m2 126 = m1 126 := by rw [f4.at 126 (by decide), mset_ne (by decide), mset_ne (by decide)]
  exact wp_ret ⟨rfl, h4, P1.cg (by rw [e123]) e126, by rw [e123, sj 16 (by decide) (by decide)]⟩
theorem m_payX (hw : m 124 = w) (W0 : WFc w) (hd : inb a (zh w) = false) : f_X12_pay N a b m = some (0, m) := by
  unfold f_X12_pay
  rw [e_isHearer hw W0, bd_s, hd, if_pos (by decide)]
theorem m_payN (hw : m 124 = w) (W0 : WFc w) (hh : h < zh w) (hq : decide (nI 1 ≤ b ∧ b ≤ nI 99) = false) : f_X12_pay N (nI h) b m = some (0, m) := by
  have lh := W0.lzh
  unfold f_X12_pay
  rw [e_isHearer hw W0, bd_s, inb_nI hh (by omega), if_neg (by decide), e_isIn]
  simp only [li_0, li_1, li_2, li_3, li_4, li_5, li_6, li_7, li_8, li_9, li_10, li_11, li_12, li_13, li_14, li_15, li_16, li_17, li_18, li_19, li_20, li_21, li_22, li_23, li_24, li_25, li_26, li_27, li_28, li_29, li_30, li_31, li_32, li_37, li_38, li_39, li_40, li_41, li_42, li_43, li_44, li_45, li_46, li_47, li_48, li_49, li_50, li_57, li_59, li_60, li_61, li_62, li_63, li_64, li_65, li_69, li_81, li_89, li_90, li_92, li_97, li_99, li_100, li_101, li_103, li_104, li_105, li_106, li_108, li_111, li_112, li_113, li_114, li_115, li_116, li_117, li_119, li_122, li_123, li_124, li_125, li_126, li_127, li_128, li_129, li_130, li_131, li_132, li_133, li_134, li_135, li_136, li_137, li_140, li_141, li_142, li_143, li_145, li_147, li_150, li_153, li_159, li_160, li_161, li_162, li_185, li_197, li_213, li_222, li_223, li_255, li_256, li_257, li_258, li_259, li_260, li_261, li_262, li_263, li_264, li_271, li_272, li_273, li_274, li_275, li_276, li_277, li_278, li_300, li_400, li_420, li_500, li_802, li_820, li_823, li_839, li_855, li_871, li_887, li_999, li_1000, li_1001, li_1002, li_1003, li_1004, li_1005, li_1006, li_1007, li_1008, li_1009, li_1010, li_1011, li_1012, li_1013, li_1014, li_1015, li_1016, li_1017, li_1018, li_1019, li_1020, li_1021, li_1022, li_1023, li_1707, li_4096, li_9999, li_65536, li_100000, li_1000000, li_1664525, li_100000000, li_252645135, li_858993459, li_1000000007, li_1013904223, li_1431655765, li_m1, nI_add]
  rw [hq, bd_s, if_pos (by decide)]
def gloS (w : Arr) (h : Nat) : Arr := upd w 8 (nI (zv w ^^^ 2 ^ h))
def letS (w : Arr) (h : Nat) : Arr := upd w 7 (nI (zt w ^^^ 2 ^ h))
theorem gloW (W0 : WFc w) (hh : h < zh w) : WFc (gloS w h) := wfc_bits (c := 4) W0 (Or.inr rfl) (xor_lt W0.h8.2 hh)
theorem letW (W0 : WFc w) (hh : h < zh w) : WFc (letS w h) := wfc_bits (c := 3) W0 (Or.inl rfl) (xor_lt W0.h7.2 hh)
theorem m_glove {b : Bool} (hN : 20000 ≤ N) (hw : m 124 = w) (W0 : WFc w) (hk : k ≤ 6) (P : PaM k f m) (hh : h < zh w) (hb : (zv w).testBit h = !b) :
    Wp (f_X12_glove N (nI h) (b2i b) m) (fun v m' => v = 1 ∧ AcM (nteS (gloS w h) (nI 4) (nI h) (b2i b)) (min 6 (k + 1)) (nxt k f w) m m') := by
  have lh := W0.lzh
  have p12 := W0.p12
  have W2 := gloW W0 hh
  unfold f_X12_glove
  rw [e_isHearer hw W0, bd_s, inb_nI hh (by omega), if_neg (by decide), e_gloved hw W0 (by omega), bd_s, hb, if_neg (by cases b <;> decide)]
  refine wp_bind (w_kM hN hw hk P) ?_
  rintro _ m1 ⟨P1, s26, sj, sf⟩
  have e1 : m1 124 = w := (sf.at 124 (by decide)).trans hw
  simp only [li_0, li_1, li_2, li_3, li_4, li_5, li_6, li_7, li_8, li_9, li_10, li_11, li_12, li_13, li_14, li_15, li_16, li_17, li_18, li_19, li_20, li_21, li_22, li_23, li_24, li_25, li_26, li_27, li_28, li_29, li_30, li_31, li_32, li_37, li_38, li_39, li_40, li_41, li_42, li_43, li_44, li_45, li_46, li_47, li_48, li_49, li_50, li_57, li_59, li_60, li_61, li_62, li_63, li_64, li_65, li_69, li_81, li_89, li_90, li_92, li_97, li_99, li_100, li_101, li_103, li_104, li_105, li_106, li_108, li_111, li_112, li_113, li_114, li_115, li_116, li_117, li_119, li_122, li_123, li_124, li_125, li_126, li_127, li_128, li_129, li_130, li_131, li_132, li_133, li_134, li_135, li_136, li_137, li_140, li_141, li_142, li_143, li_145, li_147, li_150, li_153, li_159, li_160, li_161, li_162, li_185, li_197, li_213, li_222, li_223, li_255, li_256, li_257, li_258, li_259, li_260, li_261, li_262, li_263, li_264, li_271, li_272, li_273, li_274, li_275, li_276, li_277, li_278, li_300, li_400, li_420, li_500, li_802, li_820, li_823, li_839, li_855, li_871, li_887, li_999, li_1000, li_1001, li_1002, li_1003, li_1004, li_1005, li_1006, li_1007, li_1008, li_1009, li_1010, li_1011, li_1012, li_1013, li_1014, li_1015, li_1016, li_1017, li_1018, li_1019, li_1020, li_1021, li_1022, li_1023, li_1707, li_4096, li_9999, li_65536, li_100000, li_1000000, li_1664525, li_100000000, li_252645135, li_858993459, li_1000000007, li_1013904223, li_1431655765, li_m1]
  rw [bnd_s, e1, W0.h8.1, nz_one (by omega), nz_xor]
  have ew : mset m1 124 8 (nI (zv w ^^^ 2 ^ h)) 124 = gloS w h := by rw [mset_eq, e1]; rfl
  have nt : ∀ x, x = b2i b → Wp (bd (f_X12_notes N (nI 4) (nI h) x (mset m1 124 8 (nI (zv w ^^^ 2 ^ h)))) fun _ m_48 => some (nI 1, m_48)) (fun v m' => v = 1 ∧ AcM (nteS (gloS w h) (nI 4) (nI h) (b2i b)) (min 6 (k + 1)) (nxt k f w) m m') := by
    rintro x rfl
    refine wp_bind (w_noteM ew W2 (by rw [mset_k (by decide)]; exact s26)) ?_
    rintro _ m4 ⟨h4, f4⟩
    have e123 : m4 123 = m1 123 := by rw [f4.at 123 (by decide), mset_ne (by decide)]
    have e126 : m4 126 = m1 126 := by rw [f4.at 126 (by decide), mset_ne (by decide)]
    exact wp_ret ⟨rfl, h4, P1.cg (by rw [e123]) e126, by rw [e123, sj 16 (by decide) (by decide)]⟩
  cases b with
  | false => rw [if_pos (by decide)]; exact nt _ rfl
  | true => rw [if_neg (by decide)]; exact nt _ rfl
theorem m_gloveX {b : Int32} (hw : m 124 = w) (W0 : WFc w) (hd : inb a (zh w) = false) : f_X12_glove N a b m = some (0, m) := by
  unfold f_X12_glove
  rw [e_isHearer hw W0, bd_s, hd, if_pos (by decide)]
theorem m_gloveN {b : Bool} (hw : m 124 = w) (W0 : WFc w) (hh : h < zh w) (hb : (zv w).testBit h = b) : f_X12_glove N (nI h) (b2i b) m = some (0, m) := by
  have lh := W0.lzh
  unfold f_X12_glove
  rw [e_isHearer hw W0, bd_s, inb_nI hh (by omega), if_neg (by decide), e_gloved hw W0 (by omega), bd_s, hb, if_pos rfl]
theorem m_let {b : Bool} (hN : 20000 ≤ N) (hw : m 124 = w) (W0 : WFc w) (hk : k ≤ 6) (P : PaM k f m) (hh : h < zh w) (hb : (zt w).testBit h = !b) :
    Wp (f_X12_let N (nI h) (b2i b) m) (fun v m' => v = 1 ∧ AcM (nteS (letS w h) (nI 5) (nI h) (b2i b)) (min 6 (k + 1)) (nxt k f w) m m') := by
  have lh := W0.lzh
  have p12 := W0.p12
  have W2 := letW W0 hh
  unfold f_X12_let
  rw [e_isHearer hw W0, bd_s, inb_nI hh (by omega), if_neg (by decide), e_there hw W0 (by omega), bd_s, hb, if_neg (by cases b <;> decide)]
  refine wp_bind (w_kM hN hw hk P) ?_
  rintro _ m1 ⟨P1, s26, sj, sf⟩
  have e1 : m1 124 = w := (sf.at 124 (by decide)).trans hw
  simp only [li_0, li_1, li_2, li_3, li_4, li_5, li_6, li_7, li_8, li_9, li_10, li_11, li_12, li_13, li_14, li_15, li_16, li_17, li_18, li_19, li_20, li_21, li_22, li_23, li_24, li_25, li_26, li_27, li_28, li_29, li_30, li_31, li_32, li_37, li_38, li_39, li_40, li_41, li_42, li_43, li_44, li_45, li_46, li_47, li_48, li_49, li_50, li_57, li_59, li_60, li_61, li_62, li_63, li_64, li_65, li_69, li_81, li_89, li_90, li_92, li_97, li_99, li_100, li_101, li_103, li_104, li_105, li_106, li_108, li_111, li_112, li_113, li_114, li_115, li_116, li_117, li_119, li_122, li_123, li_124, li_125, li_126, li_127, li_128, li_129, li_130, li_131, li_132, li_133, li_134, li_135, li_136, li_137, li_140, li_141, li_142, li_143, li_145, li_147, li_150, li_153, li_159, li_160, li_161, li_162, li_185, li_197, li_213, li_222, li_223, li_255, li_256, li_257, li_258, li_259, li_260, li_261, li_262, li_263, li_264, li_271, li_272, li_273, li_274, li_275, li_276, li_277, li_278, li_300, li_400, li_420, li_500, li_802, li_820, li_823, li_839, li_855, li_871, li_887, li_999, li_1000, li_1001, li_1002, li_1003, li_1004, li_1005, li_1006, li_1007, li_1008, li_1009, li_1010, li_1011, li_1012, li_1013, li_1014, li_1015, li_1016, li_1017, li_1018, li_1019, li_1020, li_1021, li_1022, li_1023, li_1707, li_4096, li_9999, li_65536, li_100000, li_1000000, li_1664525, li_100000000, li_252645135, li_858993459, li_1000000007, li_1013904223, li_1431655765, li_m1]
  rw [bnd_s, e1, W0.h7.1, nz_one (by omega), nz_xor]
  have ew : mset m1 124 7 (nI (zt w ^^^ 2 ^ h)) 124 = letS w h := by rw [mset_eq, e1]; rfl
  have nt : ∀ x, x = b2i b → Wp (bd (f_X12_notes N (nI 5) (nI h) x (mset m1 124 7 (nI (zt w ^^^ 2 ^ h)))) fun _ m_48 => some (nI 1, m_48)) (fun v m' => v = 1 ∧ AcM (nteS (letS w h) (nI 5) (nI h) (b2i b)) (min 6 (k + 1)) (nxt k f w) m m') := by
    rintro x rfl
    refine wp_bind (w_noteM ew W2 (by rw [mset_k (by decide)]; exact s26)) ?_
    rintro _ m4 ⟨h4, f4⟩
    have e123 : m4 123 = m1 123 := by rw [f4.at 123 (by decide), mset_ne (by decide)]
    have e126 : m4 126 = m1 126 := by rw [f4.at 126 (by decide), mset_ne (by decide)]
    exact wp_ret ⟨rfl, h4, P1.cg (by rw [e123]) e126, by rw [e123, sj 16 (by decide) (by decide)]⟩
  cases b with
  | false => rw [if_pos (by decide)]; exact nt _ rfl
  | true => rw [if_neg (by decide)]; exact nt _ rfl
theorem m_letX {b : Int32} (hw : m 124 = w) (W0 : WFc w) (hd : inb a (zh w) = false) : f_X12_let N a b m = some (0, m) := by
  unfold f_X12_let
  rw [e_isHearer hw W0, bd_s, hd, if_pos (by decide)]
theorem m_letN {b : Bool} (hw : m 124 = w) (W0 : WFc w) (hh : h < zh w) (hb : (zt w).testBit h = b) : f_X12_let N (nI h) (b2i b) m = some (0, m) := by
  have lh := W0.lzh
  unfold f_X12_let
  rw [e_isHearer hw W0, bd_s, inb_nI hh (by omega), if_neg (by decide), e_there hw W0 (by omega), bd_s, hb, if_pos rfl]
theorem m_undo0 (P : PaM 0 f m) : f_X12_undo N m = some (0, m) := by
  unfold f_X12_undo
  rw [P.1, if_pos (by decide)]
theorem m_undo (hN : 20000 ≤ N) (hw : m 124 = w) (hk : k < 6) (P : PaM (k + 1) f m) : Wp (f_X12_undo N m) (fun v m' => v = 1 ∧ AcM (ovl w (m 126) k) k f m m') := by
  refine wp_mono (w_undoM hN hw hk P.1) ?_
  rintro v m1 ⟨rfl, h1, h4, hj, ff⟩
  exact ⟨rfl, h1, ⟨h4, fun i hi j hj => by rw [ff.at 126 (by decide)]; exact P.2 i (by omega) j hj⟩, hj 16 (by decide)⟩
theorem m_evs (hN : 20000 ≤ N) (hw : m 124 = w) (G : Good LN w) (ho : lawOk LN) (O : Hok k f w) (P : PaM k f m) (h1 : 1 ≤ q) (h2 : q ≤ 20) (he : w 1 + nI q ≤ nI 9999) :
    Wp (f_X12_evenings N (nI q) m) (fun v m' => v = nI (evT LN k f w q).2.2.2 ∧ AcM (evT LN k f w q).2.2.1 (evT LN k f w q).1 (evT LN k f w q).2.1 m m') := by
  unfold f_X12_evenings
  simp only [li_0, li_1, li_2, li_3, li_4, li_5, li_6, li_7, li_8, li_9, li_10, li_11, li_12, li_13, li_14, li_15, li_16, li_17, li_18, li_19, li_20, li_21, li_22, li_23, li_24, li_25, li_26, li_27, li_28, li_29, li_30, li_31, li_32, li_37, li_38, li_39, li_40, li_41, li_42, li_43, li_44, li_45, li_46, li_47, li_48, li_49, li_50, li_57, li_59, li_60, li_61, li_62, li_63, li_64, li_65, li_69, li_81, li_89, li_90, li_92, li_97, li_99, li_100, li_101, li_103, li_104, li_105, li_106, li_108, li_111, li_112, li_113, li_114, li_115, li_116, li_117, li_119, li_122, li_123, li_124, li_125, li_126, li_127, li_128, li_129, li_130, li_131, li_132, li_133, li_134, li_135, li_136, li_137, li_140, li_141, li_142, li_143, li_145, li_147, li_150, li_153, li_159, li_160, li_161, li_162, li_185, li_197, li_213, li_222, li_223, li_255, li_256, li_257, li_258, li_259, li_260, li_261, li_262, li_263, li_264, li_271, li_272, li_273, li_274, li_275, li_276, li_277, li_278, li_300, li_400, li_420, li_500, li_802, li_820, li_823, li_839, li_855, li_871, li_887, li_999, li_1000, li_1001, li_1002, li_1003, li_1004, li_1005, li_1006, li_1007, li_1008, li_1009, li_1010, li_1011, li_1012, li_1013, li_1014, li_1015, li_1016, li_1017, li_1018, li_1019, li_1020, li_1021, li_1022, li_1023, li_1707, li_4096, li_9999, li_65536, li_100000, li_1000000, li_1664525, li_100000000, li_252645135, li_858993459, li_1000000007, li_1013904223, li_1431655765, li_m1]
  rw [e_isIn, bd_s, rng_is (by omega) (by decide) (by decide), decide_eq_true ⟨h1, h2⟩, if_neg (by decide), hw, if_pos he]
  refine wp_mono (w_evsM hN h2 hw G ho O P) ?_
  rintro v m1 ⟨rfl, e1, P1, j1, ff⟩
  exact ⟨rfl, e1, P1, j1 16 (by decide) (by decide)⟩
theorem m_evsX (hq : decide (nI 1 ≤ a ∧ a ≤ nI 20) = false) : f_X12_evenings N a m = some (mo1, m) := by
  unfold f_X12_evenings
  simp only [li_0, li_1, li_2, li_3, li_4, li_5, li_6, li_7, li_8, li_9, li_10, li_11, li_12, li_13, li_14, li_15, li_16, li_17, li_18, li_19, li_20, li_21, li_22, li_23, li_24, li_25, li_26, li_27, li_28, li_29, li_30, li_31, li_32, li_37, li_38, li_39, li_40, li_41, li_42, li_43, li_44, li_45, li_46, li_47, li_48, li_49, li_50, li_57, li_59, li_60, li_61, li_62, li_63, li_64, li_65, li_69, li_81, li_89, li_90, li_92, li_97, li_99, li_100, li_101, li_103, li_104, li_105, li_106, li_108, li_111, li_112, li_113, li_114, li_115, li_116, li_117, li_119, li_122, li_123, li_124, li_125, li_126, li_127, li_128, li_129, li_130, li_131, li_132, li_133, li_134, li_135, li_136, li_137, li_140, li_141, li_142, li_143, li_145, li_147, li_150, li_153, li_159, li_160, li_161, li_162, li_185, li_197, li_213, li_222, li_223, li_255, li_256, li_257, li_258, li_259, li_260, li_261, li_262, li_263, li_264, li_271, li_272, li_273, li_274, li_275, li_276, li_277, li_278, li_300, li_400, li_420, li_500, li_802, li_820, li_823, li_839, li_855, li_871, li_887, li_999, li_1000, li_1001, li_1002, li_1003, li_1004, li_1005, li_1006, li_1007, li_1008, li_1009, li_1010, li_1011, li_1012, li_1013, li_1014, li_1015, li_1016, li_1017, li_1018, li_1019, li_1020, li_1021, li_1022, li_1023, li_1707, li_4096, li_9999, li_65536, li_100000, li_1000000, li_1664525, li_100000000, li_252645135, li_858993459, li_1000000007, li_1013904223, li_1431655765, li_m1]
  rw [e_isIn, bd_s, hq, if_pos (by decide)]
/-! set -/
def canS (w : Arr) (j who v : Nat) : Bool := if j = 0 then decide (v ≤ 1000) else if j ≤ 3 then decide (who < zh w) && decide (v ≤ 9) else if j = 4 then decide (who < zd w) && decide (v ≤ 9) else if j = 5 then decide (who < zd w) && decide (v ≤ 99) else false
def setI (j who : Nat) : Nat := if j = 0 then 39 else if j ≤ 3 then heaI (j - 1) + who else if j = 4 then 81 + who else 21 + who
theorem inb_dec {x n : Nat} (hx : x < 2 ^ 31) (hn : n < 2 ^ 31) : inb (nI x) n = decide (x < n) := by
  by_cases q : x < n
  · rw [inb_nI q (by omega), decide_eq_true q]
  · rw [inb_no (Or.inr (nI_le (by omega) (by omega))) (by omega), decide_eq_false q]
theorem e_canS {v : Nat} (hw : m 124 = w) (W0 : WFc w) (hj : j ≤ 6) (hi : i < 2 ^ 31) (hv : v < 2 ^ 31) : f_X12_canSet N (nI j) (nI i) (nI v) m = some (b2i (canS w j i v), m) := by
  have lh := W0.lzh
  have ld := W0.lzd
  unfold f_X12_canSet
  simp only [li_0, li_1, li_2, li_3, li_4, li_5, li_6, li_7, li_8, li_9, li_10, li_11, li_12, li_13, li_14, li_15, li_16, li_17, li_18, li_19, li_20, li_21, li_22, li_23, li_24, li_25, li_26, li_27, li_28, li_29, li_30, li_31, li_32, li_37, li_38, li_39, li_40, li_41, li_42, li_43, li_44, li_45, li_46, li_47, li_48, li_49, li_50, li_57, li_59, li_60, li_61, li_62, li_63, li_64, li_65, li_69, li_81, li_89, li_90, li_92, li_97, li_99, li_100, li_101, li_103, li_104, li_105, li_106, li_108, li_111, li_112, li_113, li_114, li_115, li_116, li_117, li_119, li_122, li_123, li_124, li_125, li_126, li_127, li_128, li_129, li_130, li_131, li_132, li_133, li_134, li_135, li_136, li_137, li_140, li_141, li_142, li_143, li_145, li_147, li_150, li_153, li_159, li_160, li_161, li_162, li_185, li_197, li_213, li_222, li_223, li_255, li_256, li_257, li_258, li_259, li_260, li_261, li_262, li_263, li_264, li_271, li_272, li_273, li_274, li_275, li_276, li_277, li_278, li_300, li_400, li_420, li_500, li_802, li_820, li_823, li_839, li_855, li_871, li_887, li_999, li_1000, li_1001, li_1002, li_1003, li_1004, li_1005, li_1006, li_1007, li_1008, li_1009, li_1010, li_1011, li_1012, li_1013, li_1014, li_1015, li_1016, li_1017, li_1018, li_1019, li_1020, li_1021, li_1022, li_1023, li_1707, li_4096, li_9999, li_65536, li_100000, li_1000000, li_1664525, li_100000000, li_252645135, li_858993459, li_1000000007, li_1013904223, li_1431655765, li_m1]
  have r1 : ∀ {l x hi : Nat}, x < 2 ^ 31 → l < 2 ^ 31 → hi < 2 ^ 31 → decide (nI l ≤ nI x ∧ nI x ≤ nI hi) = decide (l ≤ x ∧ x ≤ hi) := fun a b c => rng_is a b c
  simp only [e_isIn, bd_s, e_isHearer hw W0, e_isDeed hw W0, isB_b2i, chk_t]
  rw [inb_dec hi (by omega), inb_dec hi (by omega), r1 hv (show 0 < 2 ^ 31 by decide) (show 1000 < 2 ^ 31 by decide), r1 (by omega) (show 1 < 2 ^ 31 by decide) (show 3 < 2 ^ 31 by decide), r1 hv (show 0 < 2 ^ 31 by decide) (show 9 < 2 ^ 31 by decide), r1 hv (show 0 < 2 ^ 31 by decide) (show 99 < 2 ^ 31 by decide)]
  simp only [Nat.zero_le, true_and]
  unfold canS
  match j, hj with
  | 0, _ => rfl
  | 1, _ => cases decide (i < zh w) <;> cases decide (v ≤ 9) <;> rfl
  | 2, _ =>
    cases decide (i < zh w) <;> cases decide (v ≤ 9) <;> rfl
  | 3, _ =>
    cases decide (i < zh w) <;> cases decide (v ≤ 9) <;> rfl
  | 4, _ =>
    cases decide (i < zd w) <;> cases decide (v ≤ 9) <;> rfl
  | 5, _ =>
    cases decide (i < zd w) <;> cases decide (v ≤ 99) <;> rfl
  | 6, _ =>
    cases decide (i < zd w) <;> rfl
  | j + 7, hj => exact absurd hj (by omega)
theorem m_setN {v : Nat} (hw : m 124 = w) (W0 : WFc w) (hj : j ≤ 6) (hi : i < 2 ^ 31) (hv : v < 2 ^ 31) (hc : canS w j i v = false) : f_X12_set N (nI j) (nI i) (nI v) m = some (0, m) := by
  unfold f_X12_set
  rw [e_canS hw W0 hj hi hv, hc, bd_s, if_pos (by decide)]
theorem m_setY {v : Nat} (hw : m 124 = w) (W0 : WFc w) (hj : j ≤ 6) (hi : i < 2 ^ 31) (hv : v < 2 ^ 31) (hc : canS w j i v = true) : Wp (f_X12_set N (nI j) (nI i) (nI v) m) (fun x m' => x = 1 ∧ AcM (upd w (setI j i) (nI v)) 0 f m m') := by
  have lh := W0.lzh
  have ld := W0.lzd
  unfold f_X12_set
  rw [e_canS hw W0 hj hi hv, hc, bd_s, if_neg (by decide)]
  have fin : ∀ z, z < 1707 → z = setI j i → Wp (chk (inb (nI z) 1707) <| bnd (mset m 124 (nI z).toNatClampNeg (nI v)) fun m_68 => bd (f_X12_forgets N m_68) fun _ m_103 => some (1, m_103)) (fun x m' => x = 1 ∧ AcM (upd w (setI j i) (nI v)) 0 f m m') := by
    rintro z hz rfl
    rw [inb_nI hz (by omega), chk_t, nI_clamp (by omega), bnd_s, e_forgets, bd_s]
    refine wp_ret ⟨rfl, ?_, PaM.zero (mset_at _ _ _ _), ?_⟩
    · rw [mset_ne (by decide), mset_eq, hw]
    · rw [mset_j (by decide), mset_k (by decide)]
  unfold canS at hc
  have hh3 : ∀ q, q < 3 → 45 + 12 * q = heaI q ∧ heaI q ≤ 69 := by decide
  simp only [li_0, li_1, li_2, li_3, li_4, li_5, li_6, li_7, li_8, li_9, li_10, li_11, li_12, li_13, li_14, li_15, li_16, li_17, li_18, li_19, li_20, li_21, li_22, li_23, li_24, li_25, li_26, li_27, li_28, li_29, li_30, li_31, li_32, li_37, li_38, li_39, li_40, li_41, li_42, li_43, li_44, li_45, li_46, li_47, li_48, li_49, li_50, li_57, li_59, li_60, li_61, li_62, li_63, li_64, li_65, li_69, li_81, li_89, li_90, li_92, li_97, li_99, li_100, li_101, li_103, li_104, li_105, li_106, li_108, li_111, li_112, li_113, li_114, li_115, li_116, li_117, li_119, li_122, li_123, li_124, li_125, li_126, li_127, li_128, li_129, li_130, li_131, li_132, li_133, li_134, li_135, li_136, li_137, li_140, li_141, li_142, li_143, li_145, li_147, li_150, li_153, li_159, li_160, li_161, li_162, li_185, li_197, li_213, li_222, li_223, li_255, li_256, li_257, li_258, li_259, li_260, li_261, li_262, li_263, li_264, li_271, li_272, li_273, li_274, li_275, li_276, li_277, li_278, li_300, li_400, li_420, li_500, li_802, li_820, li_823, li_839, li_855, li_871, li_887, li_999, li_1000, li_1001, li_1002, li_1003, li_1004, li_1005, li_1006, li_1007, li_1008, li_1009, li_1010, li_1011, li_1012, li_1013, li_1014, li_1015, li_1016, li_1017, li_1018, li_1019, li_1020, li_1021, li_1022, li_1023, li_1707, li_4096, li_9999, li_65536, li_100000, li_1000000, li_1664525, li_100000000, li_252645135, li_858993459, li_1000000007, li_1013904223, li_1431655765, li_m1] at fin ⊢
  match j, hj with
  | 0, _ =>
    rw [if_pos rfl, bnd_s, e_forgets, bd_s]
    refine wp_ret ⟨rfl, ?_, PaM.zero (mset_at _ _ _ _), ?_⟩
    · rw [mset_ne (by decide), mset_eq, hw]
      rfl
    · rw [mset_j (by decide), mset_k (by decide)]
  | 1, _ =>
    rw [if_neg (by decide), if_pos (by decide), Bool.and_eq_true, decide_eq_true_eq] at hc
    rw [if_neg (by decide), if_neg (by decide), if_neg (by decide), show nI 1 - nI 1 = nI 0 from rfl]
    simp only [pk_mul, nI_add]
    exact fin _ (by omega) rfl
  | 2, _ =>
    rw [if_neg (by decide), if_pos (by decide), Bool.and_eq_true, decide_eq_true_eq] at hc
    rw [if_neg (by decide), if_neg (by decide), if_neg (by decide), show nI 2 - nI 1 = nI 1 from rfl]
    simp only [pk_mul, nI_add]
    exact fin _ (by omega) rfl
  | 3, _ =>
    rw [if_neg (by decide), if_pos (by decide), Bool.and_eq_true, decide_eq_true_eq] at hc
    rw [if_neg (by decide), if_neg (by decide), if_neg (by decide), show nI 3 - nI 1 = nI 2 from rfl]
    simp only [pk_mul, nI_add]
    exact fin _ (by omega) rfl
  | 4, _ =>
    rw [if_neg (by decide), if_neg (by decide), if_pos rfl, Bool.and_eq_true, decide_eq_true_eq] at hc
    rw [if_neg (by decide), if_pos rfl]
    simp only [nI_add]
    exact fin _ (by omega) rfl
  | 5, _ =>
    rw [if_neg (by decide), if_neg (by decide), if_neg (by decide), if_pos rfl, Bool.and_eq_true, decide_eq_true_eq] at hc
    rw [if_neg (by decide), if_neg (by decide), if_pos rfl]
    simp only [nI_add]
    exact fin _ (by omega) rfl
  | 6, _ => cases hc
  | j + 7, hj => exact absurd hj (by omega)
end ACTSM
