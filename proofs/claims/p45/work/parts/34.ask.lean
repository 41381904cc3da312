/-! questions about what is: pairs -/
section ASK
variable {w w' : Arr} {LN : List Lin} {m m' m2 : Mem} {N : Nat}
theorem swt_lo {α : Type} {a : Int32} {c : Int} {xs : List α} {z : α} (h : a < 0) (hc : 0 ≤ c) : swt (a.toInt - c) xs z = z := by
  have : a.toInt < 0 := Int32.lt_iff_toInt_lt.mp h
  exact swt_no (Or.inl (by omega))
theorem swt_hi {α : Type} {a : Int32} {c : Int} {n : Nat} {xs : List α} {z : α} (h : nI n ≤ a) (hn : n < 2 ^ 31) (hl : (xs.length : Int) + c ≤ n) : swt (a.toInt - c) xs z = z := by
  have : (nI n).toInt ≤ a.toInt := Int32.le_iff_toInt_le.mp h
  rw [nI_toInt hn] at this
  exact swt_no (Or.inr (by omega))
theorem swt_mi {α : Type} {j c : Nat} {xs : List α} {z x : α} (hj : j < 2 ^ 31) (hc : c ≤ j) (hx : xs[j - c]? = some x) : swt ((nI j).toInt - c) xs z = x := swt_at (j - c) (by rw [nI_toInt hj]; omega) hx
theorem e_isHearer {a : Int32} (hm : m 124 = w) (W0 : WFc w) : f_X12_isHearer N a m = some (b2i (inb a (zh w)), m) := by
  have l := W0.lzh
  unfold f_X12_isHearer
  simp only [li_0, li_1, li_2, li_3, li_4, li_5, li_6, li_7, li_8, li_9, li_10, li_11, li_12, li_13, li_14, li_15, li_16, li_17, li_18, li_19, li_20, li_21, li_22, li_23, li_24, li_25, li_26, li_27, li_28, li_29, li_30, li_31, li_32, li_37, li_38, li_39, li_40, li_41, li_42, li_43, li_44, li_45, li_46, li_47, li_48, li_49, li_50, li_57, li_59, li_60, li_61, li_62, li_63, li_64, li_65, li_69, li_81, li_89, li_90, li_92, li_97, li_99, li_100, li_101, li_103, li_104, li_105, li_106, li_108, li_111, li_112, li_113, li_114, li_115, li_116, li_117, li_119, li_122, li_123, li_124, li_125, li_126, li_127, li_128, li_129, li_130, li_131, li_132, li_133, li_134, li_135, li_136, li_137, li_140, li_141, li_142, li_143, li_145, li_147, li_150, li_153, li_159, li_160, li_161, li_162, li_185, li_197, li_213, li_222, li_223, li_255, li_256, li_257, li_258, li_259, li_260, li_261, li_262, li_263, li_264, li_271, li_272, li_273, li_274, li_275, li_276, li_277, li_278, li_300, li_400, li_420, li_500, li_802, li_820, li_823, li_839, li_855, li_871, li_887, li_999, li_1000, li_1001, li_1002, li_1003, li_1004, li_1005, li_1006, li_1007, li_1008, li_1009, li_1010, li_1011, li_1012, li_1013, li_1014, li_1015, li_1016, li_1017, li_1018, li_1019, li_1020, li_1021, li_1022, li_1023, li_1707, li_4096, li_9999, li_65536, li_100000, li_1000000, li_1664525, li_100000000, li_252645135, li_858993459, li_1000000007, li_1013904223, li_1431655765, li_m1]
  rw [hm, W0.h37, e_isIn, bd_s, isB_b2i, chk_t, rng_inb (by omega)]
theorem e_isDeed {a : Int32} (hm : m 124 = w) (W0 : WFc w) : f_X12_isDeed N a m = some (b2i (inb a (zd w)), m) := by
  have l := W0.lzd
  unfold f_X12_isDeed
  simp only [li_0, li_1, li_2, li_3, li_4, li_5, li_6, li_7, li_8, li_9, li_10, li_11, li_12, li_13, li_14, li_15, li_16, li_17, li_18, li_19, li_20, li_21, li_22, li_23, li_24, li_25, li_26, li_27, li_28, li_29, li_30, li_31, li_32, li_37, li_38, li_39, li_40, li_41, li_42, li_43, li_44, li_45, li_46, li_47, li_48, li_49, li_50, li_57, li_59, li_60, li_61, li_62, li_63, li_64, li_65, li_69, li_81, li_89, li_90, li_92, li_97, li_99, li_100, li_101, li_103, li_104, li_105, li_106, li_108, li_111, li_112, li_113, li_114, li_115, li_116, li_117, li_119, li_122, li_123, li_124, li_125, li_126, li_127, li_128, li_129, li_130, li_131, li_132, li_133, li_134, li_135, li_136, li_137, li_140, li_141, li_142, li_143, li_145, li_147, li_150, li_153, li_159, li_160, li_161, li_162, li_185, li_197, li_213, li_222, li_223, li_255, li_256, li_257, li_258, li_259, li_260, li_261, li_262, li_263, li_264, li_271, li_272, li_273, li_274, li_275, li_276, li_277, li_278, li_300, li_400, li_420, li_500, li_802, li_820, li_823, li_839, li_855, li_871, li_887, li_999, li_1000, li_1001, li_1002, li_1003, li_1004, li_1005, li_1006, li_1007, li_1008, li_1009, li_1010, li_1011, li_1012, li_1013, li_1014, li_1015, li_1016, li_1017, li_1018, li_1019, li_1020, li_1021, li_1022, li_1023, li_1707, li_4096, li_9999, li_65536, li_100000, li_1000000, li_1664525, li_100000000, li_252645135, li_858993459, li_1000000007, li_1013904223, li_1431655765, li_m1]
  rw [hm, W0.h38, e_isIn, bd_s, isB_b2i, chk_t, rng_inb (by omega)]
theorem pr_rd {x y : Mem → Ans} {f : Mem → Int32} (hx : ∀ m, Inv m → x m = some (f m, m)) (hy : ∀ m, Inv m → y m = some (f m, m)) : Pr x y := by
  intro m hI
  rw [hx m hI]
  refine wp_ret ?_
  rw [hy m hI]
  exact wp_ret ⟨rfl, hI⟩
theorem pr_statute {a : Int32} (hN : 20000 ≤ N) : Pr (f_X11_statute N a) (f_X12_statute N a) := by
  refine pr_rd (f := fun m => if a = 0 then hndS (m 124) else if a = 1 then lstS (m 124) 8 (nI 9) (zs (m 124)) else if a = 2 then lstS (m 124) 10 (nI 300) (zs (m 124)) else -1) (fun m hI => ?_) (fun m hI => ?_)
  · obtain ⟨LN, H, G, -⟩ := hI
    unfold f_X11_statute
    rw [e_hands hN H G.1, e_most hN H G.1, e_end hN H G.1]
    split
    · rfl
    · split
      · rfl
      · split <;> rfl
  · obtain ⟨LN, H, G, -⟩ := hI
    unfold f_X12_statute
    rw [e_handsM hN rfl G.1, e_mostM hN rfl G.1, e_endM hN rfl G.1]
    split
    · rfl
    · split
      · rfl
      · split <;> rfl
theorem pr_book {a b : Int32} : Pr (f_X11_book N a b) (f_X12_book N a b) := by
  refine pr_rd (f := fun m => if inb a (zb (m 124)) = true ∧ inb b 4 = true then m 124 (223 + 4 * nv a + nv b) else mo1) (fun m hI => ?_) (fun m hI => ?_)
  · obtain ⟨LN, H, G, -⟩ := hI
    have l := G.1.lzb
    have e3 : m 9 3 = nI (zb (m 124)) := H.boo.1.trans G.1.h6
    unfold f_X11_book
    rcases inb_cases a (n := zb (m 124)) (by omega) with ⟨e, h⟩ | ⟨i, hi, rfl⟩
    · rw [e_atR e3 h, bd_s, if_neg (by rw [e]; exact fun z => by cases z.1)]
    · rcases inb_cases b (n := 4) (by decide) with ⟨e, h⟩ | ⟨c, hc, rfl⟩
      · rw [e_atC H.fx (show (9, 150, 4) ∈ tbs by decide) h, bd_s, if_neg (by rw [e]; exact fun z => by cases z.2)]
      · rw [e_at H.fx (show (9, 150, 4) ∈ tbs by decide) e3 (by omega) hi hc, bd_s, if_pos ⟨inb_nI hi (by omega), inb_nI hc (by decide)⟩, nv_nI (by omega), nv_nI (by omega)]
        exact congrArg (fun v => some (v, m)) (H.boo.2 i (by omega) c hc)
  · obtain ⟨LN, H, G, -⟩ := hI
    have l := G.1.lzb
    unfold f_X12_book
    simp only [li_0, li_1, li_2, li_3, li_4, li_5, li_6, li_7, li_8, li_9, li_10, li_11, li_12, li_13, li_14, li_15, li_16, li_17, li_18, li_19, li_20, li_21, li_22, li_23, li_24, li_25, li_26, li_27, li_28, li_29, li_30, li_31, li_32, li_37, li_38, li_39, li_40, li_41, li_42, li_43, li_44, li_45, li_46, li_47, li_48, li_49, li_50, li_57, li_59, li_60, li_61, li_62, li_63, li_64, li_65, li_69, li_81, li_89, li_90, li_92, li_97, li_99, li_100, li_101, li_103, li_104, li_105, li_106, li_108, li_111, li_112, li_113, li_114, li_115, li_116, li_117, li_119, li_122, li_123, li_124, li_125, li_126, li_127, li_128, li_129, li_130, li_131, li_132, li_133, li_134, li_135, li_136, li_137, li_140, li_141, li_142, li_143, li_145, li_147, li_150, li_153, li_159, li_160, li_161, li_162, li_185, li_197, li_213, li_222, li_223, li_255, li_256, li_257, li_258, li_259, li_260, li_261, li_262, li_263, li_264, li_271, li_272, li_273, li_274, li_275, li_276, li_277, li_278, li_300, li_400, li_420, li_500, li_802, li_820, li_823, li_839, li_855, li_871, li_887, li_999, li_1000, li_1001, li_1002, li_1003, li_1004, li_1005, li_1006, li_1007, li_1008, li_1009, li_1010, li_1011, li_1012, li_1013, li_1014, li_1015, li_1016, li_1017, li_1018, li_1019, li_1020, li_1021, li_1022, li_1023, li_1707, li_4096, li_9999, li_65536, li_100000, li_1000000, li_1664525, li_100000000, li_252645135, li_858993459, li_1000000007, li_1013904223, li_1431655765, li_m1]
    rw [G.1.h6, e_isIn, bd_s, rng_inb (by omega)]
    rcases inb_cases a (n := zb (m 124)) (by omega) with ⟨e, h⟩ | ⟨i, hi, rfl⟩
    · rw [e, if_pos (by decide), if_neg (fun z => by cases z.1)]
    · rw [inb_nI hi (by omega), if_neg (by decide), e_isIn, bd_s, show nI 3 = nI 4 - nI 1 from rfl, rng_inb (by decide)]
      rcases inb_cases b (n := 4) (by decide) with ⟨e, h⟩ | ⟨c, hc, rfl⟩
      · rw [e, if_pos (by decide), if_neg (fun z => by cases z.2)]
      · simp only [pk_mul, nI_add]
        rw [inb_nI hc (by decide), if_neg (by decide), inb_nI (by omega) (by omega), chk_t, nI_clamp (by omega), if_pos ⟨trivial, rfl⟩, nv_nI (by omega), nv_nI (by omega)]
theorem sub10 (x : Int32) {n : Nat} (hn : n ≤ 12) : (inb (x - nI 10) n = false ∧ ∀ j, j < n → x ≠ nI (10 + j)) ∨ ∃ j, j < n ∧ x = nI (10 + j) := by
  rcases inb_cases (x - nI 10) (n := n) (by omega) with ⟨e, h⟩ | ⟨k, hk, e⟩
  · refine Or.inl ⟨e, fun j hj hx => ?_⟩
    rw [hx, pk_sub (by omega), Nat.add_sub_cancel_left, inb_nI hj (by omega)] at e
    cases e
  · refine Or.inr ⟨k, hk, ?_⟩
    have : x - nI 10 + nI 10 = nI k + nI 10 := by rw [e]
    rw [Int32.sub_add_cancel, nI_add] at this
    rw [this, Nat.add_comm]
theorem pr_look {a : Int32} (hN : 20000 ≤ N) : Pr (f_X11_look N a) (f_X12_look N a) := by
  intro m hI
  obtain ⟨LN, H, G, ⟨k, p, hk, hp, e2, e1, e3, hs⟩, -⟩ := id hI
  unfold f_X11_look f_X11_look_J22
  have fin : ∀ v : Int32, f_X12_look N a m = some (v, m) → Wp (f_X12_look N a m) (fun v2 m2 => v = v2 ∧ Inv m2) := by
    intro v hv
    rw [hv]
    exact wp_ret ⟨rfl, hI⟩
  unfold f_X12_look at fin
  rcases pk_ix a (n := 17) (by decide) with h | h | ⟨j, hj, rfl⟩
  · rw [if_pos (show a < 2 from Int32.lt_trans h (by decide))]
    refine wp_eq (swt_lo h (by decide)) ?_
    exact wp_ret (fin _ (swt_lo h (by decide)))
  · rw [if_neg (show ¬ a < 2 from fun z => absurd (Int32.lt_of_lt_of_le z (show (2 : Int32) ≤ nI 17 by decide)) (Int32.not_lt.mpr h)), if_pos (show (7 : Int32) < a from Int32.lt_of_lt_of_le (show (7 : Int32) < nI 17 by decide) h)]
    refine wp_eq (swt_hi h (by decide) (by simp)) ?_
    exact wp_ret (fin _ (swt_hi h (by decide) (by simp)))
  · simp only [li_0, li_1, li_2, li_3, li_4, li_5, li_6, li_7, li_8, li_9, li_10, li_11, li_12, li_13, li_14, li_15, li_16, li_17, li_18, li_19, li_20, li_21, li_22, li_23, li_24, li_25, li_26, li_27, li_28, li_29, li_30, li_31, li_32, li_37, li_38, li_39, li_40, li_41, li_42, li_43, li_44, li_45, li_46, li_47, li_48, li_49, li_50, li_57, li_59, li_60, li_61, li_62, li_63, li_64, li_65, li_69, li_81, li_89, li_90, li_92, li_97, li_99, li_100, li_101, li_103, li_104, li_105, li_106, li_108, li_111, li_112, li_113, li_114, li_115, li_116, li_117, li_119, li_122, li_123, li_124, li_125, li_126, li_127, li_128, li_129, li_130, li_131, li_132, li_133, li_134, li_135, li_136, li_137, li_140, li_141, li_142, li_143, li_145, li_147, li_150, li_153, li_159, li_160, li_161, li_162, li_185, li_197, li_213, li_222, li_223, li_255, li_256, li_257, li_258, li_259, li_260, li_261, li_262, li_263, li_264, li_271, li_272, li_273, li_274, li_275, li_276, li_277, li_278, li_300, li_400, li_420, li_500, li_802, li_820, li_823, li_839, li_855, li_871, li_887, li_999, li_1000, li_1001, li_1002, li_1003, li_1004, li_1005, li_1006, li_1007, li_1008, li_1009, li_1010, li_1011, li_1012, li_1013, li_1014, li_1015, li_1016, li_1017, li_1018, li_1019, li_1020, li_1021, li_1022, li_1023, li_1707, li_4096, li_9999, li_65536, li_100000, li_1000000, li_1664525, li_100000000, li_252645135, li_858993459, li_1000000007, li_1013904223, li_1431655765, li_m1] at fin ⊢
    have hh : ∀ c, c < 7 → f_X1_hour N (nI c) m = some (m 124 (houI c), m) := fun c hc => hr_hour H hc
    have t3 := e_those3 hN H G.1
    match j, hj with
    | 0, _ =>
      rw [if_pos (by decide)]
      exact wp_ret (by rw [H.hea.1]; exact fin _ rfl)
    | 1, _ =>
      rw [if_pos (by decide)]
      exact wp_ret (by rw [H.dee.1]; exact fin _ rfl)
    | 2, _ => rw [if_neg (by decide), if_neg (by decide), show nI 2 - nI 2 = nI 0 from rfl, hh 0 (by decide), bd_s]; exact wp_ret (fin _ rfl)
    | 3, _ => rw [if_neg (by decide), if_neg (by decide), show nI 3 - nI 2 = nI 1 from rfl, hh 1 (by decide), bd_s]; exact wp_ret (fin _ rfl)
    | 4, _ => rw [if_neg (by decide), if_neg (by decide), show nI 4 - nI 2 = nI 2 from rfl, hh 2 (by decide), bd_s]; exact wp_ret (fin _ rfl)
    | 5, _ => rw [if_neg (by decide), if_neg (by decide), show nI 5 - nI 2 = nI 3 from rfl, hh 3 (by decide), bd_s]; exact wp_ret (fin _ rfl)
    | 6, _ => rw [if_neg (by decide), if_neg (by decide), show nI 6 - nI 2 = nI 4 from rfl, hh 4 (by decide), bd_s]; exact wp_ret (fin _ rfl)
    | 7, _ => rw [if_neg (by decide), if_neg (by decide), show nI 7 - nI 2 = nI 5 from rfl, hh 5 (by decide), bd_s]; exact wp_ret (fin _ rfl)
    | 8, _ =>
      rw [if_neg (by decide), if_pos (by decide), t3, ← G.1.h7.1]
      exact wp_ret (fin _ rfl)
    | 9, _ =>
      rw [if_neg (by decide), if_pos (by decide)]
      exact wp_ret (by rw [H.boo.1]; exact fin _ rfl)
    | 10, _ =>
      rw [if_neg (by decide), if_pos (by decide), hh 6 (by decide)]
      exact wp_ret (fin _ rfl)
    | 11, _ =>
      obtain ⟨LN1, -, G1⟩ := (show ∃ LN1, LN1 = LN ∧ lawW (m 124) LN1 from ⟨LN, rfl, G.2.2⟩)
      rw [if_neg (by decide), if_pos (by decide)]
      exact wp_ret (by rw [H.lawc.1, ← G.2.2.1]; exact fin _ rfl)
    | 12, _ =>
      rw [if_neg (by decide), if_pos (by decide)]
      exact wp_ret (by rw [H.sta.1]; exact fin _ rfl)
    | 13, _ =>
      rw [if_neg (by decide), if_pos (by decide)]
      exact wp_ret (by rw [H.pro.1]; exact fin _ rfl)
    | 14, _ =>
      rw [if_neg (by decide), if_pos (by decide)]
      exact wp_ret (by rw [H.gal]; exact fin _ rfl)
    | 15, _ =>
      rw [if_neg (by decide), if_pos (by decide)]
      exact wp_ret (by rw [H.cla.1]; exact fin _ rfl)
    | 16, _ =>
      rw [if_neg (by decide), if_pos (by decide)]
      exact wp_ret (by rw [e2, ← e3]; exact fin _ rfl)
    | j + 17, hj => exact absurd hj (by omega)
theorem pr_of {a b : Int32} (hN : 20000 ≤ N) : Pr (f_X11_of N a b) (f_X12_of N a b) := by
  intro m hI
  obtain ⟨LN, H, G, -⟩ := id hI
  have lh := G.1.lzh
  have ld := G.1.lzd
  unfold f_X11_of
  simp only [li_0, li_1, li_2, li_3, li_4, li_5, li_6, li_7, li_8, li_9, li_10, li_11, li_12, li_13, li_14, li_15, li_16, li_17, li_18, li_19, li_20, li_21, li_22, li_23, li_24, li_25, li_26, li_27, li_28, li_29, li_30, li_31, li_32, li_37, li_38, li_39, li_40, li_41, li_42, li_43, li_44, li_45, li_46, li_47, li_48, li_49, li_50, li_57, li_59, li_60, li_61, li_62, li_63, li_64, li_65, li_69, li_81, li_89, li_90, li_92, li_97, li_99, li_100, li_101, li_103, li_104, li_105, li_106, li_108, li_111, li_112, li_113, li_114, li_115, li_116, li_117, li_119, li_122, li_123, li_124, li_125, li_126, li_127, li_128, li_129, li_130, li_131, li_132, li_133, li_134, li_135, li_136, li_137, li_140, li_141, li_142, li_143, li_145, li_147, li_150, li_153, li_159, li_160, li_161, li_162, li_185, li_197, li_213, li_222, li_223, li_255, li_256, li_257, li_258, li_259, li_260, li_261, li_262, li_263, li_264, li_271, li_272, li_273, li_274, li_275, li_276, li_277, li_278, li_300, li_400, li_420, li_500, li_802, li_820, li_823, li_839, li_855, li_871, li_887, li_999, li_1000, li_1001, li_1002, li_1003, li_1004, li_1005, li_1006, li_1007, li_1008, li_1009, li_1010, li_1011, li_1012, li_1013, li_1014, li_1015, li_1016, li_1017, li_1018, li_1019, li_1020, li_1021, li_1022, li_1023, li_1707, li_4096, li_9999, li_65536, li_100000, li_1000000, li_1664525, li_100000000, li_252645135, li_858993459, li_1000000007, li_1013904223, li_1431655765, li_m1]
  rw [hr_hasH H G.1, bd_s]
  have hM : ∀ m1 : Mem, m1 124 = m 124 → f_X12_of N a b m1 = if b2i (inb a (zh (m 124))) = nI 0 then some (mo1, m1) else (swt (Int32.toInt b - (3)) [(bd (f_X12_isThere N a m1) fun r_46 m_46 => if r_46 = 0 then (some (0, m_46)) else (some (1, m_46))),
      (bd (f_X12_isGloved N a m1) fun r_60 m_60 => if r_60 = 0 then (some (0, m_60)) else (some (1, m_60))), (chk (inb ((9 : Int32) + a) 1707) <| some (m1 124 ((9 : Int32) + a).toNatClampNeg, m1)), (chk (inb ((185 : Int32) + a) 1707) <| some (m1 124 ((185 : Int32) + a).toNatClampNeg, m1)),
      (bd (f_X12_countsAs N a m1) fun r_95 m_95 => some (r_95, m_95))] (bd (f_X12_isIn N b 0 2 m1) fun r_102 m_102 => if r_102 = 0 then (bd (f_X12_isDeed N (b - (10 : Int32)) m_102) fun r_128 m_128 => if r_128 = 0 then (some ((-1), m_128)) else (bd (f_X12_clapOf N a (b - (10 : Int32)) 0 m_128) fun r_141 m_141 => some (r_141, m_141)))
        else (chk (inb (((45 : Int32) + ((12 : Int32) * b)) + a) 1707) <| some (m_102 124 (((45 : Int32) + ((12 : Int32) * b)) + a).toNatClampNeg, m_102)))) := by
    intro m1 h1
    unfold f_X12_of
    rw [e_isHearer h1 G.1, bd_s]
    rfl
  rcases inb_cases a (n := zh (m 124)) (by omega) with ⟨e, -⟩ | ⟨h, hh, rfl⟩
  · rw [e, if_pos (by decide)]
    refine wp_ret ?_
    rw [hM m rfl, e, if_pos (by decide)]
    exact wp_ret ⟨rfl, hI⟩
  · rw [inb_nI hh (by omega), if_neg (by decide)]
    rw [inb_nI hh (by omega)] at hM
    rcases sub10 b (n := zd (m 124)) (by omega) with ⟨e, hne⟩ | ⟨d, hd, rfl⟩
    · refine wp_ite (fun q => ?_) (fun q => ?_)
      · rw [hr_hasD H G.1, e, bd_s, if_pos (by decide)]
        refine wp_ret ?_
        rw [hM m rfl, if_neg (by decide)]
        refine wp_eq (swt_hi (n := 10) q (by decide) (by simp)) ?_
        simp only [li_0, li_1, li_2, li_3, li_4, li_5, li_6, li_7, li_8, li_9, li_10, li_11, li_12, li_13, li_14, li_15, li_16, li_17, li_18, li_19, li_20, li_21, li_22, li_23, li_24, li_25, li_26, li_27, li_28, li_29, li_30, li_31, li_32, li_37, li_38, li_39, li_40, li_41, li_42, li_43, li_44, li_45, li_46, li_47, li_48, li_49, li_50, li_57, li_59, li_60, li_61, li_62, li_63, li_64, li_65, li_69, li_81, li_89, li_90, li_92, li_97, li_99, li_100, li_101, li_103, li_104, li_105, li_106, li_108, li_111, li_112, li_113, li_114, li_115, li_116, li_117, li_119, li_122, li_123, li_124, li_125, li_126, li_127, li_128, li_129, li_130, li_131, li_132, li_133, li_134, li_135, li_136, li_137, li_140, li_141, li_142, li_143, li_145, li_147, li_150, li_153, li_159, li_160, li_161, li_162, li_185, li_197, li_213, li_222, li_223, li_255, li_256, li_257, li_258, li_259, li_260, li_261, li_262, li_263, li_264, li_271, li_272, li_273, li_274, li_275, li_276, li_277, li_278, li_300, li_400, li_420, li_500, li_802, li_820, li_823, li_839, li_855, li_871, li_887, li_999, li_1000, li_1001, li_1002, li_1003, li_1004, li_1005, li_1006, li_1007, li_1008, li_1009, li_1010, li_1011, li_1012, li_1013, li_1014, li_1015, li_1016, li_1017, li_1018, li_1019, li_1020, li_1021, li_1022, li_1023, li_1707, li_4096, li_9999, li_65536, li_100000, li_1000000, li_1664525, li_100000000, li_252645135, li_858993459, li_1000000007, li_1013904223, li_1431655765, li_m1]
        rw [e_isIn, bd_s, decide_eq_false (fun z => absurd (Int32.le_trans q z.2) (by decide)), if_pos (by decide), e_isDeed rfl G.1, e, bd_s, if_pos (by decide)]
        exact wp_ret ⟨rfl, hI⟩
      · have hq : b < nI 10 := Int32.not_le.mp q
        rcases pk_ix b (n := 10) (by decide) with hb | hb | ⟨j, hj, rfl⟩
        · rw [e_atC H.fx (show (3, 12, 8) ∈ tbs by decide) (Or.inl hb), bd_s]
          refine wp_ret ?_
          rw [hM m rfl, if_neg (by decide)]
          refine wp_eq (swt_lo hb (by decide)) ?_
          simp only [li_0, li_1, li_2, li_3, li_4, li_5, li_6, li_7, li_8, li_9, li_10, li_11, li_12, li_13, li_14, li_15, li_16, li_17, li_18, li_19, li_20, li_21, li_22, li_23, li_24, li_25, li_26, li_27, li_28, li_29, li_30, li_31, li_32, li_37, li_38, li_39, li_40, li_41, li_42, li_43, li_44, li_45, li_46, li_47, li_48, li_49, li_50, li_57, li_59, li_60, li_61, li_62, li_63, li_64, li_65, li_69, li_81, li_89, li_90, li_92, li_97, li_99, li_100, li_101, li_103, li_104, li_105, li_106, li_108, li_111, li_112, li_113, li_114, li_115, li_116, li_117, li_119, li_122, li_123, li_124, li_125, li_126, li_127, li_128, li_129, li_130, li_131, li_132, li_133, li_134, li_135, li_136, li_137, li_140, li_141, li_142, li_143, li_145, li_147, li_150, li_153, li_159, li_160, li_161, li_162, li_185, li_197, li_213, li_222, li_223, li_255, li_256, li_257, li_258, li_259, li_260, li_261, li_262, li_263, li_264, li_271, li_272, li_273, li_274, li_275, li_276, li_277, li_278, li_300, li_400, li_420, li_500, li_802, li_820, li_823, li_839, li_855, li_871, li_887, li_999, li_1000, li_1001, li_1002, li_1003, li_1004, li_1005, li_1006, li_1007, li_1008, li_1009, li_1010, li_1011, li_1012, li_1013, li_1014, li_1015, li_1016, li_1017, li_1018, li_1019, li_1020, li_1021, li_1022, li_1023, li_1707, li_4096, li_9999, li_65536, li_100000, li_1000000, li_1664525, li_100000000, li_252645135, li_858993459, li_1000000007, li_1013904223, li_1431655765, li_m1]
          rw [e_isIn, bd_s, decide_eq_false (fun z => Int32.not_lt.mpr z.1 hb), if_pos (by decide), e_isDeed rfl G.1, e, bd_s, if_pos (by decide)]
          exact wp_ret ⟨rfl, hI⟩
        · exact absurd hb q
        · by_cases h8 : j < 8
          · rw [hr_hea H G.1 hh h8, bd_s]
            refine wp_ret ?_
            rw [hM m rfl, if_neg (by decide)]
            rw [e_there rfl G.1 (by omega), e_gloved rfl G.1 (by omega), e_counts hN rfl G.1 (by omega), e_isIn]
            simp only [li_0, li_1, li_2, li_3, li_4, li_5, li_6, li_7, li_8, li_9, li_10, li_11, li_12, li_13, li_14, li_15, li_16, li_17, li_18, li_19, li_20, li_21, li_22, li_23, li_24, li_25, li_26, li_27, li_28, li_29, li_30, li_31, li_32, li_37, li_38, li_39, li_40, li_41, li_42, li_43, li_44, li_45, li_46, li_47, li_48, li_49, li_50, li_57, li_59, li_60, li_61, li_62, li_63, li_64, li_65, li_69, li_81, li_89, li_90, li_92, li_97, li_99, li_100, li_101, li_103, li_104, li_105, li_106, li_108, li_111, li_112, li_113, li_114, li_115, li_116, li_117, li_119, li_122, li_123, li_124, li_125, li_126, li_127, li_128, li_129, li_130, li_131, li_132, li_133, li_134, li_135, li_136, li_137, li_140, li_141, li_142, li_143, li_145, li_147, li_150, li_153, li_159, li_160, li_161, li_162, li_185, li_197, li_213, li_222, li_223, li_255, li_256, li_257, li_258, li_259, li_260, li_261, li_262, li_263, li_264, li_271, li_272, li_273, li_274, li_275, li_276, li_277, li_278, li_300, li_400, li_420, li_500, li_802, li_820, li_823, li_839, li_855, li_871, li_887, li_999, li_1000, li_1001, li_1002, li_1003, li_1004, li_1005, li_1006, li_1007, li_1008, li_1009, li_1010, li_1011, li_1012, li_1013, li_1014, li_1015, li_1016, li_1017, li_1018, li_1019, li_1020, li_1021, li_1022, li_1023, li_1707, li_4096, li_9999, li_65536, li_100000, li_1000000, li_1664525, li_100000000, li_252645135, li_858993459, li_1000000007, li_1013904223, li_1431655765, li_m1, pk_mul, nI_add, bd_s]
            rw [inb_nI (show 9 + h < 1707 by omega) (by omega), inb_nI (show 185 + h < 1707 by omega) (by omega), chk_t, chk_t, nI_clamp (show 9 + h < 2 ^ 31 by omega), nI_clamp (show 185 + h < 2 ^ 31 by omega)]
            match j, h8 with
            | 0, _ => rw [swt_no (Or.inl (by decide)), show decide (nI 0 ≤ nI 0 ∧ nI 0 ≤ nI 2) = true by decide, if_neg (by decide), inb_nI (by omega) (by omega), chk_t, nI_clamp (by omega)]; exact wp_ret ⟨rfl, hI⟩
            | 1, _ => rw [swt_no (Or.inl (by decide)), show decide (nI 0 ≤ nI 1 ∧ nI 1 ≤ nI 2) = true by decide, if_neg (by decide), inb_nI (by omega) (by omega), chk_t, nI_clamp (by omega)]; exact wp_ret ⟨rfl, hI⟩
            | 2, _ => rw [swt_no (Or.inl (by decide)), show decide (nI 0 ≤ nI 2 ∧ nI 2 ≤ nI 2) = true by decide, if_neg (by decide), inb_nI (by omega) (by omega), chk_t, nI_clamp (by omega)]; exact wp_ret ⟨rfl, hI⟩
            | 3, _ =>
              rw [swt_at 0 (by decide) rfl, show heaV (m 124) h 3 = b2i ((zt (m 124)).testBit h) from rfl]
              cases (zt (m 124)).testBit h
              · rw [if_pos (by decide)]; exact wp_ret ⟨rfl, hI⟩
              · rw [if_neg (by decide)]; exact wp_ret ⟨rfl, hI⟩
            | 4, _ =>
              rw [swt_at 1 (by decide) rfl, show heaV (m 124) h 4 = b2i ((zv (m 124)).testBit h) from rfl]
              cases (zv (m 124)).testBit h
              · rw [if_pos (by decide)]; exact wp_ret ⟨rfl, hI⟩
              · rw [if_neg (by decide)]; exact wp_ret ⟨rfl, hI⟩
            | 5, _ => rw [swt_at 2 (by decide) rfl]; exact wp_ret ⟨rfl, hI⟩
            | 6, _ => rw [swt_at 3 (by decide) rfl]; exact wp_ret ⟨rfl, hI⟩
            | 7, _ => rw [swt_at 4 (by decide) rfl]; exact wp_ret ⟨rfl, hI⟩
          · rw [e_atC H.fx (show (3, 12, 8) ∈ tbs by decide) (Or.inr (nI_le (by omega) (by omega))), bd_s]
            refine wp_ret ?_
            rw [hM m rfl, if_neg (by decide)]
            refine wp_eq (swt_hi (n := 8) (nI_le (by omega) (by omega)) (by decide) (by simp)) ?_
            simp only [li_0, li_1, li_2, li_3, li_4, li_5, li_6, li_7, li_8, li_9, li_10, li_11, li_12, li_13, li_14, li_15, li_16, li_17, li_18, li_19, li_20, li_21, li_22, li_23, li_24, li_25, li_26, li_27, li_28, li_29, li_30, li_31, li_32, li_37, li_38, li_39, li_40, li_41, li_42, li_43, li_44, li_45, li_46, li_47, li_48, li_49, li_50, li_57, li_59, li_60, li_61, li_62, li_63, li_64, li_65, li_69, li_81, li_89, li_90, li_92, li_97, li_99, li_100, li_101, li_103, li_104, li_105, li_106, li_108, li_111, li_112, li_113, li_114, li_115, li_116, li_117, li_119, li_122, li_123, li_124, li_125, li_126, li_127, li_128, li_129, li_130, li_131, li_132, li_133, li_134, li_135, li_136, li_137, li_140, li_141, li_142, li_143, li_145, li_147, li_150, li_153, li_159, li_160, li_161, li_162, li_185, li_197, li_213, li_222, li_223, li_255, li_256, li_257, li_258, li_259, li_260, li_261, li_262, li_263, li_264, li_271, li_272, li_273, li_274, li_275, li_276, li_277, li_278, li_300, li_400, li_420, li_500, li_802, li_820, li_823, li_839, li_855, li_871, li_887, li_999, li_1000, li_1001, li_1002, li_1003, li_1004, li_1005, li_1006, li_1007, li_1008, li_1009, li_1010, li_1011, li_1012, li_1013, li_1014, li_1015, li_1016, li_1017, li_1018, li_1019, li_1020, li_1021, li_1022, li_1023, li_1707, li_4096, li_9999, li_65536, li_100000, li_1000000, li_1664525, li_100000000, li_252645135, li_858993459, li_1000000007, li_1013904223, li_1431655765, li_m1]
            rw [e_isIn, bd_s, rng_is (by omega) (by decide) (by decide), decide_eq_false (by omega), if_pos (by decide), e_isDeed rfl G.1, e, bd_s, if_pos (by decide)]
            exact wp_ret ⟨rfl, hI⟩
    · rw [if_pos (nI_le (by omega) (by omega)), pk_sub (by omega), Nat.add_sub_cancel_left, hr_hasD H G.1, inb_nI hd (by omega), bd_s, if_neg (by decide)]
      refine wp_bind (w_clap hN H G.1 hh hd) ?_
      rintro v m1 ⟨rfl, f1⟩
      have e124 : m1 124 = m 124 := f1.at 124 (by decide)
      refine wp_ret ?_
      rw [hM m1 e124, if_neg (by decide)]
      refine wp_eq (swt_hi (n := 10) (nI_le (by omega) (by omega)) (by decide) (by simp)) ?_
      simp only [li_0, li_1, li_2, li_3, li_4, li_5, li_6, li_7, li_8, li_9, li_10, li_11, li_12, li_13, li_14, li_15, li_16, li_17, li_18, li_19, li_20, li_21, li_22, li_23, li_24, li_25, li_26, li_27, li_28, li_29, li_30, li_31, li_32, li_37, li_38, li_39, li_40, li_41, li_42, li_43, li_44, li_45, li_46, li_47, li_48, li_49, li_50, li_57, li_59, li_60, li_61, li_62, li_63, li_64, li_65, li_69, li_81, li_89, li_90, li_92, li_97, li_99, li_100, li_101, li_103, li_104, li_105, li_106, li_108, li_111, li_112, li_113, li_114, li_115, li_116, li_117, li_119, li_122, li_123, li_124, li_125, li_126, li_127, li_128, li_129, li_130, li_131, li_132, li_133, li_134, li_135, li_136, li_137, li_140, li_141, li_142, li_143, li_145, li_147, li_150, li_153, li_159, li_160, li_161, li_162, li_185, li_197, li_213, li_222, li_223, li_255, li_256, li_257, li_258, li_259, li_260, li_261, li_262, li_263, li_264, li_271, li_272, li_273, li_274, li_275, li_276, li_277, li_278, li_300, li_400, li_420, li_500, li_802, li_820, li_823, li_839, li_855, li_871, li_887, li_999, li_1000, li_1001, li_1002, li_1003, li_1004, li_1005, li_1006, li_1007, li_1008, li_1009, li_1010, li_1011, li_1012, li_1013, li_1014, li_1015, li_1016, li_1017, li_1018, li_1019, li_1020, li_1021, li_1022, li_1023, li_1707, li_4096, li_9999, li_65536, li_100000, li_1000000, li_1664525, li_100000000, li_252645135, li_858993459, li_1000000007, li_1013904223, li_1431655765, li_m1]
      rw [e_isIn, bd_s, rng_is (by omega) (by decide) (by decide), decide_eq_false (by omega), if_pos (by decide), pk_sub (by omega), Nat.add_sub_cancel_left, e_isDeed e124 G.1, inb_nI hd (by omega), bd_s, if_neg (by decide)]
      refine wp_bind (w_clapM hN e124 (by omega) (by omega) G.2.2 H.lawk) ?_
      rintro v m3 ⟨rfl, f3⟩
      refine wp_ret ⟨rfl, ?_⟩
      exact hI.q1 (S := [(111, 112), (132, 133)]) ((f1.mono (by decide)).trans (f3.mono (by decide))) (by decide +kernel) (by decide) (by decide)
theorem pr_deedOf {a b : Int32} (hN : 20000 ≤ N) : Pr (f_X11_deedOf N a b) (f_X12_deedOf N a b) := by
  intro m hI
  obtain ⟨LN, H, G, -⟩ := id hI
  have ld := G.1.lzd
  unfold f_X11_deedOf
  simp only [li_0, li_1, li_2, li_3, li_4, li_5, li_6, li_7, li_8, li_9, li_10, li_11, li_12, li_13, li_14, li_15, li_16, li_17, li_18, li_19, li_20, li_21, li_22, li_23, li_24, li_25, li_26, li_27, li_28, li_29, li_30, li_31, li_32, li_37, li_38, li_39, li_40, li_41, li_42, li_43, li_44, li_45, li_46, li_47, li_48, li_49, li_50, li_57, li_59, li_60, li_61, li_62, li_63, li_64, li_65, li_69, li_81, li_89, li_90, li_92, li_97, li_99, li_100, li_101, li_103, li_104, li_105, li_106, li_108, li_111, li_112, li_113, li_114, li_115, li_116, li_117, li_119, li_122, li_123, li_124, li_125, li_126, li_127, li_128, li_129, li_130, li_131, li_132, li_133, li_134, li_135, li_136, li_137, li_140, li_141, li_142, li_143, li_145, li_147, li_150, li_153, li_159, li_160, li_161, li_162, li_185, li_197, li_213, li_222, li_223, li_255, li_256, li_257, li_258, li_259, li_260, li_261, li_262, li_263, li_264, li_271, li_272, li_273, li_274, li_275, li_276, li_277, li_278, li_300, li_400, li_420, li_500, li_802, li_820, li_823, li_839, li_855, li_871, li_887, li_999, li_1000, li_1001, li_1002, li_1003, li_1004, li_1005, li_1006, li_1007, li_1008, li_1009, li_1010, li_1011, li_1012, li_1013, li_1014, li_1015, li_1016, li_1017, li_1018, li_1019, li_1020, li_1021, li_1022, li_1023, li_1707, li_4096, li_9999, li_65536, li_100000, li_1000000, li_1664525, li_100000000, li_252645135, li_858993459, li_1000000007, li_1013904223, li_1431655765, li_m1]
  rw [hr_hasD H G.1, bd_s]
  have hM : ∀ m1 : Mem, m1 124 = m 124 → f_X12_deedOf N a b m1 = if b2i (inb a (zd (m 124))) = nI 0 then some (mo1, m1) else (swt (Int32.toInt b - (0)) [(chk (inb ((81 : Int32) + a) 1707) <| some (m1 124 ((81 : Int32) + a).toNatClampNeg, m1)), (chk (inb ((89 : Int32) + a) 1707) <| some (m1 124 ((89 : Int32) + a).toNatClampNeg, m1)),
      (chk (inb ((97 : Int32) + a) 1707) <| some (m1 124 ((97 : Int32) + a).toNatClampNeg, m1)), (chk (inb ((21 : Int32) + a) 1707) <| some (m1 124 ((21 : Int32) + a).toNatClampNeg, m1)), (chk (inb ((29 : Int32) + a) 1707) <| some (m1 124 ((29 : Int32) + a).toNatClampNeg, m1)),
      (bd (f_X12_loudOf N a m1) fun r_104 m_104 => some (r_104, m_104)), (bd (f_X12_wearsOf N a m1) fun r_110 m_110 => some (r_110, m_110))] (some ((-1), m1))) := by
    intro m1 h1
    unfold f_X12_deedOf
    rw [e_isDeed h1 G.1, bd_s]
    rfl
  rcases inb_cases a (n := zd (m 124)) (by omega) with ⟨e, -⟩ | ⟨d, hd, rfl⟩
  · rw [e, if_pos (by decide)]
    refine wp_ret ?_
    rw [hM m rfl, e, if_pos (by decide)]
    exact wp_ret ⟨rfl, hI⟩
  · rw [inb_nI hd (by omega), if_neg (by decide)]
    rw [inb_nI hd (by omega)] at hM
    rcases pk_ix b (n := 7) (by decide) with hb | hb | ⟨j, hj, rfl⟩
    · rw [if_neg (fun z => by rw [z] at hb; exact absurd hb (by decide)), if_neg (fun z => by rw [z] at hb; exact absurd hb (by decide)), e_atC H.fx (show (5, 8, 5) ∈ tbs by decide) (Or.inl hb), bd_s]
      refine wp_ret ?_
      rw [hM m rfl, if_neg (by decide)]
      refine wp_eq (swt_lo hb (by decide)) ?_
      exact wp_ret ⟨rfl, hI⟩
    · rw [if_neg (fun z => by rw [z] at hb; exact absurd hb (by decide)), if_neg (fun z => by rw [z] at hb; exact absurd hb (by decide)), e_atC H.fx (show (5, 8, 5) ∈ tbs by decide) (Or.inr (Int32.le_trans (by decide) hb)), bd_s]
      refine wp_ret ?_
      rw [hM m rfl, if_neg (by decide)]
      refine wp_eq (swt_hi hb (by decide) (by simp)) ?_
      exact wp_ret ⟨rfl, hI⟩
    · by_cases h5 : j < 5
      · rw [if_neg (nI_ne (by omega) (by omega) (by decide)), if_neg (nI_ne (by omega) (by omega) (by decide)), hr_dee H G.1 hd h5, bd_s]
        refine wp_ret ?_
        rw [hM m rfl, if_neg (by decide)]
        simp only [li_0, li_1, li_2, li_3, li_4, li_5, li_6, li_7, li_8, li_9, li_10, li_11, li_12, li_13, li_14, li_15, li_16, li_17, li_18, li_19, li_20, li_21, li_22, li_23, li_24, li_25, li_26, li_27, li_28, li_29, li_30, li_31, li_32, li_37, li_38, li_39, li_40, li_41, li_42, li_43, li_44, li_45, li_46, li_47, li_48, li_49, li_50, li_57, li_59, li_60, li_61, li_62, li_63, li_64, li_65, li_69, li_81, li_89, li_90, li_92, li_97, li_99, li_100, li_101, li_103, li_104, li_105, li_106, li_108, li_111, li_112, li_113, li_114, li_115, li_116, li_117, li_119, li_122, li_123, li_124, li_125, li_126, li_127, li_128, li_129, li_130, li_131, li_132, li_133, li_134, li_135, li_136, li_137, li_140, li_141, li_142, li_143, li_145, li_147, li_150, li_153, li_159, li_160, li_161, li_162, li_185, li_197, li_213, li_222, li_223, li_255, li_256, li_257, li_258, li_259, li_260, li_261, li_262, li_263, li_264, li_271, li_272, li_273, li_274, li_275, li_276, li_277, li_278, li_300, li_400, li_420, li_500, li_802, li_820, li_823, li_839, li_855, li_871, li_887, li_999, li_1000, li_1001, li_1002, li_1003, li_1004, li_1005, li_1006, li_1007, li_1008, li_1009, li_1010, li_1011, li_1012, li_1013, li_1014, li_1015, li_1016, li_1017, li_1018, li_1019, li_1020, li_1021, li_1022, li_1023, li_1707, li_4096, li_9999, li_65536, li_100000, li_1000000, li_1664525, li_100000000, li_252645135, li_858993459, li_1000000007, li_1013904223, li_1431655765, li_m1, nI_add]
        rw [inb_nI (show 81 + d < 1707 by omega) (by omega), inb_nI (show 89 + d < 1707 by omega) (by omega), inb_nI (show 97 + d < 1707 by omega) (by omega), inb_nI (show 21 + d < 1707 by omega) (by omega), inb_nI (show 29 + d < 1707 by omega) (by omega), chk_t, chk_t, chk_t, chk_t, chk_t,
          nI_clamp (show 81 + d < 2 ^ 31 by omega), nI_clamp (show 89 + d < 2 ^ 31 by omega), nI_clamp (show 97 + d < 2 ^ 31 by omega), nI_clamp (show 21 + d < 2 ^ 31 by omega), nI_clamp (show 29 + d < 2 ^ 31 by omega)]
        match j, h5 with
        | 0, _ => rw [swt_at 0 (by decide) rfl]; exact wp_ret ⟨rfl, hI⟩
        | 1, _ => rw [swt_at 1 (by decide) rfl]; exact wp_ret ⟨rfl, hI⟩
        | 2, _ => rw [swt_at 2 (by decide) rfl]; exact wp_ret ⟨rfl, hI⟩
        | 3, _ => rw [swt_at 3 (by decide) rfl]; exact wp_ret ⟨rfl, hI⟩
        | 4, _ => rw [swt_at 4 (by decide) rfl]; exact wp_ret ⟨rfl, hI⟩
      · rcases (show j = 5 ∨ j = 6 by omega) with rfl | rfl
        · rw [if_pos rfl]
          refine wp_bind (w_loud hN H G.1 hd) ?_
          rintro v m1 ⟨rfl, f1⟩
          have e124 : m1 124 = m 124 := f1.at 124 (by decide)
          refine wp_ret ?_
          rw [hM m1 e124, if_neg (by decide), swt_at 5 (by decide) rfl]
          refine wp_bind (w_loudM hN e124 (by omega) G.2.2 H.lawk) ?_
          rintro v m3 ⟨rfl, f3⟩
          exact wp_ret ⟨rfl, hI.q1 (S := [(111, 112), (132, 133)]) ((f1.mono (by decide)).trans (f3.mono (by decide))) (by decide +kernel) (by decide) (by decide)⟩
        · rw [if_neg (by decide), if_pos rfl]
          refine wp_bind (w_wears hN H G.1 hd) ?_
          rintro v m1 ⟨rfl, f1⟩
          have e124 : m1 124 = m 124 := f1.at 124 (by decide)
          refine wp_ret ?_
          rw [hM m1 e124, if_neg (by decide), swt_at 6 (by decide) rfl]
          refine wp_bind (w_wearsM hN e124 (by omega) G.2.2 H.lawk) ?_
          rintro v m3 ⟨rfl, f3⟩
          exact wp_ret ⟨rfl, hI.q1 (S := [(111, 112), (132, 133)]) ((f1.mono (by decide)).trans (f3.mono (by decide))) (by decide +kernel) (by decide) (by decide)⟩
end ASK
