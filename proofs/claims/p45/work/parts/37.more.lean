/-! HEARERS, DEEDS, MEANS, CLAQUE told; the TAPE fed: pairs -/
section MORE
variable {w w' : Arr} {LN : List Lin} {m m' m2 : Mem} {N : Nat}
theorem bit_big {x h i : Nat} (hx : x < 2 ^ h) (hi : h ≤ i) : x.testBit i = false := Nat.testBit_lt_two_pow (Nat.lt_of_lt_of_le hx (Nat.pow_le_pow_right (by decide) hi))
theorem sdf_pow {x h : Nat} (hx : x < 2 ^ h) : sdf x (2 ^ h) = x := by
  apply Nat.eq_of_testBit_eq
  intro i
  rw [sdf_bit, Nat.testBit_two_pow]
  by_cases e : h = i
  · subst e
    rw [bit_big hx (Nat.le_refl _)]; rfl
  · rw [decide_eq_false e]; simp
theorem cnt_none (W0 : WFc w) {h : Nat} (hh : zh w ≤ h) (h31 : h < 2 ^ 31) : cnt w h = 1 := by
  have l := W0.lzh
  unfold cnt
  rw [if_neg]
  rw [List.any_eq_true]
  rintro ⟨i, hi, hq⟩
  rw [Bool.and_eq_true, decide_eq_true_iff, decide_eq_true_iff] at hq
  obtain ⟨⟨k, k1, k2, e, -, -, h9, -⟩, -⟩ := W0.sta (List.mem_range.mp hi)
  rw [e] at hq
  obtain ⟨a, ha, ea⟩ := h9 ((nI_eq (by omega) (by decide)).mp hq.1)
  rw [ea] at hq
  have := (nI_eq (by omega) h31).mp hq.2
  omega
/-- a HEARER more -/
def newH (w : Arr) (a b c : Int32) : Arr := upd (upd (upd (upd (upd (upd (upd w (45 + zh w) a) (57 + zh w) b) (69 + zh w) c) (9 + zh w) (nI 0)) 7 (nI (zt w ||| 2 ^ zh w))) 8 (nI (zv w))) 37 (nI (zh w + 1))
theorem newH_o {a b c : Int32} {i : Nat} (h : i ≠ 45 + zh w ∧ i ≠ 57 + zh w ∧ i ≠ 69 + zh w ∧ i ≠ 9 + zh w ∧ i ≠ 7 ∧ i ≠ 8 ∧ i ≠ 37) : newH w a b c i = w i := by
  unfold newH
  rw [ud_n h.2.2.2.2.2.2, ud_n h.2.2.2.2.2.1, ud_n h.2.2.2.2.1, ud_n h.2.2.2.1, ud_n h.2.2.1, ud_n h.2.1, ud_n h.1]
theorem newH_wf (W0 : WFc w) (h12 : zh w < 12) {a b c : Nat} (ha : a ≤ 9) (hb : b ≤ 9) (hc : c ≤ 9) : WFc (newH w (nI a) (nI b) (nI c)) ∧ zh (newH w (nI a) (nI b) (nI c)) = zh w + 1 ∧ zt (newH w (nI a) (nI b) (nI c)) = zt w ||| 2 ^ zh w ∧ zv (newH w (nI a) (nI b) (nI c)) = zv w := by
  obtain ⟨a1, a2, a3, a4, a5, a6, a7, a8, a9, b1, b2, b3, b4, b5, b6, b7⟩ := id W0
  obtain ⟨s1, s2, s3, s4, s5, s6⟩ := W0.sml
  have pe : 2 ^ (zh w + 1) = 2 ^ zh w * 2 := Nat.pow_succ 2 _
  have pp := pow_pos' (zh w)
  have p12 : 2 ^ (zh w + 1) ≤ 4096 := pow_le31 (show zh w + 1 ≤ 12 by omega)
  have ht : zt w ||| 2 ^ zh w < 2 ^ (zh w + 1) := Nat.or_lt_two_pow (by have := W0.h7.2; omega) (Nat.pow_lt_pow_right (by decide) (by omega))
  have e37 : newH w (nI a) (nI b) (nI c) 37 = nI (zh w + 1) := by unfold newH; rw [ud_s]
  have e7 : newH w (nI a) (nI b) (nI c) 7 = nI (zt w ||| 2 ^ zh w) := by unfold newH; rw [ud_n (by decide), ud_n (by decide), ud_s]
  have e8 : newH w (nI a) (nI b) (nI c) 8 = nI (zv w) := by unfold newH; rw [ud_n (by decide), ud_s]
  have z1 : zh (newH w (nI a) (nI b) (nI c)) = zh w + 1 := by
    show nv (newH w (nI a) (nI b) (nI c) 37) = _
    rw [e37, nv_nI (by omega)]
  have z7 : zt (newH w (nI a) (nI b) (nI c)) = zt w ||| 2 ^ zh w := by
    show nv (newH w (nI a) (nI b) (nI c) 7) = _
    rw [e7, nv_nI (by omega)]
  have z8 : zv (newH w (nI a) (nI b) (nI c)) = zv w := by
    show nv (newH w (nI a) (nI b) (nI c) 8) = _
    rw [e8, nv_nI (by have := W0.h8.2; omega)]
  refine ⟨?_, z1, z7, z8⟩
  have o : ∀ i, (i < 7 ∨ 21 ≤ i ∧ i < 37 ∨ 38 ≤ i ∧ i < 45 ∨ 81 ≤ i) → newH w (nI a) (nI b) (nI c) i = w i := fun i hi => newH_o (by omega)
  have ezd : zd (newH w (nI a) (nI b) (nI c)) = zd w := by unfold zd; rw [o 38 (by omega)]
  have ezs : zs (newH w (nI a) (nI b) (nI c)) = zs w := by unfold zs; rw [o 41 (by omega)]
  have ezp : zp (newH w (nI a) (nI b) (nI c)) = zp w := by unfold zp; rw [o 42 (by omega)]
  have ezq : zq (newH w (nI a) (nI b) (nI c)) = zq w := by unfold zq; rw [o 44 (by omega)]
  unfold WFc
  rw [z1, ezd, ezs, ezp, ezq, e37, e7, e8, o 38 (by omega), o 6 (by omega), o 41 (by omega), o 42 (by omega), o 43 (by omega), o 44 (by omega)]
  refine ⟨isn.nI (by omega), a2, a3, a4, a5, a6, a7, isn.nI (by omega), isn.nI (by have := W0.h8.2; omega), fun h hh => ?_, fun h hh h2 => ?_, fun d hd => ?_, fun i hi => ?_, fun i hi => ?_, fun v hv => ?_, fun i hi => ?_⟩
  · rw [o (185 + h) (by omega)]
    by_cases e : h = zh w
    · subst e
      refine ⟨?_, ?_, ?_, ?_, ?_⟩
      · unfold newH; rw [ud_n (by omega), ud_n (by omega), ud_n (by omega), ud_n (by omega), ud_n (by omega), ud_n (by omega), ud_s]; exact isn.nI ha
      · unfold newH; rw [ud_n (by omega), ud_n (by omega), ud_n (by omega), ud_n (by omega), ud_n (by omega), ud_s]; exact isn.nI hb
      · unfold newH; rw [ud_n (by omega), ud_n (by omega), ud_n (by omega), ud_n (by omega), ud_s]; exact isn.nI hc
      · unfold newH; rw [ud_n (by omega), ud_n (by omega), ud_n (by omega), ud_s]; exact isn.nI (by omega)
      · rw [b2 (zh w) (by omega) (Nat.le_refl _)]; exact isn.nI (by omega)
    · obtain ⟨g1, g2, g3, g4, g5⟩ := b1 h (by omega)
      rw [newH_o (by omega), newH_o (by omega), newH_o (by omega), newH_o (by omega)]
      exact ⟨g1, g2, g3, g4, g5.mono (by omega)⟩
  · rw [o (185 + h) (by omega)]
    exact b2 h hh (by omega)
  · rw [o (81 + d) (by omega), o (89 + d) (by omega)]
    exact b3 d hd
  · rw [o (105 + 3 * i) (by omega), o (105 + 3 * i + 1) (by omega), o (105 + 3 * i + 2) (by omega)]
    obtain ⟨⟨k, k1, k2, e, g7, g8, g9, g10⟩, gf⟩ := b4 i hi
    exact ⟨⟨k, k1, k2, e, g7, g8, fun hk => by obtain ⟨x, hx, ex⟩ := g9 hk; exact ⟨x, by omega, ex⟩, g10⟩, gf⟩
  · rw [o (153 + 2 * i) (by omega), o (153 + 2 * i + 1) (by omega)]
    exact b5 i hi
  · rw [o (213 + v) (by omega)]
    exact b6 v hv
  · rw [o (197 + 2 * i) (by omega), o (197 + 2 * i + 1) (by omega)]
    exact ⟨(b7 i hi).1.mono (by omega), (b7 i hi).2⟩
theorem rng_cases {a : Int32} {l h : Nat} (hl : l < 2 ^ 31) (hh : h < 2 ^ 31) : decide (nI l ≤ a ∧ a ≤ nI h) = false ∨ (decide (nI l ≤ a ∧ a ≤ nI h) = true ∧ ∃ k, l ≤ k ∧ k ≤ h ∧ a = nI k) := by
  cases hq : decide (nI l ≤ a ∧ a ≤ nI h) with
  | false => exact Or.inl rfl
  | true => exact Or.inr ⟨rfl, rng_of hl hh hq⟩
theorem pr_hearer {a b c : Int32} (hN : 20000 ≤ N) : Pr (f_X11_hearer N a b c) (f_X12_hearer N a b c) := by
  intro m hI
  obtain ⟨LN, H, G, ⟨k, p, hk, hp, e2, e1, e3, hs⟩, -⟩ := id hI
  have lh := G.1.lzh
  have no : f_X12_hearer N a b c m = some (mo1, m) → Wp (f_X12_hearer N a b c m) (fun v2 m2 => mo1 = v2 ∧ Inv m2) := by
    intro h
    rw [h]
    exact wp_ret ⟨rfl, hI⟩
  unfold f_X12_hearer at no
  unfold f_X11_hearer
  simp only [li_0, li_1, li_2, li_3, li_4, li_5, li_6, li_7, li_8, li_9, li_10, li_11, li_12, li_13, li_14, li_15, li_16, li_17, li_18, li_19, li_20, li_21, li_22, li_23, li_24, li_25, li_26, li_27, li_28, li_29, li_30, li_31, li_32, li_37, li_38, li_39, li_40, li_41, li_42, li_43, li_44, li_45, li_46, li_47, li_48, li_49, li_50, li_57, li_59, li_60, li_61, li_62, li_63, li_64, li_65, li_69, li_81, li_89, li_90, li_92, li_97, li_99, li_100, li_101, li_103, li_104, li_105, li_106, li_108, li_111, li_112, li_113, li_114, li_115, li_116, li_117, li_119, li_122, li_123, li_124, li_125, li_126, li_127, li_128, li_129, li_130, li_131, li_132, li_133, li_134, li_135, li_136, li_137, li_140, li_141, li_142, li_143, li_145, li_147, li_150, li_153, li_159, li_160, li_161, li_162, li_185, li_197, li_213, li_222, li_223, li_255, li_256, li_257, li_258, li_259, li_260, li_261, li_262, li_263, li_264, li_271, li_272, li_273, li_274, li_275, li_276, li_277, li_278, li_300, li_400, li_420, li_500, li_802, li_820, li_823, li_839, li_855, li_871, li_887, li_999, li_1000, li_1001, li_1002, li_1003, li_1004, li_1005, li_1006, li_1007, li_1008, li_1009, li_1010, li_1011, li_1012, li_1013, li_1014, li_1015, li_1016, li_1017, li_1018, li_1019, li_1020, li_1021, li_1022, li_1023, li_1707, li_4096, li_9999, li_65536, li_100000, li_1000000, li_1664525, li_100000000, li_252645135, li_858993459, li_1000000007, li_1013904223, li_1431655765, li_m1, e_isIn, e_within, bd_s] at no ⊢
  rcases rng_cases (a := a) (l := 0) (h := 9) (by decide) (by decide) with ha | ⟨ha, a, -, ha9, rfl⟩
  · rw [ha, if_pos (by decide)] at no ⊢
    exact wp_ret (by unfold f_X12_hearer; simp only [li_0, li_1, li_2, li_3, li_4, li_5, li_6, li_7, li_8, li_9, li_10, li_11, li_12, li_13, li_14, li_15, li_16, li_17, li_18, li_19, li_20, li_21, li_22, li_23, li_24, li_25, li_26, li_27, li_28, li_29, li_30, li_31, li_32, li_37, li_38, li_39, li_40, li_41, li_42, li_43, li_44, li_45, li_46, li_47, li_48, li_49, li_50, li_57, li_59, li_60, li_61, li_62, li_63, li_64, li_65, li_69, li_81, li_89, li_90, li_92, li_97, li_99, li_100, li_101, li_103, li_104, li_105, li_106, li_108, li_111, li_112, li_113, li_114, li_115, li_116, li_117, li_119, li_122, li_123, li_124, li_125, li_126, li_127, li_128, li_129, li_130, li_131, li_132, li_133, li_134, li_135, li_136, li_137, li_140, li_141, li_142, li_143, li_145, li_147, li_150, li_153, li_159, li_160, li_161, li_162, li_185, li_197, li_213, li_222, li_223, li_255, li_256, li_257, li_258, li_259, li_260, li_261, li_262, li_263, li_264, li_271, li_272, li_273, li_274, li_275, li_276, li_277, li_278, li_300, li_400, li_420, li_500, li_802, li_820, li_823, li_839, li_855, li_871, li_887, li_999, li_1000, li_1001, li_1002, li_1003, li_1004, li_1005, li_1006, li_1007, li_1008, li_1009, li_1010, li_1011, li_1012, li_1013, li_1014, li_1015, li_1016, li_1017, li_1018, li_1019, li_1020, li_1021, li_1022, li_1023, li_1707, li_4096, li_9999, li_65536, li_100000, li_1000000, li_1664525, li_100000000, li_252645135, li_858993459, li_1000000007, li_1013904223, li_1431655765, li_m1, e_isIn, bd_s]; rw [ha, if_pos (by decide)]; exact no rfl)
  · rw [ha, if_neg (by decide)] at no ⊢
    rcases rng_cases (a := b) (l := 0) (h := 9) (by decide) (by decide) with hb | ⟨hb, b, -, hb9, rfl⟩
    · rw [hb, if_pos (by decide)] at no ⊢
      exact wp_ret (by unfold f_X12_hearer; simp only [li_0, li_1, li_2, li_3, li_4, li_5, li_6, li_7, li_8, li_9, li_10, li_11, li_12, li_13, li_14, li_15, li_16, li_17, li_18, li_19, li_20, li_21, li_22, li_23, li_24, li_25, li_26, li_27, li_28, li_29, li_30, li_31, li_32, li_37, li_38, li_39, li_40, li_41, li_42, li_43, li_44, li_45, li_46, li_47, li_48, li_49, li_50, li_57, li_59, li_60, li_61, li_62, li_63, li_64, li_65, li_69, li_81, li_89, li_90, li_92, li_97, li_99, li_100, li_101, li_103, li_104, li_105, li_106, li_108, li_111, li_112, li_113, li_114, li_115, li_116, li_117, li_119, li_122, li_123, li_124, li_125, li_126, li_127, li_128, li_129, li_130, li_131, li_132, li_133, li_134, li_135, li_136, li_137, li_140, li_141, li_142, li_143, li_145, li_147, li_150, li_153, li_159, li_160, li_161, li_162, li_185, li_197, li_213, li_222, li_223, li_255, li_256, li_257, li_258, li_259, li_260, li_261, li_262, li_263, li_264, li_271, li_272, li_273, li_274, li_275, li_276, li_277, li_278, li_300, li_400, li_420, li_500, li_802, li_820, li_823, li_839, li_855, li_871, li_887, li_999, li_1000, li_1001, li_1002, li_1003, li_1004, li_1005, li_1006, li_1007, li_1008, li_1009, li_1010, li_1011, li_1012, li_1013, li_1014, li_1015, li_1016, li_1017, li_1018, li_1019, li_1020, li_1021, li_1022, li_1023, li_1707, li_4096, li_9999, li_65536, li_100000, li_1000000, li_1664525, li_100000000, li_252645135, li_858993459, li_1000000007, li_1013904223, li_1431655765, li_m1, e_isIn, bd_s]; rw [ha, if_neg (by decide), hb, if_pos (by decide)]; exact no rfl)
    · rw [hb, if_neg (by decide)] at no ⊢
      rcases rng_cases (a := c) (l := 0) (h := 9) (by decide) (by decide) with hc | ⟨hc, c, -, hc9, rfl⟩
      · rw [hc, if_pos (by decide)] at no ⊢
        exact wp_ret (by unfold f_X12_hearer; simp only [li_0, li_1, li_2, li_3, li_4, li_5, li_6, li_7, li_8, li_9, li_10, li_11, li_12, li_13, li_14, li_15, li_16, li_17, li_18, li_19, li_20, li_21, li_22, li_23, li_24, li_25, li_26, li_27, li_28, li_29, li_30, li_31, li_32, li_37, li_38, li_39, li_40, li_41, li_42, li_43, li_44, li_45, li_46, li_47, li_48, li_49, li_50, li_57, li_59, li_60, li_61, li_62, li_63, li_64, li_65, li_69, li_81, li_89, li_90, li_92, li_97, li_99, li_100, li_101, li_103, li_104, li_105, li_106, li_108, li_111, li_112, li_113, li_114, li_115, li_116, li_117, li_119, li_122, li_123, li_124, li_125, li_126, li_127, li_128, li_129, li_130, li_131, li_132, li_133, li_134, li_135, li_136, li_137, li_140, li_141, li_142, li_143, li_145, li_147, li_150, li_153, li_159, li_160, li_161, li_162, li_185, li_197, li_213, li_222, li_223, li_255, li_256, li_257, li_258, li_259, li_260, li_261, li_262, li_263, li_264, li_271, li_272, li_273, li_274, li_275, li_276, li_277, li_278, li_300, li_400, li_420, li_500, li_802, li_820, li_823, li_839, li_855, li_871, li_887, li_999, li_1000, li_1001, li_1002, li_1003, li_1004, li_1005, li_1006, li_1007, li_1008, li_1009, li_1010, li_1011, li_1012, li_1013, li_1014, li_1015, li_1016, li_1017, li_1018, li_1019, li_1020, li_1021, li_1022, li_1023, li_1707, li_4096, li_9999, li_65536, li_100000, li_1000000, li_1664525, li_100000000, li_252645135, li_858993459, li_1000000007, li_1013904223, li_1431655765, li_m1, e_isIn, bd_s]; rw [ha, if_neg (by decide), hb, if_neg (by decide), hc, if_pos (by decide)]; exact no rfl)
      · rw [hc, if_neg (by decide)] at no ⊢
        have n3 : m 3 3 = nI (zh (m 124)) := H.hea.1.trans G.1.h37
        have t3 : (3, 12, 8) ∈ tbs := by decide
        rw [n3, bnd_s]
        by_cases h12 : zh (m 124) = 12
        · rw [e_addF H.fx t3 (by rw [n3, h12]), bd_s, if_pos (by decide)]
          refine wp_ret ?_
          rw [if_pos (by rw [G.1.h37, h12])] at no
          unfold f_X12_hearer
          simp only [li_0, li_1, li_2, li_3, li_4, li_5, li_6, li_7, li_8, li_9, li_10, li_11, li_12, li_13, li_14, li_15, li_16, li_17, li_18, li_19, li_20, li_21, li_22, li_23, li_24, li_25, li_26, li_27, li_28, li_29, li_30, li_31, li_32, li_37, li_38, li_39, li_40, li_41, li_42, li_43, li_44, li_45, li_46, li_47, li_48, li_49, li_50, li_57, li_59, li_60, li_61, li_62, li_63, li_64, li_65, li_69, li_81, li_89, li_90, li_92, li_97, li_99, li_100, li_101, li_103, li_104, li_105, li_106, li_108, li_111, li_112, li_113, li_114, li_115, li_116, li_117, li_119, li_122, li_123, li_124, li_125, li_126, li_127, li_128, li_129, li_130, li_131, li_132, li_133, li_134, li_135, li_136, li_137, li_140, li_141, li_142, li_143, li_145, li_147, li_150, li_153, li_159, li_160, li_161, li_162, li_185, li_197, li_213, li_222, li_223, li_255, li_256, li_257, li_258, li_259, li_260, li_261, li_262, li_263, li_264, li_271, li_272, li_273, li_274, li_275, li_276, li_277, li_278, li_300, li_400, li_420, li_500, li_802, li_820, li_823, li_839, li_855, li_871, li_887, li_999, li_1000, li_1001, li_1002, li_1003, li_1004, li_1005, li_1006, li_1007, li_1008, li_1009, li_1010, li_1011, li_1012, li_1013, li_1014, li_1015, li_1016, li_1017, li_1018, li_1019, li_1020, li_1021, li_1022, li_1023, li_1707, li_4096, li_9999, li_65536, li_100000, li_1000000, li_1664525, li_100000000, li_252645135, li_858993459, li_1000000007, li_1013904223, li_1431655765, li_m1, e_isIn, bd_s]
          rw [ha, if_neg (by decide), hb, if_neg (by decide), hc, if_neg (by decide), if_pos (by rw [G.1.h37, h12])]
          exact no rfl
        · have hlt : zh (m 124) < 12 := by omega
          obtain ⟨W', z1, z7, z8⟩ := newH_wf G.1 hlt ha9 hb9 hc9
          rw [e_add hN H.fx t3 n3 hlt, bd_s, if_neg (show ¬ (1 : Int32) = nI 0 by decide)]
          have F1 := H.fx.add (n := zh (m 124)) (a := nI a) (b := nI b) (c := nI c) (d := nI 1) t3
          rw [e_put F1 t3 (n := zh (m 124) + 1) (by unfold madd; rw [mset_at]) (by omega) (by omega) (by decide), bd_s, e_forget, bd_s]
          generalize hm1 : mset (madd m 3 8 (zh (m 124)) (nI a) (nI b) (nI c) (nI 1)) (3 + 1) (zh (m 124) * 8 + 7) (nI 1) = m1
          have fr1 : ∀ q, q ≠ 3 → q ≠ 4 → m1 q = m q := by
            intro q h3 h4
            rw [← hm1, mset_ne h4]
            unfold madd
            rw [mset_ne h3]
            funext j
            exact mrow_o h4
          have c3 : m1 3 3 = nI (zh (m 124) + 1) := by
            rw [← hm1, mset_k (by decide)]
            exact mset_at _ _ _ _
          have c4 : ∀ h', h' < zh (m 124) + 1 → ∀ c', c' < 8 → m1 4 (h' * 8 + c') = heaV (newH (m 124) (nI a) (nI b) (nI c)) h' c' := by
            intro h' hh' c' hc'
            have ec : cnt (newH (m 124) (nI a) (nI b) (nI c)) h' = cnt (m 124) h' := cnt_cg (fun i hi => newH_o (by omega)) G.1.lzs h'
            have eb : newH (m 124) (nI a) (nI b) (nI c) (185 + h') = m 124 (185 + h') := newH_o (by omega)
            rw [← hm1]
            by_cases e : h' = zh (m 124)
            · subst e
              have hrow : ∀ c', c' < 8 → c' ≠ 7 → mset (madd m 3 8 (zh (m 124)) (nI a) (nI b) (nI c) (nI 1)) (3 + 1) (zh (m 124) * 8 + 7) (nI 1) 4 (zh (m 124) * 8 + c') = rowv (nI a) (nI b) (nI c) (nI 1) c' := by
                intro c' hc' h7
                rw [mset_j (by omega)]
                unfold madd
                rw [mset_k (by decide)]
                unfold mrow
                rw [if_pos ⟨rfl, by omega, by omega⟩, Nat.add_sub_cancel_left]
              unfold heaV
              rw [z7, z8, ec, eb]
              match c', hc' with
              | 0, _ => rw [hrow 0 (by decide) (by decide), if_pos rfl]; unfold newH; rw [ud_n (by omega), ud_n (by omega), ud_n (by omega), ud_n (by omega), ud_n (by omega), ud_n (by omega), ud_s]; rfl
              | 1, _ => rw [hrow 1 (by decide) (by decide), if_neg (by decide), if_pos rfl]; unfold newH; rw [ud_n (by omega), ud_n (by omega), ud_n (by omega), ud_n (by omega), ud_n (by omega), ud_s]; rfl
              | 2, _ => rw [hrow 2 (by decide) (by decide), if_neg (by decide), if_neg (by decide), if_pos rfl]; unfold newH; rw [ud_n (by omega), ud_n (by omega), ud_n (by omega), ud_n (by omega), ud_s]; rfl
              | 3, _ =>
                rw [hrow 3 (by decide) (by decide), if_neg (by decide), if_neg (by decide), if_neg (by decide), if_pos rfl, Nat.testBit_or, Nat.testBit_two_pow]
                simp [rowv, b2i]
              | 4, _ =>
                rw [hrow 4 (by decide) (by decide), if_neg (by decide), if_neg (by decide), if_neg (by decide), if_neg (by decide), if_pos rfl, bit_big G.1.h8.2 (Nat.le_refl _)]
                rfl
              | 5, _ =>
                rw [hrow 5 (by decide) (by decide), if_neg (by decide), if_neg (by decide), if_neg (by decide), if_neg (by decide), if_neg (by decide), if_pos rfl]
                unfold newH
                rw [ud_n (by omega), ud_n (by omega), ud_n (by omega), ud_s]; rfl
              | 6, _ =>
                rw [hrow 6 (by decide) (by decide), if_neg (by decide), if_neg (by decide), if_neg (by decide), if_neg (by decide), if_neg (by decide), if_neg (by decide), if_pos rfl, G.1.be0 (by omega) (Nat.le_refl _)]
                rfl
              | 7, _ =>
                rw [mset_at, if_neg (by decide), if_neg (by decide), if_neg (by decide), if_neg (by decide), if_neg (by decide), if_neg (by decide), if_neg (by decide), cnt_none G.1 (Nat.le_refl _) (by omega)]
            · rw [mset_j (by omega)]
              unfold madd
              rw [mset_k (by decide)]
              unfold mrow
              rw [if_neg (by omega), show m 4 (h' * 8 + c') = heaV (m 124) h' c' from H.hea.2 h' (by omega) c' hc']
              unfold heaV
              rw [z7, z8, ec, eb, newH_o (by omega), newH_o (by omega), newH_o (by omega), newH_o (by omega), Nat.testBit_or, Nat.testBit_two_pow, decide_eq_false (show ¬ zh (m 124) = h' by omega), Bool.or_false]
          have F2 : Fx m1 := by rw [← hm1]; exact F1.cell t3
          have e37' : newH (m 124) (nI a) (nI b) (nI c) 37 = nI (zh (m 124) + 1) := by unfold newH; rw [ud_s]
          have H1 : HRep 2 LN (newH (m 124) (nI a) (nI b) (nI c)) m1 := by
            refine H.one (j0 := 1) G.1.sml (by decide) F2 (fun q h1 h2 h3 h4 => fr1 q (by omega) (by omega)) ⟨c3.trans e37'.symm, fun h' hh' c' hc' => c4 h' (by rw [← z1]; exact hh') c' hc'⟩ (fun j hj hne i hi => newH_o ?_)
            have hj' : j = 1 ∨ j = 3 ∨ j = 5 ∨ j = 7 ∨ j = 13 ∨ j = 15 ∨ j = 17 ∨ j = 19 ∨ j = 21 := by simpa [cmps] using hj
            rcases hj' with rfl | rfl | rfl | rfl | rfl | rfl | rfl | rfl | rfl
            · exact absurd rfl hne
            all_goals simp [own] at hi
            all_goals omega
          refine wp_ret ?_
          have g124 : mset m1 48 2 (nI 0) 124 = m 124 := by rw [mset_ne (by decide), fr1 124 (by decide) (by decide)]
          unfold f_X12_hearer
          simp only [li_0, li_1, li_2, li_3, li_4, li_5, li_6, li_7, li_8, li_9, li_10, li_11, li_12, li_13, li_14, li_15, li_16, li_17, li_18, li_19, li_20, li_21, li_22, li_23, li_24, li_25, li_26, li_27, li_28, li_29, li_30, li_31, li_32, li_37, li_38, li_39, li_40, li_41, li_42, li_43, li_44, li_45, li_46, li_47, li_48, li_49, li_50, li_57, li_59, li_60, li_61, li_62, li_63, li_64, li_65, li_69, li_81, li_89, li_90, li_92, li_97, li_99, li_100, li_101, li_103, li_104, li_105, li_106, li_108, li_111, li_112, li_113, li_114, li_115, li_116, li_117, li_119, li_122, li_123, li_124, li_125, li_126, li_127, li_128, li_129, li_130, li_131, li_132, li_133, li_134, li_135, li_136, li_137, li_140, li_141, li_142, li_143, li_145, li_147, li_150, li_153, li_159, li_160, li_161, li_162, li_185, li_197, li_213, li_222, li_223, li_255, li_256, li_257, li_258, li_259, li_260, li_261, li_262, li_263, li_264, li_271, li_272, li_273, li_274, li_275, li_276, li_277, li_278, li_300, li_400, li_420, li_500, li_802, li_820, li_823, li_839, li_855, li_871, li_887, li_999, li_1000, li_1001, li_1002, li_1003, li_1004, li_1005, li_1006, li_1007, li_1008, li_1009, li_1010, li_1011, li_1012, li_1013, li_1014, li_1015, li_1016, li_1017, li_1018, li_1019, li_1020, li_1021, li_1022, li_1023, li_1707, li_4096, li_9999, li_65536, li_100000, li_1000000, li_1664525, li_100000000, li_252645135, li_858993459, li_1000000007, li_1013904223, li_1431655765, li_m1, e_isIn, bd_s]
          rw [ha, if_neg (by decide), hb, if_neg (by decide), hc, if_neg (by decide), g124, G.1.h37, if_neg (nI_ne h12 (by omega) (by decide)), bnd_s]
          simp only [nI_add]
          rw [inb_nI (by omega) (by omega), chk_t, nI_clamp (by omega), bnd_s, inb_nI (by omega) (by omega), chk_t, nI_clamp (by omega), bnd_s, inb_nI (by omega) (by omega), chk_t, nI_clamp (by omega), bnd_s, inb_nI (by omega) (by omega), chk_t, nI_clamp (by omega), bnd_s, bnd_s, bnd_s, bnd_s, e_forgets, bd_s]
          generalize hm2 : mset (mset (mset (mset (mset m1 48 2 (nI 0)) 124 (45 + zh (m 124)) (nI a)) 124 (57 + zh (m 124)) (nI b)) 124 (69 + zh (m 124)) (nI c)) 124 (9 + zh (m 124)) (nI 0) = m2
          have h2 : m2 124 = upd (upd (upd (upd (m 124) (45 + zh (m 124)) (nI a)) (57 + zh (m 124)) (nI b)) (69 + zh (m 124)) (nI c)) (9 + zh (m 124)) (nI 0) := by rw [← hm2, mset_eq, mset_eq, mset_eq, mset_eq, g124]
          have f2 : ∀ q, q ≠ 3 → q ≠ 4 → q ≠ 48 → q ≠ 124 → m2 q = m q := fun q h3 h4 h48 h124 => by rw [← hm2, mset_ne h124, mset_ne h124, mset_ne h124, mset_ne h124, mset_ne h48, fr1 q h3 h4]
          have f21 : ∀ q, q ≠ 48 → q ≠ 124 → m2 q = m1 q := fun q h48 h124 => by rw [← hm2, mset_ne h124, mset_ne h124, mset_ne h124, mset_ne h124, mset_ne h48]
          have g48 : ∀ j, j ≠ 2 → m2 48 j = m 48 j := fun j hj => by rw [← hm2, mset_k (by decide), mset_k (by decide), mset_k (by decide), mset_k (by decide), mset_j hj, fr1 48 (by decide) (by decide)]
          have g482 : m2 48 2 = nI 0 := by rw [← hm2, mset_k (by decide), mset_k (by decide), mset_k (by decide), mset_k (by decide), mset_at]
          generalize hm3 : mset (mset (mset (mset m2 124 7 (m2 124 7 ||| nI 1 <<< (nI (zh (m 124)) &&& nI 31))) 124 8 (mset m2 124 7 (m2 124 7 ||| nI 1 <<< (nI (zh (m 124)) &&& nI 31)) 124 8 &&& (nI 1 <<< (nI (zh (m 124)) &&& nI 31) ^^^ mo1))) 124 37 (mset (mset m2 124 7 (m2 124 7 ||| nI 1 <<< (nI (zh (m 124)) &&& nI 31))) 124 8 (mset m2 124 7 (m2 124 7 ||| nI 1 <<< (nI (zh (m 124)) &&& nI 31)) 124 8 &&& (nI 1 <<< (nI (zh (m 124)) &&& nI 31) ^^^ mo1)) 124 37 + nI 1)) 123 4 (nI 0) = m3
          have h3 : m3 124 = newH (m 124) (nI a) (nI b) (nI c) := by
            rw [← hm3, mset_ne (by decide), mset_eq, mset_eq, mset_eq, h2, nz_one (by omega)]
            unfold newH
            rw [ud_n (show 7 ≠ 9 + zh (m 124) by omega), ud_n (show 7 ≠ 69 + zh (m 124) by omega), ud_n (show 7 ≠ 57 + zh (m 124) by omega), ud_n (show 7 ≠ 45 + zh (m 124) by omega), G.1.h7.1, nz_or,
              ud_n (show 8 ≠ 7 by decide), ud_n (show 8 ≠ 9 + zh (m 124) by omega), ud_n (show 8 ≠ 69 + zh (m 124) by omega), ud_n (show 8 ≠ 57 + zh (m 124) by omega), ud_n (show 8 ≠ 45 + zh (m 124) by omega), G.1.h8.1, nz_diff, sdf_pow G.1.h8.2,
              ud_n (show 37 ≠ 8 by decide), ud_n (show 37 ≠ 7 by decide), ud_n (show 37 ≠ 9 + zh (m 124) by omega), ud_n (show 37 ≠ 69 + zh (m 124) by omega), ud_n (show 37 ≠ 57 + zh (m 124) by omega), ud_n (show 37 ≠ 45 + zh (m 124) by omega), G.1.h37, nI_add]
          have f3 : ∀ q, q ≠ 123 → q ≠ 124 → m3 q = m2 q := fun q h1 h2 => by rw [← hm3, mset_ne h1, mset_ne h2, mset_ne h2, mset_ne h2]
          have g123 : ∀ j, j ≠ 4 → m3 123 j = m 123 j := fun j hj => by rw [← hm3, mset_j hj, mset_k (by decide), mset_k (by decide), mset_k (by decide), f2 123 (by decide) (by decide) (by decide) (by decide)]
          have g1234 : m3 123 4 = nI 0 := by rw [← hm3, mset_at]
          refine wp_ret ⟨rfl, hI.re (LN := LN) (w' := newH (m 124) (nI a) (nI b) (nI c)) ?_ h3 ⟨W', ?_, G.2.2.cg (fun i hi => newH_o (by omega))⟩ (PastR.zero hp ?_ ?_ g1234) (fun q hq => ?_) ?_ ?_ ?_⟩
          · exact H1.cg W'.sml (F2.of (fun p hp' j hj => by
              have := (tbs_lo p hp').1
              have h48 : p.1 ≠ 48 := by
                have : ∀ p ∈ tbs, p.1 ≠ 48 := by decide +kernel
                exact this p hp'
              rw [f3 p.1 (by omega) (by omega), f21 p.1 h48 (by omega)])) (fun q h1 h2' => by rw [f3 q (by omega) (by omega), f21 q (by omega) (by omega)]) (fun _ _ _ _ => rfl)
          · obtain ⟨x, y, h0, h4, h5⟩ := G.2.1
            exact ⟨x, y, by rw [newH_o (by omega)]; exact h0, by rw [newH_o (by omega)]; exact h4, h5⟩
          · rw [f3 48 (by decide) (by decide), g48 1 (by decide)]; exact e1
          · rw [f3 48 (by decide) (by decide)]; exact g482
          · rw [f3 q (by omega) (by omega), f2 q (by omega) (by omega) (by omega) (by omega)]
          · rw [f3 103 (by decide) (by decide), f2 103 (by decide) (by decide) (by decide) (by decide)]; exact ⟨rfl, rfl⟩
          · rw [f3 113 (by decide) (by decide), f2 113 (by decide) (by decide) (by decide) (by decide)]
          · intro j hj
            exact g123 j (by omega)
end MORE
