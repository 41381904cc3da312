/-! a DEED, MEANS, CLAQUE told; the TAPE fed: pairs -/
section MORE2
variable {w w' : Arr} {LN : List Lin} {m m' m2 : Mem} {N : Nat}
/-- a DEED more -/
def newD (w : Arr) (a b c : Int32) : Arr := upd (upd (upd (upd (upd (upd w (81 + zd w) a) (89 + zd w) b) (97 + zd w) c) (21 + zd w) (nI 0)) (29 + zd w) (nI 0)) 38 (nI (zd w + 1))
theorem newD_o {a b c : Int32} {i : Nat} (h : i ≠ 81 + zd w ∧ i ≠ 89 + zd w ∧ i ≠ 97 + zd w ∧ i ≠ 21 + zd w ∧ i ≠ 29 + zd w ∧ i ≠ 38) : newD w a b c i = w i := by
  unfold newD
  rw [ud_n h.2.2.2.2.2, ud_n h.2.2.2.2.1, ud_n h.2.2.2.1, ud_n h.2.2.1, ud_n h.2.1, ud_n h.1]
theorem newD_wf (W0 : WFc w) (h8 : zd w < 8) {a b c : Nat} (ha : a ≤ 9) (hb1 : 1 ≤ b) (hb : b ≤ 60) : WFc (newD w (nI a) (nI b) (nI c)) ∧ zd (newD w (nI a) (nI b) (nI c)) = zd w + 1 := by
  obtain ⟨a1, a2, a3, a4, a5, a6, a7, a8, a9, b1, b2, b3, b4, b5, b6, b7⟩ := id W0
  obtain ⟨s1, s2, s3, s4, s5, s6⟩ := W0.sml
  have e38 : newD w (nI a) (nI b) (nI c) 38 = nI (zd w + 1) := by unfold newD; rw [ud_s]
  have z1 : zd (newD w (nI a) (nI b) (nI c)) = zd w + 1 := by
    show nv (newD w (nI a) (nI b) (nI c) 38) = _
    rw [e38, nv_nI (by omega)]
  refine ⟨?_, z1⟩
  have o : ∀ i, (i < 21 ∨ i = 37 ∨ 39 ≤ i ∧ i < 81 ∨ 105 ≤ i) → newD w (nI a) (nI b) (nI c) i = w i := fun i hi => newD_o (by omega)
  have ezh : zh (newD w (nI a) (nI b) (nI c)) = zh w := by unfold zh; rw [o 37 (by omega)]
  have ezs : zs (newD w (nI a) (nI b) (nI c)) = zs w := by unfold zs; rw [o 41 (by omega)]
  have ezp : zp (newD w (nI a) (nI b) (nI c)) = zp w := by unfold zp; rw [o 42 (by omega)]
  have ezq : zq (newD w (nI a) (nI b) (nI c)) = zq w := by unfold zq; rw [o 44 (by omega)]
  unfold WFc
  rw [z1, ezh, ezs, ezp, ezq, e38, o 37 (by omega), o 6 (by omega), o 41 (by omega), o 42 (by omega), o 43 (by omega), o 44 (by omega), o 7 (by omega), o 8 (by omega)]
  refine ⟨a1, isn.nI (by omega), a3, a4, a5, a6, a7, a8, a9, fun h hh => ?_, fun h hh h2 => ?_, fun d hd => ?_, fun i hi => ?_, fun i hi => ?_, fun v hv => ?_, fun i hi => ?_⟩
  · rw [o (45 + h) (by omega), o (57 + h) (by omega), o (69 + h) (by omega), o (9 + h) (by omega), o (185 + h) (by omega)]
    exact b1 h hh
  · rw [o (185 + h) (by omega)]
    exact b2 h hh h2
  · by_cases e : d = zd w
    · subst e
      refine ⟨?_, b, hb1, hb, ?_⟩
      · unfold newD; rw [ud_n (by omega), ud_n (by omega), ud_n (by omega), ud_n (by omega), ud_n (by omega), ud_s]; exact isn.nI ha
      · unfold newD; rw [ud_n (by omega), ud_n (by omega), ud_n (by omega), ud_n (by omega), ud_s]
    · rw [newD_o (by omega), newD_o (by omega)]
      exact b3 d (by omega)
  · rw [o (105 + 3 * i) (by omega), o (105 + 3 * i + 1) (by omega), o (105 + 3 * i + 2) (by omega)]
    exact b4 i hi
  · rw [o (153 + 2 * i) (by omega), o (153 + 2 * i + 1) (by omega)]
    obtain ⟨g1, d, hd, ed⟩ := b5 i hi
    exact ⟨g1, d, by omega, ed⟩
  · rw [o (213 + v) (by omega)]
    exact b6 v hv
  · rw [o (197 + 2 * i) (by omega), o (197 + 2 * i + 1) (by omega)]
    exact b7 i hi
theorem pr_deed {a b c : Int32} (hN : 20000 ≤ N) : Pr (f_X11_deed N a b c) (f_X12_deed N a b c) := by
  intro m hI
  obtain ⟨LN, H, G, ⟨k, p, hk, hp, e2, e1, e3, hs⟩, -⟩ := id hI
  have ld := G.1.lzd
  have no : f_X12_deed N a b c m = some (mo1, m) → Wp (f_X12_deed N a b c m) (fun v2 m2 => mo1 = v2 ∧ Inv m2) := by
    intro h
    rw [h]
    exact wp_ret ⟨rfl, hI⟩
  unfold f_X11_deed
  simp only [li_0, li_1, li_2, li_3, li_4, li_5, li_6, li_7, li_8, li_9, li_10, li_11, li_12, li_13, li_14, li_15, li_16, li_17, li_18, li_19, li_20, li_21, li_22, li_23, li_24, li_25, li_26, li_27, li_28, li_29, li_30, li_31, li_32, li_37, li_38, li_39, li_40, li_41, li_42, li_43, li_44, li_45, li_46, li_47, li_48, li_49, li_50, li_57, li_59, li_60, li_61, li_62, li_63, li_64, li_65, li_69, li_81, li_89, li_90, li_92, li_97, li_99, li_100, li_101, li_103, li_104, li_105, li_106, li_108, li_111, li_112, li_113, li_114, li_115, li_116, li_117, li_119, li_122, li_123, li_124, li_125, li_126, li_127, li_128, li_129, li_130, li_131, li_132, li_133, li_134, li_135, li_136, li_137, li_140, li_141, li_142, li_143, li_145, li_147, li_150, li_153, li_159, li_160, li_161, li_162, li_185, li_197, li_213, li_222, li_223, li_255, li_256, li_257, li_258, li_259, li_260, li_261, li_262, li_263, li_264, li_271, li_272, li_273, li_274, li_275, li_276, li_277, li_278, li_300, li_400, li_420, li_500, li_802, li_820, li_823, li_839, li_855, li_871, li_887, li_999, li_1000, li_1001, li_1002, li_1003, li_1004, li_1005, li_1006, li_1007, li_1008, li_1009, li_1010, li_1011, li_1012, li_1013, li_1014, li_1015, li_1016, li_1017, li_1018, li_1019, li_1020, li_1021, li_1022, li_1023, li_1707, li_4096, li_9999, li_65536, li_100000, li_1000000, li_1664525, li_100000000, li_252645135, li_858993459, li_1000000007, li_1013904223, li_1431655765, li_m1, e_within, bd_s]
  rcases rng_cases (a := a) (l := 0) (h := 9) (by decide) (by decide) with ha | ⟨ha, a, -, ha9, rfl⟩
  · rw [ha, if_pos (by decide)]
    exact wp_ret (no (by unfold f_X12_deed; simp only [li_0, li_1, li_2, li_3, li_4, li_5, li_6, li_7, li_8, li_9, li_10, li_11, li_12, li_13, li_14, li_15, li_16, li_17, li_18, li_19, li_20, li_21, li_22, li_23, li_24, li_25, li_26, li_27, li_28, li_29, li_30, li_31, li_32, li_37, li_38, li_39, li_40, li_41, li_42, li_43, li_44, li_45, li_46, li_47, li_48, li_49, li_50, li_57, li_59, li_60, li_61, li_62, li_63, li_64, li_65, li_69, li_81, li_89, li_90, li_92, li_97, li_99, li_100, li_101, li_103, li_104, li_105, li_106, li_108, li_111, li_112, li_113, li_114, li_115, li_116, li_117, li_119, li_122, li_123, li_124, li_125, li_126, li_127, li_128, li_129, li_130, li_131, li_132, li_133, li_134, li_135, li_136, li_137, li_140, li_141, li_142, li_143, li_145, li_147, li_150, li_153, li_159, li_160, li_161, li_162, li_185, li_197, li_213, li_222, li_223, li_255, li_256, li_257, li_258, li_259, li_260, li_261, li_262, li_263, li_264, li_271, li_272, li_273, li_274, li_275, li_276, li_277, li_278, li_300, li_400, li_420, li_500, li_802, li_820, li_823, li_839, li_855, li_871, li_887, li_999, li_1000, li_1001, li_1002, li_1003, li_1004, li_1005, li_1006, li_1007, li_1008, li_1009, li_1010, li_1011, li_1012, li_1013, li_1014, li_1015, li_1016, li_1017, li_1018, li_1019, li_1020, li_1021, li_1022, li_1023, li_1707, li_4096, li_9999, li_65536, li_100000, li_1000000, li_1664525, li_100000000, li_252645135, li_858993459, li_1000000007, li_1013904223, li_1431655765, li_m1, e_isIn, bd_s]; rw [ha, if_pos (by decide)]))
  · rw [ha, if_neg (by decide)]
    rcases rng_cases (a := b) (l := 1) (h := 60) (by decide) (by decide) with hb | ⟨hb, b, hb1, hb9, rfl⟩
    · rw [hb, if_pos (by decide)]
      exact wp_ret (no (by unfold f_X12_deed; simp only [li_0, li_1, li_2, li_3, li_4, li_5, li_6, li_7, li_8, li_9, li_10, li_11, li_12, li_13, li_14, li_15, li_16, li_17, li_18, li_19, li_20, li_21, li_22, li_23, li_24, li_25, li_26, li_27, li_28, li_29, li_30, li_31, li_32, li_37, li_38, li_39, li_40, li_41, li_42, li_43, li_44, li_45, li_46, li_47, li_48, li_49, li_50, li_57, li_59, li_60, li_61, li_62, li_63, li_64, li_65, li_69, li_81, li_89, li_90, li_92, li_97, li_99, li_100, li_101, li_103, li_104, li_105, li_106, li_108, li_111, li_112, li_113, li_114, li_115, li_116, li_117, li_119, li_122, li_123, li_124, li_125, li_126, li_127, li_128, li_129, li_130, li_131, li_132, li_133, li_134, li_135, li_136, li_137, li_140, li_141, li_142, li_143, li_145, li_147, li_150, li_153, li_159, li_160, li_161, li_162, li_185, li_197, li_213, li_222, li_223, li_255, li_256, li_257, li_258, li_259, li_260, li_261, li_262, li_263, li_264, li_271, li_272, li_273, li_274, li_275, li_276, li_277, li_278, li_300, li_400, li_420, li_500, li_802, li_820, li_823, li_839, li_855, li_871, li_887, li_999, li_1000, li_1001, li_1002, li_1003, li_1004, li_1005, li_1006, li_1007, li_1008, li_1009, li_1010, li_1011, li_1012, li_1013, li_1014, li_1015, li_1016, li_1017, li_1018, li_1019, li_1020, li_1021, li_1022, li_1023, li_1707, li_4096, li_9999, li_65536, li_100000, li_1000000, li_1664525, li_100000000, li_252645135, li_858993459, li_1000000007, li_1013904223, li_1431655765, li_m1, e_isIn, bd_s]; rw [ha, if_neg (by decide), hb, if_pos (by decide)]))
    · rw [hb, if_neg (by decide)]
      rcases rng_cases (a := c) (l := 0) (h := 99) (by decide) (by decide) with hc | ⟨hc, c, -, hc9, rfl⟩
      · rw [hc, if_pos (by decide)]
        exact wp_ret (no (by unfold f_X12_deed; simp only [li_0, li_1, li_2, li_3, li_4, li_5, li_6, li_7, li_8, li_9, li_10, li_11, li_12, li_13, li_14, li_15, li_16, li_17, li_18, li_19, li_20, li_21, li_22, li_23, li_24, li_25, li_26, li_27, li_28, li_29, li_30, li_31, li_32, li_37, li_38, li_39, li_40, li_41, li_42, li_43, li_44, li_45, li_46, li_47, li_48, li_49, li_50, li_57, li_59, li_60, li_61, li_62, li_63, li_64, li_65, li_69, li_81, li_89, li_90, li_92, li_97, li_99, li_100, li_101, li_103, li_104, li_105, li_106, li_108, li_111, li_112, li_113, li_114, li_115, li_116, li_117, li_119, li_122, li_123, li_124, li_125, li_126, li_127, li_128, li_129, li_130, li_131, li_132, li_133, li_134, li_135, li_136, li_137, li_140, li_141, li_142, li_143, li_145, li_147, li_150, li_153, li_159, li_160, li_161, li_162, li_185, li_197, li_213, li_222, li_223, li_255, li_256, li_257, li_258, li_259, li_260, li_261, li_262, li_263, li_264, li_271, li_272, li_273, li_274, li_275, li_276, li_277, li_278, li_300, li_400, li_420, li_500, li_802, li_820, li_823, li_839, li_855, li_871, li_887, li_999, li_1000, li_1001, li_1002, li_1003, li_1004, li_1005, li_1006, li_1007, li_1008, li_1009, li_1010, li_1011, li_1012, li_1013, li_1014, li_1015, li_1016, li_1017, li_1018, li_1019, li_1020, li_1021, li_1022, li_1023, li_1707, li_4096, li_9999, li_65536, li_100000, li_1000000, li_1664525, li_100000000, li_252645135, li_858993459, li_1000000007, li_1013904223, li_1431655765, li_m1, e_isIn, bd_s]; rw [ha, if_neg (by decide), hb, if_neg (by decide), hc, if_pos (by decide)]))
      · rw [hc, if_neg (by decide)]
        have n3 : m 5 3 = nI (zd (m 124)) := H.dee.1.trans G.1.h38
        have t3 : (5, 8, 5) ∈ tbs := by decide
        rw [n3, bnd_s]
        by_cases h12 : zd (m 124) = 8
        · rw [e_addF H.fx t3 (by rw [n3, h12]), bd_s, if_pos (by decide)]
          exact wp_ret (no (by unfold f_X12_deed; simp only [li_0, li_1, li_2, li_3, li_4, li_5, li_6, li_7, li_8, li_9, li_10, li_11, li_12, li_13, li_14, li_15, li_16, li_17, li_18, li_19, li_20, li_21, li_22, li_23, li_24, li_25, li_26, li_27, li_28, li_29, li_30, li_31, li_32, li_37, li_38, li_39, li_40, li_41, li_42, li_43, li_44, li_45, li_46, li_47, li_48, li_49, li_50, li_57, li_59, li_60, li_61, li_62, li_63, li_64, li_65, li_69, li_81, li_89, li_90, li_92, li_97, li_99, li_100, li_101, li_103, li_104, li_105, li_106, li_108, li_111, li_112, li_113, li_114, li_115, li_116, li_117, li_119, li_122, li_123, li_124, li_125, li_126, li_127, li_128, li_129, li_130, li_131, li_132, li_133, li_134, li_135, li_136, li_137, li_140, li_141, li_142, li_143, li_145, li_147, li_150, li_153, li_159, li_160, li_161, li_162, li_185, li_197, li_213, li_222, li_223, li_255, li_256, li_257, li_258, li_259, li_260, li_261, li_262, li_263, li_264, li_271, li_272, li_273, li_274, li_275, li_276, li_277, li_278, li_300, li_400, li_420, li_500, li_802, li_820, li_823, li_839, li_855, li_871, li_887, li_999, li_1000, li_1001, li_1002, li_1003, li_1004, li_1005, li_1006, li_1007, li_1008, li_1009, li_1010, li_1011, li_1012, li_1013, li_1014, li_1015, li_1016, li_1017, li_1018, li_1019, li_1020, li_1021, li_1022, li_1023, li_1707, li_4096, li_9999, li_65536, li_100000, li_1000000, li_1664525, li_100000000, li_252645135, li_858993459, li_1000000007, li_1013904223, li_1431655765, li_m1, e_isIn, bd_s]; rw [ha, if_neg (by decide), hb, if_neg (by decide), hc, if_neg (by decide), if_pos (by rw [G.1.h38, h12])]))
        · have hlt : zd (m 124) < 8 := by omega
          obtain ⟨W', z1⟩ := newD_wf (c := c) G.1 hlt ha9 hb1 hb9
          rw [e_add hN H.fx t3 n3 hlt, bd_s, if_neg (show ¬ (1 : Int32) = nI 0 by decide), e_forget, bd_s]
          have F1 := H.fx.add (n := zd (m 124)) (a := nI a) (b := nI b) (c := nI c) (d := nI 0) t3
          generalize hm1 : madd m 5 5 (zd (m 124)) (nI a) (nI b) (nI c) (nI 0) = m1 at F1
          have fr1 : ∀ q, q ≠ 5 → q ≠ 6 → m1 q = m q := by
            intro q h3 h4
            rw [← hm1]
            unfold madd
            rw [mset_ne h3]
            funext j
            exact mrow_o h4
          have c3 : m1 5 3 = nI (zd (m 124) + 1) := by
            rw [← hm1]
            exact mset_at _ _ _ _
          have c4 : ∀ h', h' < zd (m 124) + 1 → ∀ c', c' < 5 → m1 6 (h' * 5 + c') = deeV (newD (m 124) (nI a) (nI b) (nI c)) h' c' := by
            intro h' hh' c' hc'
            rw [← hm1]
            unfold madd
            rw [mset_k (by decide)]
            unfold mrow
            by_cases e : h' = zd (m 124)
            · subst e
              rw [if_pos ⟨rfl, by omega, by omega⟩, Nat.add_sub_cancel_left]
              unfold deeV newD
              match c', hc' with
              | 0, _ => rw [if_pos rfl, ud_n (by omega), ud_n (by omega), ud_n (by omega), ud_n (by omega), ud_n (by omega), ud_s]; rfl
              | 1, _ => rw [if_neg (by decide), if_pos rfl, ud_n (by omega), ud_n (by omega), ud_n (by omega), ud_n (by omega), ud_s]; rfl
              | 2, _ => rw [if_neg (by decide), if_neg (by decide), if_pos rfl, ud_n (by omega), ud_n (by omega), ud_n (by omega), ud_s]; rfl
              | 3, _ => rw [if_neg (by decide), if_neg (by decide), if_neg (by decide), if_pos rfl, ud_n (by omega), ud_n (by omega), ud_s]; rfl
              | 4, _ => rw [if_neg (by decide), if_neg (by decide), if_neg (by decide), if_neg (by decide), ud_n (by omega), ud_s]; rfl
            · rw [if_neg (by omega), show m 6 (h' * 5 + c') = deeV (m 124) h' c' from H.dee.2 h' (by omega) c' hc']
              unfold deeV
              rw [newD_o (by omega), newD_o (by omega), newD_o (by omega), newD_o (by omega), newD_o (by omega)]
          have e38' : newD (m 124) (nI a) (nI b) (nI c) 38 = nI (zd (m 124) + 1) := by unfold newD; rw [ud_s]
          have H1 : HRep 2 LN (newD (m 124) (nI a) (nI b) (nI c)) m1 := by
            refine H.one (j0 := 3) G.1.sml (by decide) F1 (fun q h1 h2 h3 h4 => fr1 q (by omega) (by omega)) ⟨c3.trans e38'.symm, fun h' hh' c' hc' => c4 h' (by rw [← z1]; exact hh') c' hc'⟩ (fun j hj hne i hi => newD_o ?_)
            have hj' : j = 1 ∨ j = 3 ∨ j = 5 ∨ j = 7 ∨ j = 13 ∨ j = 15 ∨ j = 17 ∨ j = 19 ∨ j = 21 := by simpa [cmps] using hj
            rcases hj' with rfl | rfl | rfl | rfl | rfl | rfl | rfl | rfl | rfl
            · simp [own] at hi; omega
            · exact absurd rfl hne
            all_goals simp [own] at hi
            all_goals omega
          refine wp_ret ?_
          have g124 : mset m1 48 2 (nI 0) 124 = m 124 := by rw [mset_ne (by decide), fr1 124 (by decide) (by decide)]
          unfold f_X12_deed
          simp only [li_0, li_1, li_2, li_3, li_4, li_5, li_6, li_7, li_8, li_9, li_10, li_11, li_12, li_13, li_14, li_15, li_16, li_17, li_18, li_19, li_20, li_21, li_22, li_23, li_24, li_25, li_26, li_27, li_28, li_29, li_30, li_31, li_32, li_37, li_38, li_39, li_40, li_41, li_42, li_43, li_44, li_45, li_46, li_47, li_48, li_49, li_50, li_57, li_59, li_60, li_61, li_62, li_63, li_64, li_65, li_69, li_81, li_89, li_90, li_92, li_97, li_99, li_100, li_101, li_103, li_104, li_105, li_106, li_108, li_111, li_112, li_113, li_114, li_115, li_116, li_117, li_119, li_122, li_123, li_124, li_125, li_126, li_127, li_128, li_129, li_130, li_131, li_132, li_133, li_134, li_135, li_136, li_137, li_140, li_141, li_142, li_143, li_145, li_147, li_150, li_153, li_159, li_160, li_161, li_162, li_185, li_197, li_213, li_222, li_223, li_255, li_256, li_257, li_258, li_259, li_260, li_261, li_262, li_263, li_264, li_271, li_272, li_273, li_274, li_275, li_276, li_277, li_278, li_300, li_400, li_420, li_500, li_802, li_820, li_823, li_839, li_855, li_871, li_887, li_999, li_1000, li_1001, li_1002, li_1003, li_1004, li_1005, li_1006, li_1007, li_1008, li_1009, li_1010, li_1011, li_1012, li_1013, li_1014, li_1015, li_1016, li_1017, li_1018, li_1019, li_1020, li_1021, li_1022, li_1023, li_1707, li_4096, li_9999, li_65536, li_100000, li_1000000, li_1664525, li_100000000, li_252645135, li_858993459, li_1000000007, li_1013904223, li_1431655765, li_m1, e_isIn, bd_s]
          rw [ha, if_neg (by decide), hb, if_neg (by decide), hc, if_neg (by decide), g124, G.1.h38, if_neg (nI_ne h12 (by omega) (by decide)), bnd_s]
          simp only [nI_add]
          rw [inb_nI (by omega) (by omega), chk_t, nI_clamp (by omega), bnd_s, inb_nI (by omega) (by omega), chk_t, nI_clamp (by omega), bnd_s, inb_nI (by omega) (by omega), chk_t, nI_clamp (by omega), bnd_s, inb_nI (by omega) (by omega), chk_t, nI_clamp (by omega), bnd_s, inb_nI (by omega) (by omega), chk_t, nI_clamp (by omega), bnd_s, bnd_s, e_forgets, bd_s]
          generalize hm2 : mset (mset (mset (mset (mset (mset m1 48 2 (nI 0)) 124 (81 + zd (m 124)) (nI a)) 124 (89 + zd (m 124)) (nI b)) 124 (97 + zd (m 124)) (nI c)) 124 (21 + zd (m 124)) (nI 0)) 124 (29 + zd (m 124)) (nI 0) = m2
          have h2 : m2 124 = upd (upd (upd (upd (upd (m 124) (81 + zd (m 124)) (nI a)) (89 + zd (m 124)) (nI b)) (97 + zd (m 124)) (nI c)) (21 + zd (m 124)) (nI 0)) (29 + zd (m 124)) (nI 0) := by rw [← hm2, mset_eq, mset_eq, mset_eq, mset_eq, mset_eq, g124]
          have f2 : ∀ q, q ≠ 5 → q ≠ 6 → q ≠ 48 → q ≠ 124 → m2 q = m q := fun q h3 h4 h48 h124 => by rw [← hm2, mset_ne h124, mset_ne h124, mset_ne h124, mset_ne h124, mset_ne h124, mset_ne h48, fr1 q h3 h4]
          have f21 : ∀ q, q ≠ 48 → q ≠ 124 → m2 q = m1 q := fun q h48 h124 => by rw [← hm2, mset_ne h124, mset_ne h124, mset_ne h124, mset_ne h124, mset_ne h124, mset_ne h48]
          have g48 : ∀ j, j ≠ 2 → m2 48 j = m 48 j := fun j hj => by rw [← hm2, mset_k (by decide), mset_k (by decide), mset_k (by decide), mset_k (by decide), mset_k (by decide), mset_j hj, fr1 48 (by decide) (by decide)]
          have g482 : m2 48 2 = nI 0 := by rw [← hm2, mset_k (by decide), mset_k (by decide), mset_k (by decide), mset_k (by decide), mset_k (by decide), mset_at]
          have h38 : m2 124 38 = nI (zd (m 124)) := by rw [h2, ud_n (by omega), ud_n (by omega), ud_n (by omega), ud_n (by omega), ud_n (by omega), G.1.h38]
          rw [h38, nI_add]
          generalize hm3 : mset (mset m2 124 38 (nI (zd (m 124) + 1))) 123 4 (nI 0) = m3
          have h3 : m3 124 = newD (m 124) (nI a) (nI b) (nI c) := by
            rw [← hm3, mset_ne (by decide), mset_eq, h2]
            rfl
          have f3 : ∀ q, q ≠ 123 → q ≠ 124 → m3 q = m2 q := fun q h1 h2 => by rw [← hm3, mset_ne h1, mset_ne h2]
          have g123 : ∀ j, j ≠ 4 → m3 123 j = m 123 j := fun j hj => by rw [← hm3, mset_j hj, mset_k (by decide), f2 123 (by decide) (by decide) (by decide) (by decide)]
          have g1234 : m3 123 4 = nI 0 := by rw [← hm3, mset_at]
          refine wp_ret ⟨rfl, hI.re (LN := LN) (w' := newD (m 124) (nI a) (nI b) (nI c)) ?_ h3 ⟨W', ?_, G.2.2.cg (fun i hi => newD_o (by omega))⟩ (PastR.zero hp ?_ ?_ g1234) (fun q hq => ?_) ?_ ?_ ?_⟩
          · exact H1.cg W'.sml (F1.of (fun p hp' j hj => by
              have := (tbs_lo p hp').1
              have h48 : p.1 ≠ 48 := by
                have : ∀ p ∈ tbs, p.1 ≠ 48 := by decide +kernel
                exact this p hp'
              rw [f3 p.1 (by omega) (by omega), f21 p.1 h48 (by omega)])) (fun q h1 h2' => by rw [f3 q (by omega) (by omega), f21 q (by omega) (by omega)]) (fun _ _ _ _ => rfl)
          · obtain ⟨x, y, h0, h4, h5⟩ := G.2.1
            exact ⟨x, y, by rw [newD_o (by omega)]; exact h0, by rw [newD_o (by omega)]; exact h4, h5⟩
          · rw [f3 48 (by decide) (by decide), g48 1 (by decide)]; exact e1
          · rw [f3 48 (by decide) (by decide)]; exact g482
          · rw [f3 q (by omega) (by omega), f2 q (by omega) (by omega) (by omega) (by omega)]
          · rw [f3 103 (by decide) (by decide), f2 103 (by decide) (by decide) (by decide) (by decide)]; exact ⟨rfl, rfl⟩
          · rw [f3 113 (by decide) (by decide), f2 113 (by decide) (by decide) (by decide) (by decide)]
          · intro j hj
            exact g123 j (by omega)
/-- nothing is forgotten: MEANS, CLAQUE -/
theorem told2 {m1 m2 : Mem} (hI : Inv m) (H' : HRep 2 LN w' m1) (G' : Good LN w') (G : Good LN (m 124)) (f1 : ∀ c, (c < 3 ∨ 24 < c) → m1 c = m c) (h2 : m2 124 = w') (f2 : ∀ c, c ≠ 124 → m2 c = m1 c) (hk7 : ∀ i, (37 ≤ i ∧ i < 40) ∨ i = 41 ∨ (45 ≤ i ∧ i < 153) ∨ (185 ≤ i ∧ i < 197) → w' i = m 124 i) : Inv m2 := by
  obtain ⟨-, -, -, hP, -⟩ := id hI
  have f : ∀ c, (c < 3 ∨ 24 < c) → c ≠ 124 → m2 c = m c := fun c h1 h3 => by rw [f2 c h3, f1 c h1]
  have FX : Fx m2 := H'.fx.of (fun p hp j _ => by
    have := (tbs_lo p hp).1
    rw [f2 p.1 (by omega)])
  refine hI.re (LN := LN) (w' := w') (H'.cg G'.1.sml FX (fun c h1 h3 => f2 c (by omega)) (fun _ _ _ _ => rfl)) h2 G' (hP.cg G.1 (fun c h1 h3 => f c (by omega) (by omega)) ⟨by rw [f 48 (by omega) (by omega)], by rw [f 48 (by omega) (by omega)]⟩ (by rw [f 123 (by omega) (by omega)]) (f 126 (by omega) (by omega)) hk7) (fun c hc => f c (by omega) (by omega)) ?_ ?_ ?_
  · rw [f 103 (by omega) (by omega)]; exact ⟨rfl, rfl⟩
  · rw [f 113 (by omega) (by omega)]
  · intro j _
    rw [f 123 (by omega) (by omega)]
/-- CLAQUE: its lines alone change -/
theorem wfc_cla {k : Nat} (W0 : WFc w) (hw : ∀ i, ¬ (i = 44 ∨ (197 ≤ i ∧ i < 213)) → w' i = w i) (h44 : w' 44 = nI k) (hk : k ≤ 8) (hr : ∀ i, i < k → isn (w' (197 + 2 * i)) (2 ^ zh w - 1) ∧ isn (w' (197 + 2 * i + 1)) 12) : WFc w' ∧ zq w' = k := by
  obtain ⟨a1, a2, a3, a4, a5, a6, a7, a8, a9, b1, b2, b3, b4, b5, b6, b7⟩ := id W0
  obtain ⟨s1, s2, s3, s4, s5, s6⟩ := W0.sml
  have ezh : zh w' = zh w := by unfold zh; rw [hw 37 (by omega)]
  have ezd : zd w' = zd w := by unfold zd; rw [hw 38 (by omega)]
  have ezs : zs w' = zs w := by unfold zs; rw [hw 41 (by omega)]
  have ezp : zp w' = zp w := by unfold zp; rw [hw 42 (by omega)]
  have ezq : zq w' = k := by unfold zq; rw [h44, nv_nI (by omega)]
  refine ⟨?_, ezq⟩
  unfold WFc
  rw [ezh, ezd, ezs, ezp, ezq, h44, hw 37 (by omega), hw 38 (by omega), hw 6 (by omega), hw 41 (by omega), hw 42 (by omega), hw 43 (by omega), hw 7 (by omega), hw 8 (by omega)]
  refine ⟨a1, a2, a3, a4, a5, a6, isn.nI hk, a8, a9, fun h hh => ?_, fun h hh h2 => ?_, fun d hd => ?_, fun i hi => ?_, fun i hi => ?_, fun v hv => ?_, hr⟩
  · rw [hw (45 + h) (by omega), hw (57 + h) (by omega), hw (69 + h) (by omega), hw (9 + h) (by omega), hw (185 + h) (by omega)]
    exact b1 h hh
  · rw [hw (185 + h) (by omega)]
    exact b2 h hh h2
  · rw [hw (81 + d) (by omega), hw (89 + d) (by omega)]
    exact b3 d hd
  · rw [hw (105 + 3 * i) (by omega), hw (105 + 3 * i + 1) (by omega), hw (105 + 3 * i + 2) (by omega)]
    exact b4 i hi
  · rw [hw (153 + 2 * i) (by omega), hw (153 + 2 * i + 1) (by omega)]
    exact b5 i hi
  · rw [hw (213 + v) (by omega)]
    exact b6 v hv
theorem cla_own {j i : Nat} (hj : j ∈ cmps) (hne : j ≠ 19) (hi : own j i = true) : ¬ (i = 44 ∨ (197 ≤ i ∧ i < 213)) := by
  have hj' : j = 1 ∨ j = 3 ∨ j = 5 ∨ j = 7 ∨ j = 13 ∨ j = 15 ∨ j = 17 ∨ j = 19 ∨ j = 21 := by simpa [cmps] using hj
  rcases hj' with rfl | rfl | rfl | rfl | rfl | rfl | rfl | rfl | rfl
  all_goals simp [own] at hi
  all_goals omega
end MORE2
