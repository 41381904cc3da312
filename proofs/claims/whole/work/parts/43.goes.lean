/-! thoughts: goes, gain, calm -/
section GOES
variable {w w' v0 : Arr} {LN : List Lin} {m m' m2 : Mem} {N d : Nat}
def goeS (LN : List Lin) (w : Arr) (c : Nat) : Int32 := if c < 10 then eveS LN false w c else eveS LN false w (29 + (c - 10)) - w (29 + (c - 10))
theorem w_goesC {c : Nat} {a s2 t0 : Int32} (hN : 20000 ≤ N) (H : HRep 2 LN w m) (G : Good LN w) (h : (a = nI 0 ∧ s2 = nI 0 ∧ c = 0) ∨ (a = nI 1 ∧ s2 = nI 0 ∧ c = 2) ∨ ∃ d, d < zd w ∧ a = nI (10 + d) ∧ s2 = nI 1 ∧ c = 10 + d ∧ t0 = w (29 + d)) :
    Wp (f_X11_goes_J68 N a s2 t0 m) (fun v m' => v = goeS LN w c ∧ HRep 2 LN w m' ∧ m' 113 4 = nI 0 ∧ Fr [(3, 24), (92, 98), (111, 115)] m m') := by
  have wf := eveS_wf (LN := LN) (tru := false) G.1 G.2.2
  unfold f_X11_goes_J68
  simp only [li_0, li_1, li_2, li_3, li_4, li_5, li_6, li_7, li_8, li_9, li_10, li_11, li_12, li_13, li_14, li_15, li_16, li_17, li_18, li_19, li_20, li_21, li_22, li_23, li_24, li_25, li_26, li_27, li_28, li_29, li_30, li_31, li_32, li_37, li_38, li_39, li_40, li_41, li_42, li_43, li_44, li_45, li_46, li_47, li_48, li_49, li_50, li_57, li_59, li_60, li_61, li_62, li_63, li_64, li_65, li_69, li_81, li_89, li_90, li_92, li_97, li_99, li_100, li_101, li_103, li_104, li_105, li_106, li_108, li_111, li_112, li_113, li_114, li_115, li_116, li_117, li_119, li_122, li_123, li_124, li_125, li_126, li_127, li_128, li_129, li_130, li_131, li_132, li_133, li_134, li_135, li_136, li_137, li_140, li_141, li_142, li_143, li_145, li_147, li_150, li_153, li_159, li_160, li_161, li_162, li_185, li_197, li_213, li_222, li_223, li_255, li_256, li_257, li_258, li_259, li_260, li_261, li_262, li_263, li_264, li_271, li_272, li_273, li_274, li_275, li_276, li_277, li_278, li_300, li_400, li_420, li_500, li_802, li_820, li_823, li_839, li_855, li_871, li_887, li_999, li_1000, li_1001, li_1002, li_1003, li_1004, li_1005, li_1006, li_1007, li_1008, li_1009, li_1010, li_1011, li_1012, li_1013, li_1014, li_1015, li_1016, li_1017, li_1018, li_1019, li_1020, li_1021, li_1022, li_1023, li_1707, li_4096, li_9999, li_65536, li_100000, li_1000000, li_1664525, li_100000000, li_252645135, li_858993459, li_1000000007, li_1013904223, li_1431655765, li_m1]
  refine wp_bind (thk_in H G.1) ?_
  rintro _ m1 ⟨H1, hM1, f1⟩
  rw [bnd_s]
  have fa : Fr [(113, 113)] m1 (mset m1 113 4 (nI 1)) := Fr.set Fr.rf (by decide)
  refine wp_bind (w_eveC (tru := false) hN (H1.fr G.1.sml fa (by decide +kernel)) G.1 G.2.2 (mset_at _ _ _ _)) ?_
  rintro _ m2 ⟨-, H2, f2, t2⟩
  rw [bnd_s]
  have fb : Fr [(113, 113)] m2 (mset m2 113 4 (nI 0)) := Fr.set Fr.rf (by decide)
  have H3 := H2.fr wf.1.sml fb (by decide +kernel)
  have f13 : Fr [(6, 6), (8, 10), (111, 115)] m1 (mset m2 113 4 (nI 0)) := ((fa.mono (by decide)).trans f2).trans (fb.mono (by decide))
  have h4 : mset m2 113 4 (nI 0) 113 4 = nI 0 := mset_at _ _ _ _
  generalize mset m2 113 4 (nI 0) = m3 at H3 f13 h4 ⊢
  have back : ∀ v, v = goeS LN w c → Wp (bd (f_X3_back N 92 m3) fun _ m_154 => some (v, m_154)) (fun v m' => v = goeS LN w c ∧ HRep 2 LN w m' ∧ m' 113 4 = nI 0 ∧ Fr [(3, 24), (92, 98), (111, 115)] m m') := by
    rintro v rfl
    refine wp_bind (thk_out H3 wf.1.sml G.1 (hM1.fr G.1.sml f13 (by decide)) (fun i hi => eveS_f G.1 hi)) ?_
    rintro _ m4 ⟨H4, f4⟩
    exact wp_ret ⟨rfl, H4, by rw [f4.at 113 (by decide)]; exact h4, ((f1.mono (by decide)).trans (f13.mono (by decide))).trans (f4.mono (by decide))⟩
  rcases h with ⟨rfl, rfl, rfl⟩ | ⟨rfl, rfl, rfl⟩ | ⟨d, hd, rfl, rfl, rfl, rfl⟩
  · rw [if_pos rfl, if_pos rfl, hr_hour H3 (by decide), bd_s]
    exact back _ rfl
  · rw [if_pos rfl, if_neg (by decide), hr_hour H3 (by decide), bd_s]
    exact back _ rfl
  · have zdE : zd (eveS LN false w) = zd w := by
      unfold zd
      rw [eveS_f G.1 (by decide)]
    rw [if_neg (by decide), pk_sub (by omega), Nat.add_sub_cancel_left, hr_dee H3 wf.1 (by rw [zdE]; exact hd) (by decide), bd_s, bnd_s]
    refine back _ ?_
    unfold goeS
    rw [if_neg (by omega), Nat.add_sub_cancel_left]
    rfl
theorem w_goesM {c : Nat} {a : Int32} (hN : 20000 ≤ N) (hm : m 124 = w) (G : Good LN w) (ho : lawOk LN) (h : (a = nI 0 ∧ c = 0) ∨ (a = nI 1 ∧ c = 2) ∨ ∃ d, d < zd w ∧ a = nI (10 + d) ∧ c = 10 + d) :
    Wp (f_X12_goes_J24 N a m) (fun v m' => v = goeS LN w c ∧ m' 124 = w ∧ (∀ j, j < 26 → m' 123 j = m 123 j) ∧ Fr [(123, 124), (127, 127), (132, 134)] m m') := by
  have ld := G.1.lzd
  unfold f_X12_goes_J24
  simp only [li_0, li_1, li_2, li_3, li_4, li_5, li_6, li_7, li_8, li_9, li_10, li_11, li_12, li_13, li_14, li_15, li_16, li_17, li_18, li_19, li_20, li_21, li_22, li_23, li_24, li_25, li_26, li_27, li_28, li_29, li_30, li_31, li_32, li_37, li_38, li_39, li_40, li_41, li_42, li_43, li_44, li_45, li_46, li_47, li_48, li_49, li_50, li_57, li_59, li_60, li_61, li_62, li_63, li_64, li_65, li_69, li_81, li_89, li_90, li_92, li_97, li_99, li_100, li_101, li_103, li_104, li_105, li_106, li_108, li_111, li_112, li_113, li_114, li_115, li_116, li_117, li_119, li_122, li_123, li_124, li_125, li_126, li_127, li_128, li_129, li_130, li_131, li_132, li_133, li_134, li_135, li_136, li_137, li_140, li_141, li_142, li_143, li_145, li_147, li_150, li_153, li_159, li_160, li_161, li_162, li_185, li_197, li_213, li_222, li_223, li_255, li_256, li_257, li_258, li_259, li_260, li_261, li_262, li_263, li_264, li_271, li_272, li_273, li_274, li_275, li_276, li_277, li_278, li_300, li_400, li_420, li_500, li_802, li_820, li_823, li_839, li_855, li_871, li_887, li_999, li_1000, li_1001, li_1002, li_1003, li_1004, li_1005, li_1006, li_1007, li_1008, li_1009, li_1010, li_1011, li_1012, li_1013, li_1014, li_1015, li_1016, li_1017, li_1018, li_1019, li_1020, li_1021, li_1022, li_1023, li_1707, li_4096, li_9999, li_65536, li_100000, li_1000000, li_1664525, li_100000000, li_252645135, li_858993459, li_1000000007, li_1013904223, li_1431655765, li_m1]
  refine wp_bind (w_layM hN) ?_
  rintro _ m1 ⟨h7, h26, hj, f1⟩
  have e124 : m1 124 = w := (f1.at 124 (by decide)).trans hm
  refine wp_bind (w_eveM (tru := false) hN e124 G.1 G.2.2 ho h26) ?_
  rintro _ m2 ⟨-, h2, j2, f2⟩
  have e7 : ∀ j, j < 37 → m2 127 j = w j := fun j hj => by rw [f2.at 127 (by decide), h7 j hj, hm]
  have back : ∀ v, v = goeS LN w c → Wp (bd (f_X12_putsBack N m2) fun _ m_87 => some (v, m_87)) (fun v m' => v = goeS LN w c ∧ m' 124 = w ∧ (∀ j, j < 26 → m' 123 j = m 123 j) ∧ Fr [(123, 124), (127, 127), (132, 134)] m m') := by
    rintro v rfl
    refine wp_bind (w_pbM (w := w) hN e7 (fun j hj => by rw [h2]; exact eveS_f G.1 hj)) ?_
    rintro _ m4 ⟨h4, f4⟩
    exact wp_ret ⟨rfl, h4, fun j hj2 => by rw [f4.at 123 (by decide), j2 j (by omega), hj j (by omega)], ((f1.mono (by decide)).trans (f2.mono (by decide))).trans (f4.mono (by decide))⟩
  rcases h with ⟨rfl, rfl⟩ | ⟨rfl, rfl⟩ | ⟨d, hd, rfl, rfl⟩
  · rw [if_pos rfl, bnd_s, h2]
    exact back _ rfl
  · rw [if_neg (by decide), if_pos rfl, bnd_s, h2]
    exact back _ rfl
  · rw [if_neg (nI_ne (by omega) (by omega) (by decide)), if_neg (nI_ne (by omega) (by omega) (by decide)), nI_add, pk_sub (by omega), show 29 + (10 + d) - 10 = 29 + d by omega, inb_nI (by omega) (by omega), chk_t, inb_nI (by omega) (by omega), chk_t, nI_clamp (by omega), bnd_s, h2, e7 _ (by omega)]
    refine back _ ?_
    unfold goeS
    rw [if_neg (by omega), Nat.add_sub_cancel_left]
theorem pr_goes {a : Int32} (hN : 20000 ≤ N) : Pr (f_X11_goes N a) (f_X12_goes N a) := by
  intro m hI
  obtain ⟨LN, H, G, -⟩ := id hI
  have ld := G.1.lzd
  have fin : ∀ {c : Nat} {s2 t0 : Int32} {x : Ans}, x = f_X11_goes_J68 N a s2 t0 m → ((a = nI 0 ∧ s2 = nI 0 ∧ c = 0) ∨ (a = nI 1 ∧ s2 = nI 0 ∧ c = 2) ∨ ∃ d, d < zd (m 124) ∧ a = nI (10 + d) ∧ s2 = nI 1 ∧ c = 10 + d ∧ t0 = m 124 (29 + d)) →
      (∀ m1 : Mem, m1 124 = m 124 → f_X12_goes N a m1 = f_X12_goes_J24 N a m1) → Wp x (fun v1 m1 => Wp (f_X12_goes N a m1) (fun v2 m2 => v1 = v2 ∧ Inv m2)) := by
    rintro c s2 t0 x rfl h hM
    refine wp_mono (w_goesC hN H G h) ?_
    rintro _ m1 ⟨rfl, H1, t1, f1⟩
    have e124 : m1 124 = m 124 := f1.at 124 (by decide)
    rw [hM m1 e124]
    refine wp_mono (w_goesM (c := c) hN e124 G H.lawk ?_) ?_
    · rcases h with ⟨h1, -, h2⟩ | ⟨h1, -, h2⟩ | ⟨d, hd, h1, -, h2, -⟩
      · exact Or.inl ⟨h1, h2⟩
      · exact Or.inr (Or.inl ⟨h1, h2⟩)
      · exact Or.inr (Or.inr ⟨d, hd, h1, h2⟩)
    · rintro _ m2 ⟨rfl, h2, j2, f2⟩
      exact ⟨rfl, hI.th2 H1 G f1 t1 h2 j2 f2⟩
  have hM01 : (a = nI 0 ∨ a = nI 1) → ∀ m1 : Mem, m1 124 = m 124 → f_X12_goes N a m1 = f_X12_goes_J24 N a m1 := by
    intro h m1 _
    unfold f_X12_goes
    simp only [li_0, li_1, li_2, li_3, li_4, li_5, li_6, li_7, li_8, li_9, li_10, li_11, li_12, li_13, li_14, li_15, li_16, li_17, li_18, li_19, li_20, li_21, li_22, li_23, li_24, li_25, li_26, li_27, li_28, li_29, li_30, li_31, li_32, li_37, li_38, li_39, li_40, li_41, li_42, li_43, li_44, li_45, li_46, li_47, li_48, li_49, li_50, li_57, li_59, li_60, li_61, li_62, li_63, li_64, li_65, li_69, li_81, li_89, li_90, li_92, li_97, li_99, li_100, li_101, li_103, li_104, li_105, li_106, li_108, li_111, li_112, li_113, li_114, li_115, li_116, li_117, li_119, li_122, li_123, li_124, li_125, li_126, li_127, li_128, li_129, li_130, li_131, li_132, li_133, li_134, li_135, li_136, li_137, li_140, li_141, li_142, li_143, li_145, li_147, li_150, li_153, li_159, li_160, li_161, li_162, li_185, li_197, li_213, li_222, li_223, li_255, li_256, li_257, li_258, li_259, li_260, li_261, li_262, li_263, li_264, li_271, li_272, li_273, li_274, li_275, li_276, li_277, li_278, li_300, li_400, li_420, li_500, li_802, li_820, li_823, li_839, li_855, li_871, li_887, li_999, li_1000, li_1001, li_1002, li_1003, li_1004, li_1005, li_1006, li_1007, li_1008, li_1009, li_1010, li_1011, li_1012, li_1013, li_1014, li_1015, li_1016, li_1017, li_1018, li_1019, li_1020, li_1021, li_1022, li_1023, li_1707, li_4096, li_9999, li_65536, li_100000, li_1000000, li_1664525, li_100000000, li_252645135, li_858993459, li_1000000007, li_1013904223, li_1431655765, li_m1]
    rw [e_isIn, bd_s, decide_eq_true (by rcases h with rfl | rfl <;> decide), if_neg (by decide)]
  rcases sub10 a (n := zd (m 124)) (by omega) with ⟨e, hne⟩ | ⟨d, hd, rfl⟩
  · by_cases h0 : a = nI 0
    · refine fin (c := 0) (s2 := nI 0) (t0 := nI 0) ?_ (Or.inl ⟨h0, rfl, rfl⟩) (hM01 (Or.inl h0))
      subst h0
      unfold f_X11_goes f_X11_goes_J27 f_X11_goes_J28 f_X11_goes_J45
      simp only [li_0, li_1, li_2, li_3, li_4, li_5, li_6, li_7, li_8, li_9, li_10, li_11, li_12, li_13, li_14, li_15, li_16, li_17, li_18, li_19, li_20, li_21, li_22, li_23, li_24, li_25, li_26, li_27, li_28, li_29, li_30, li_31, li_32, li_37, li_38, li_39, li_40, li_41, li_42, li_43, li_44, li_45, li_46, li_47, li_48, li_49, li_50, li_57, li_59, li_60, li_61, li_62, li_63, li_64, li_65, li_69, li_81, li_89, li_90, li_92, li_97, li_99, li_100, li_101, li_103, li_104, li_105, li_106, li_108, li_111, li_112, li_113, li_114, li_115, li_116, li_117, li_119, li_122, li_123, li_124, li_125, li_126, li_127, li_128, li_129, li_130, li_131, li_132, li_133, li_134, li_135, li_136, li_137, li_140, li_141, li_142, li_143, li_145, li_147, li_150, li_153, li_159, li_160, li_161, li_162, li_185, li_197, li_213, li_222, li_223, li_255, li_256, li_257, li_258, li_259, li_260, li_261, li_262, li_263, li_264, li_271, li_272, li_273, li_274, li_275, li_276, li_277, li_278, li_300, li_400, li_420, li_500, li_802, li_820, li_823, li_839, li_855, li_871, li_887, li_999, li_1000, li_1001, li_1002, li_1003, li_1004, li_1005, li_1006, li_1007, li_1008, li_1009, li_1010, li_1011, li_1012, li_1013, li_1014, li_1015, li_1016, li_1017, li_1018, li_1019, li_1020, li_1021, li_1022, li_1023, li_1707, li_4096, li_9999, li_65536, li_100000, li_1000000, li_1664525, li_100000000, li_252645135, li_858993459, li_1000000007, li_1013904223, li_1431655765, li_m1]
      rw [if_pos (by decide), if_pos trivial, if_pos trivial]
    · by_cases h1 : a = nI 1
      · refine fin (c := 2) (s2 := nI 0) (t0 := nI 0) ?_ (Or.inr (Or.inl ⟨h1, rfl, rfl⟩)) (hM01 (Or.inr h1))
        subst h1
        unfold f_X11_goes f_X11_goes_J27 f_X11_goes_J28 f_X11_goes_J45
        simp only [li_0, li_1, li_2, li_3, li_4, li_5, li_6, li_7, li_8, li_9, li_10, li_11, li_12, li_13, li_14, li_15, li_16, li_17, li_18, li_19, li_20, li_21, li_22, li_23, li_24, li_25, li_26, li_27, li_28, li_29, li_30, li_31, li_32, li_37, li_38, li_39, li_40, li_41, li_42, li_43, li_44, li_45, li_46, li_47, li_48, li_49, li_50, li_57, li_59, li_60, li_61, li_62, li_63, li_64, li_65, li_69, li_81, li_89, li_90, li_92, li_97, li_99, li_100, li_101, li_103, li_104, li_105, li_106, li_108, li_111, li_112, li_113, li_114, li_115, li_116, li_117, li_119, li_122, li_123, li_124, li_125, li_126, li_127, li_128, li_129, li_130, li_131, li_132, li_133, li_134, li_135, li_136, li_137, li_140, li_141, li_142, li_143, li_145, li_147, li_150, li_153, li_159, li_160, li_161, li_162, li_185, li_197, li_213, li_222, li_223, li_255, li_256, li_257, li_258, li_259, li_260, li_261, li_262, li_263, li_264, li_271, li_272, li_273, li_274, li_275, li_276, li_277, li_278, li_300, li_400, li_420, li_500, li_802, li_820, li_823, li_839, li_855, li_871, li_887, li_999, li_1000, li_1001, li_1002, li_1003, li_1004, li_1005, li_1006, li_1007, li_1008, li_1009, li_1010, li_1011, li_1012, li_1013, li_1014, li_1015, li_1016, li_1017, li_1018, li_1019, li_1020, li_1021, li_1022, li_1023, li_1707, li_4096, li_9999, li_65536, li_100000, li_1000000, li_1664525, li_100000000, li_252645135, li_858993459, li_1000000007, li_1013904223, li_1431655765, li_m1]
        rw [if_pos (by decide), if_neg (by decide), if_pos trivial, if_pos trivial]
      · have hno : Wp (some (-(nI 100000), m)) (fun v1 m1 => Wp (f_X12_goes N a m1) (fun v2 m2 => v1 = v2 ∧ Inv m2)) := by
          refine wp_ret ?_
          unfold f_X12_goes
          simp only [li_0, li_1, li_2, li_3, li_4, li_5, li_6, li_7, li_8, li_9, li_10, li_11, li_12, li_13, li_14, li_15, li_16, li_17, li_18, li_19, li_20, li_21, li_22, li_23, li_24, li_25, li_26, li_27, li_28, li_29, li_30, li_31, li_32, li_37, li_38, li_39, li_40, li_41, li_42, li_43, li_44, li_45, li_46, li_47, li_48, li_49, li_50, li_57, li_59, li_60, li_61, li_62, li_63, li_64, li_65, li_69, li_81, li_89, li_90, li_92, li_97, li_99, li_100, li_101, li_103, li_104, li_105, li_106, li_108, li_111, li_112, li_113, li_114, li_115, li_116, li_117, li_119, li_122, li_123, li_124, li_125, li_126, li_127, li_128, li_129, li_130, li_131, li_132, li_133, li_134, li_135, li_136, li_137, li_140, li_141, li_142, li_143, li_145, li_147, li_150, li_153, li_159, li_160, li_161, li_162, li_185, li_197, li_213, li_222, li_223, li_255, li_256, li_257, li_258, li_259, li_260, li_261, li_262, li_263, li_264, li_271, li_272, li_273, li_274, li_275, li_276, li_277, li_278, li_300, li_400, li_420, li_500, li_802, li_820, li_823, li_839, li_855, li_871, li_887, li_999, li_1000, li_1001, li_1002, li_1003, li_1004, li_1005, li_1006, li_1007, li_1008, li_1009, li_1010, li_1011, li_1012, li_1013, li_1014, li_1015, li_1016, li_1017, li_1018, li_1019, li_1020, li_1021, li_1022, li_1023, li_1707, li_4096, li_9999, li_65536, li_100000, li_1000000, li_1664525, li_100000000, li_252645135, li_858993459, li_1000000007, li_1013904223, li_1431655765, li_m1]
          rw [e_isIn, bd_s, decide_eq_false, if_pos (by decide), e_isDeed rfl G.1, e, bd_s, if_pos (by decide)]
          · exact wp_ret ⟨rfl, hI⟩
          · rintro ⟨q1, q2⟩
            obtain ⟨k, hk, rfl⟩ := nI_of (x := a) (Int32.not_lt.mpr q1)
            rw [nI_leI hk (by decide)] at q2
            rcases (show k = 0 ∨ k = 1 by omega) with rfl | rfl
            · exact h0 rfl
            · exact h1 rfl
        unfold f_X11_goes f_X11_goes_J27 f_X11_goes_J28
        simp only [li_0, li_1, li_2, li_3, li_4, li_5, li_6, li_7, li_8, li_9, li_10, li_11, li_12, li_13, li_14, li_15, li_16, li_17, li_18, li_19, li_20, li_21, li_22, li_23, li_24, li_25, li_26, li_27, li_28, li_29, li_30, li_31, li_32, li_37, li_38, li_39, li_40, li_41, li_42, li_43, li_44, li_45, li_46, li_47, li_48, li_49, li_50, li_57, li_59, li_60, li_61, li_62, li_63, li_64, li_65, li_69, li_81, li_89, li_90, li_92, li_97, li_99, li_100, li_101, li_103, li_104, li_105, li_106, li_108, li_111, li_112, li_113, li_114, li_115, li_116, li_117, li_119, li_122, li_123, li_124, li_125, li_126, li_127, li_128, li_129, li_130, li_131, li_132, li_133, li_134, li_135, li_136, li_137, li_140, li_141, li_142, li_143, li_145, li_147, li_150, li_153, li_159, li_160, li_161, li_162, li_185, li_197, li_213, li_222, li_223, li_255, li_256, li_257, li_258, li_259, li_260, li_261, li_262, li_263, li_264, li_271, li_272, li_273, li_274, li_275, li_276, li_277, li_278, li_300, li_400, li_420, li_500, li_802, li_820, li_823, li_839, li_855, li_871, li_887, li_999, li_1000, li_1001, li_1002, li_1003, li_1004, li_1005, li_1006, li_1007, li_1008, li_1009, li_1010, li_1011, li_1012, li_1013, li_1014, li_1015, li_1016, li_1017, li_1018, li_1019, li_1020, li_1021, li_1022, li_1023, li_1707, li_4096, li_9999, li_65536, li_100000, li_1000000, li_1664525, li_100000000, li_252645135, li_858993459, li_1000000007, li_1013904223, li_1431655765, li_m1]
        rw [if_neg h0, if_neg h1, if_pos trivial]
        refine wp_ite (fun q => hno) (fun q => ?_)
        rw [hr_hasD H G.1, e, bd_s, if_pos (by decide), if_neg h0, if_neg h1, if_pos trivial]
        exact hno
  · refine fin (c := 10 + d) (s2 := nI 1) (t0 := m 124 (29 + d)) ?_ (Or.inr (Or.inr ⟨d, hd, rfl, rfl, rfl, rfl⟩)) (fun m1 e1 => ?_)
    · unfold f_X11_goes f_X11_goes_J28 f_X11_goes_J45
      simp only [li_0, li_1, li_2, li_3, li_4, li_5, li_6, li_7, li_8, li_9, li_10, li_11, li_12, li_13, li_14, li_15, li_16, li_17, li_18, li_19, li_20, li_21, li_22, li_23, li_24, li_25, li_26, li_27, li_28, li_29, li_30, li_31, li_32, li_37, li_38, li_39, li_40, li_41, li_42, li_43, li_44, li_45, li_46, li_47, li_48, li_49, li_50, li_57, li_59, li_60, li_61, li_62, li_63, li_64, li_65, li_69, li_81, li_89, li_90, li_92, li_97, li_99, li_100, li_101, li_103, li_104, li_105, li_106, li_108, li_111, li_112, li_113, li_114, li_115, li_116, li_117, li_119, li_122, li_123, li_124, li_125, li_126, li_127, li_128, li_129, li_130, li_131, li_132, li_133, li_134, li_135, li_136, li_137, li_140, li_141, li_142, li_143, li_145, li_147, li_150, li_153, li_159, li_160, li_161, li_162, li_185, li_197, li_213, li_222, li_223, li_255, li_256, li_257, li_258, li_259, li_260, li_261, li_262, li_263, li_264, li_271, li_272, li_273, li_274, li_275, li_276, li_277, li_278, li_300, li_400, li_420, li_500, li_802, li_820, li_823, li_839, li_855, li_871, li_887, li_999, li_1000, li_1001, li_1002, li_1003, li_1004, li_1005, li_1006, li_1007, li_1008, li_1009, li_1010, li_1011, li_1012, li_1013, li_1014, li_1015, li_1016, li_1017, li_1018, li_1019, li_1020, li_1021, li_1022, li_1023, li_1707, li_4096, li_9999, li_65536, li_100000, li_1000000, li_1664525, li_100000000, li_252645135, li_858993459, li_1000000007, li_1013904223, li_1431655765, li_m1]
      rw [if_neg (nI_nlt (by omega) (by omega)), pk_sub (by omega), Nat.add_sub_cancel_left, hr_hasD H G.1, inb_nI hd (by omega), bd_s, if_neg (by decide), if_neg (nI_ne (by omega) (by omega) (by decide)), if_neg (nI_ne (by omega) (by omega) (by decide)), if_neg (by decide), if_neg (by decide), hr_dee H G.1 hd (by decide), bd_s]
      rfl
    · unfold f_X12_goes
      simp only [li_0, li_1, li_2, li_3, li_4, li_5, li_6, li_7, li_8, li_9, li_10, li_11, li_12, li_13, li_14, li_15, li_16, li_17, li_18, li_19, li_20, li_21, li_22, li_23, li_24, li_25, li_26, li_27, li_28, li_29, li_30, li_31, li_32, li_37, li_38, li_39, li_40, li_41, li_42, li_43, li_44, li_45, li_46, li_47, li_48, li_49, li_50, li_57, li_59, li_60, li_61, li_62, li_63, li_64, li_65, li_69, li_81, li_89, li_90, li_92, li_97, li_99, li_100, li_101, li_103, li_104, li_105, li_106, li_108, li_111, li_112, li_113, li_114, li_115, li_116, li_117, li_119, li_122, li_123, li_124, li_125, li_126, li_127, li_128, li_129, li_130, li_131, li_132, li_133, li_134, li_135, li_136, li_137, li_140, li_141, li_142, li_143, li_145, li_147, li_150, li_153, li_159, li_160, li_161, li_162, li_185, li_197, li_213, li_222, li_223, li_255, li_256, li_257, li_258, li_259, li_260, li_261, li_262, li_263, li_264, li_271, li_272, li_273, li_274, li_275, li_276, li_277, li_278, li_300, li_400, li_420, li_500, li_802, li_820, li_823, li_839, li_855, li_871, li_887, li_999, li_1000, li_1001, li_1002, li_1003, li_1004, li_1005, li_1006, li_1007, li_1008, li_1009, li_1010, li_1011, li_1012, li_1013, li_1014, li_1015, li_1016, li_1017, li_1018, li_1019, li_1020, li_1021, li_1022, li_1023, li_1707, li_4096, li_9999, li_65536, li_100000, li_1000000, li_1664525, li_100000000, li_252645135, li_858993459, li_1000000007, li_1013904223, li_1431655765, li_m1]
      rw [e_isIn, bd_s, rng_is (by omega) (by decide) (by decide), decide_eq_false (by omega), if_pos (by decide), pk_sub (by omega), Nat.add_sub_cancel_left, e_isDeed e1 G.1, inb_nI hd (by omega), bd_s, if_neg (by decide)]
/-! gain -/
def gaiS (w : Arr) (cl : Nat) : Nat → Nat
  | 0 => 0
  | n + 1 => gaiS w cl n + if cl.testBit n = true then pc (sdf (zn w n) cl) else 0
theorem hea_zn (W0 : WFc w) {h : Nat} (hh : h < zh w) : w (185 + h) = nI (zn w h) ∧ zn w h < 4096 := by
  have p := pow_le31 W0.lzh
  have e := (W0.hea hh).2.2.2.2
  exact ⟨e.eq (by omega), by have := e.le (by omega); unfold zn; omega⟩
theorem pr_gain {a : Int32} (hN : 20000 ≤ N) : Pr (f_X11_gain N a) (f_X12_gain N a) := by
  intro m hI
  obtain ⟨LN, H, G, -⟩ := id hI
  have ld := G.1.lzd
  have lh := G.1.lzh
  have p := pow_le31 lh
  unfold f_X11_gain
  simp only [li_0, li_1, li_2, li_3, li_4, li_5, li_6, li_7, li_8, li_9, li_10, li_11, li_12, li_13, li_14, li_15, li_16, li_17, li_18, li_19, li_20, li_21, li_22, li_23, li_24, li_25, li_26, li_27, li_28, li_29, li_30, li_31, li_32, li_37, li_38, li_39, li_40, li_41, li_42, li_43, li_44, li_45, li_46, li_47, li_48, li_49, li_50, li_57, li_59, li_60, li_61, li_62, li_63, li_64, li_65, li_69, li_81, li_89, li_90, li_92, li_97, li_99, li_100, li_101, li_103, li_104, li_105, li_106, li_108, li_111, li_112, li_113, li_114, li_115, li_116, li_117, li_119, li_122, li_123, li_124, li_125, li_126, li_127, li_128, li_129, li_130, li_131, li_132, li_133, li_134, li_135, li_136, li_137, li_140, li_141, li_142, li_143, li_145, li_147, li_150, li_153, li_159, li_160, li_161, li_162, li_185, li_197, li_213, li_222, li_223, li_255, li_256, li_257, li_258, li_259, li_260, li_261, li_262, li_263, li_264, li_271, li_272, li_273, li_274, li_275, li_276, li_277, li_278, li_300, li_400, li_420, li_500, li_802, li_820, li_823, li_839, li_855, li_871, li_887, li_999, li_1000, li_1001, li_1002, li_1003, li_1004, li_1005, li_1006, li_1007, li_1008, li_1009, li_1010, li_1011, li_1012, li_1013, li_1014, li_1015, li_1016, li_1017, li_1018, li_1019, li_1020, li_1021, li_1022, li_1023, li_1707, li_4096, li_9999, li_65536, li_100000, li_1000000, li_1664525, li_100000000, li_252645135, li_858993459, li_1000000007, li_1013904223, li_1431655765, li_m1]
  rw [hr_hasD H G.1, bd_s]
  rcases inb_cases a (n := zd (m 124)) (by omega) with ⟨e, -⟩ | ⟨d, hd, rfl⟩
  · rw [e, if_pos (by decide)]
    refine wp_ret ?_
    unfold f_X12_gain
    simp only [li_0, li_1, li_2, li_3, li_4, li_5, li_6, li_7, li_8, li_9, li_10, li_11, li_12, li_13, li_14, li_15, li_16, li_17, li_18, li_19, li_20, li_21, li_22, li_23, li_24, li_25, li_26, li_27, li_28, li_29, li_30, li_31, li_32, li_37, li_38, li_39, li_40, li_41, li_42, li_43, li_44, li_45, li_46, li_47, li_48, li_49, li_50, li_57, li_59, li_60, li_61, li_62, li_63, li_64, li_65, li_69, li_81, li_89, li_90, li_92, li_97, li_99, li_100, li_101, li_103, li_104, li_105, li_106, li_108, li_111, li_112, li_113, li_114, li_115, li_116, li_117, li_119, li_122, li_123, li_124, li_125, li_126, li_127, li_128, li_129, li_130, li_131, li_132, li_133, li_134, li_135, li_136, li_137, li_140, li_141, li_142, li_143, li_145, li_147, li_150, li_153, li_159, li_160, li_161, li_162, li_185, li_197, li_213, li_222, li_223, li_255, li_256, li_257, li_258, li_259, li_260, li_261, li_262, li_263, li_264, li_271, li_272, li_273, li_274, li_275, li_276, li_277, li_278, li_300, li_400, li_420, li_500, li_802, li_820, li_823, li_839, li_855, li_871, li_887, li_999, li_1000, li_1001, li_1002, li_1003, li_1004, li_1005, li_1006, li_1007, li_1008, li_1009, li_1010, li_1011, li_1012, li_1013, li_1014, li_1015, li_1016, li_1017, li_1018, li_1019, li_1020, li_1021, li_1022, li_1023, li_1707, li_4096, li_9999, li_65536, li_100000, li_1000000, li_1664525, li_100000000, li_252645135, li_858993459, li_1000000007, li_1013904223, li_1431655765, li_m1]
    rw [e_isDeed rfl G.1, e, bd_s, if_pos (by decide)]
    exact wp_ret ⟨rfl, hI⟩
  · rw [inb_nI hd (by omega), if_neg (by decide)]
    refine wp_bind (w_settleC hN H G.1 hd) ?_
    rintro _ m1 ⟨-, H1, c5, c6, t1, f1⟩
    have hcl := clpF_lt (LN := LN) (w := m 124) (d := d) (by omega)
    generalize hC : (clpS LN false (m 124) d).1 = cl at c5 hcl
    refine wp_mono (Q := fun v m' => v = nI (gaiS (m 124) cl (zh (m 124))) ∧ m' = m1) (wp_it2 (fun n a c m' => ∃ i, i ≤ zh (m 124) ∧ n = zh (m 124) - i ∧ a = nI (gaiS (m 124) cl i) ∧ c = nI i ∧ m' = m1) ?_ N (zh (m 124)) _ _ _ (by omega) ⟨0, by omega, rfl, rfl, rfl, rfl⟩) ?_
    · rintro n X a c m' ⟨i, hi, rfl, rfl, rfl, rfl⟩ hX
      unfold f_X11_gain_L26
      simp only [li_0, li_1, li_2, li_3, li_4, li_5, li_6, li_7, li_8, li_9, li_10, li_11, li_12, li_13, li_14, li_15, li_16, li_17, li_18, li_19, li_20, li_21, li_22, li_23, li_24, li_25, li_26, li_27, li_28, li_29, li_30, li_31, li_32, li_37, li_38, li_39, li_40, li_41, li_42, li_43, li_44, li_45, li_46, li_47, li_48, li_49, li_50, li_57, li_59, li_60, li_61, li_62, li_63, li_64, li_65, li_69, li_81, li_89, li_90, li_92, li_97, li_99, li_100, li_101, li_103, li_104, li_105, li_106, li_108, li_111, li_112, li_113, li_114, li_115, li_116, li_117, li_119, li_122, li_123, li_124, li_125, li_126, li_127, li_128, li_129, li_130, li_131, li_132, li_133, li_134, li_135, li_136, li_137, li_140, li_141, li_142, li_143, li_145, li_147, li_150, li_153, li_159, li_160, li_161, li_162, li_185, li_197, li_213, li_222, li_223, li_255, li_256, li_257, li_258, li_259, li_260, li_261, li_262, li_263, li_264, li_271, li_272, li_273, li_274, li_275, li_276, li_277, li_278, li_300, li_400, li_420, li_500, li_802, li_820, li_823, li_839, li_855, li_871, li_887, li_999, li_1000, li_1001, li_1002, li_1003, li_1004, li_1005, li_1006, li_1007, li_1008, li_1009, li_1010, li_1011, li_1012, li_1013, li_1014, li_1015, li_1016, li_1017, li_1018, li_1019, li_1020, li_1021, li_1022, li_1023, li_1707, li_4096, li_9999, li_65536, li_100000, li_1000000, li_1664525, li_100000000, li_252645135, li_858993459, li_1000000007, li_1013904223, li_1431655765, li_m1]
      rw [H1.hea.1, G.1.h37]
      refine wp_ite (fun q => ?_) (fun q => ?_)
      · rw [nI_leI (by omega) (by omega)] at q
        have : i = zh (m 124) := by omega
        subst this
        exact wp_ret ⟨rfl, rfl⟩
      · rw [nI_leI (by omega) (by omega)] at q
        rw [c5, e_isInX m' (by omega) (by omega), bd_s, nI_up]
        have hS : gaiS (m 124) cl (i + 1) = gaiS (m 124) cl i + if cl.testBit i = true then pc (sdf (zn (m 124) i) cl) else 0 := rfl
        cases hb : cl.testBit i with
        | false =>
          rw [if_pos (by decide)]
          rw [hb, if_neg (by decide)] at hS
          exact hX (zh (m 124) - (i + 1)) _ _ _ (by omega) ⟨i + 1, by omega, rfl, by rw [hS]; rfl, rfl, rfl⟩
        | true =>
          rw [hb, if_pos rfl] at hS
          obtain ⟨ez, hz⟩ := hea_zn G.1 (show i < zh (m 124) by omega)
          rw [if_neg (by decide), hr_hea H1 G.1 (by omega) (by decide), bd_s, c5, show heaV (m 124) i 6 = m 124 (185 + i) from rfl, ez, nz_diff, e_bitCount _ (Nat.lt_of_le_of_lt (sdf_le _ _) hz), bd_s, bnd_s, nI_add]
          exact hX (zh (m 124) - (i + 1)) _ _ _ (by omega) ⟨i + 1, by omega, rfl, by rw [hS], rfl, rfl⟩
    · rintro _ m1 ⟨rfl, rfl⟩
      have e124 : m1 124 = m 124 := f1.at 124 (by decide)
      unfold f_X12_gain
      simp only [li_0, li_1, li_2, li_3, li_4, li_5, li_6, li_7, li_8, li_9, li_10, li_11, li_12, li_13, li_14, li_15, li_16, li_17, li_18, li_19, li_20, li_21, li_22, li_23, li_24, li_25, li_26, li_27, li_28, li_29, li_30, li_31, li_32, li_37, li_38, li_39, li_40, li_41, li_42, li_43, li_44, li_45, li_46, li_47, li_48, li_49, li_50, li_57, li_59, li_60, li_61, li_62, li_63, li_64, li_65, li_69, li_81, li_89, li_90, li_92, li_97, li_99, li_100, li_101, li_103, li_104, li_105, li_106, li_108, li_111, li_112, li_113, li_114, li_115, li_116, li_117, li_119, li_122, li_123, li_124, li_125, li_126, li_127, li_128, li_129, li_130, li_131, li_132, li_133, li_134, li_135, li_136, li_137, li_140, li_141, li_142, li_143, li_145, li_147, li_150, li_153, li_159, li_160, li_161, li_162, li_185, li_197, li_213, li_222, li_223, li_255, li_256, li_257, li_258, li_259, li_260, li_261, li_262, li_263, li_264, li_271, li_272, li_273, li_274, li_275, li_276, li_277, li_278, li_300, li_400, li_420, li_500, li_802, li_820, li_823, li_839, li_855, li_871, li_887, li_999, li_1000, li_1001, li_1002, li_1003, li_1004, li_1005, li_1006, li_1007, li_1008, li_1009, li_1010, li_1011, li_1012, li_1013, li_1014, li_1015, li_1016, li_1017, li_1018, li_1019, li_1020, li_1021, li_1022, li_1023, li_1707, li_4096, li_9999, li_65536, li_100000, li_1000000, li_1664525, li_100000000, li_252645135, li_858993459, li_1000000007, li_1013904223, li_1431655765, li_m1]
      rw [e_isDeed e124 G.1, inb_nI hd (by omega), bd_s, if_neg (by decide)]
      refine wp_bind (w_settlesM (c := 0) hN e124 G H.lawk hd (by decide)) ?_
      rintro _ m2 ⟨rfl, h2, j2, f2⟩
      rw [if_pos rfl, hC]
      refine wp_mono (Q := fun v m' => v = nI (gaiS (m 124) cl (zh (m 124))) ∧ m' = m2) (wp_it2 (fun n a c m' => ∃ i, i ≤ zh (m 124) ∧ n = zh (m 124) - i ∧ a = nI (gaiS (m 124) cl i) ∧ c = nI i ∧ m' = m2) ?_ N (zh (m 124)) _ _ _ (by omega) ⟨0, by omega, rfl, rfl, rfl, rfl⟩) ?_
      · rintro n X a c m' ⟨i, hi, rfl, rfl, rfl, rfl⟩ hX
        unfold f_X12_gain_L22
        simp only [li_0, li_1, li_2, li_3, li_4, li_5, li_6, li_7, li_8, li_9, li_10, li_11, li_12, li_13, li_14, li_15, li_16, li_17, li_18, li_19, li_20, li_21, li_22, li_23, li_24, li_25, li_26, li_27, li_28, li_29, li_30, li_31, li_32, li_37, li_38, li_39, li_40, li_41, li_42, li_43, li_44, li_45, li_46, li_47, li_48, li_49, li_50, li_57, li_59, li_60, li_61, li_62, li_63, li_64, li_65, li_69, li_81, li_89, li_90, li_92, li_97, li_99, li_100, li_101, li_103, li_104, li_105, li_106, li_108, li_111, li_112, li_113, li_114, li_115, li_116, li_117, li_119, li_122, li_123, li_124, li_125, li_126, li_127, li_128, li_129, li_130, li_131, li_132, li_133, li_134, li_135, li_136, li_137, li_140, li_141, li_142, li_143, li_145, li_147, li_150, li_153, li_159, li_160, li_161, li_162, li_185, li_197, li_213, li_222, li_223, li_255, li_256, li_257, li_258, li_259, li_260, li_261, li_262, li_263, li_264, li_271, li_272, li_273, li_274, li_275, li_276, li_277, li_278, li_300, li_400, li_420, li_500, li_802, li_820, li_823, li_839, li_855, li_871, li_887, li_999, li_1000, li_1001, li_1002, li_1003, li_1004, li_1005, li_1006, li_1007, li_1008, li_1009, li_1010, li_1011, li_1012, li_1013, li_1014, li_1015, li_1016, li_1017, li_1018, li_1019, li_1020, li_1021, li_1022, li_1023, li_1707, li_4096, li_9999, li_65536, li_100000, li_1000000, li_1664525, li_100000000, li_252645135, li_858993459, li_1000000007, li_1013904223, li_1431655765, li_m1, nI_add]
        rw [h2, G.1.h37]
        refine wp_ite (fun q => ?_) (fun q => ?_)
        · rw [nI_leI (by omega) (by omega)] at q
          have : i = zh (m 124) := by omega
          subst this
          exact wp_ret ⟨rfl, rfl⟩
        · rw [nI_leI (by omega) (by omega)] at q
          have hS : gaiS (m 124) cl (i + 1) = gaiS (m 124) cl i + if cl.testBit i = true then pc (sdf (zn (m 124) i) cl) else 0 := rfl
          cases hb : cl.testBit i with
          | false =>
            rw [if_neg (fun z => by rw [nz_bit (by omega) (by omega)] at z; rw [z] at hb; cases hb), bnd_s]
            rw [hb, if_neg (by decide)] at hS
            exact hX (zh (m 124) - (i + 1)) _ _ _ (by omega) ⟨i + 1, by omega, rfl, by rw [hS], rfl, rfl⟩
          | true =>
            rw [hb, if_pos rfl] at hS
            obtain ⟨ez, hz⟩ := hea_zn G.1 (show i < zh (m 124) by omega)
            rw [if_pos ((nz_bit (by omega) (by omega)).mpr hb), inb_nI (by omega) (by omega), chk_t, nI_clamp (by omega), ez, nz_diff, e_count _ hN (Nat.lt_of_le_of_lt (sdf_le _ _) (by omega)), bd_s, bnd_s, nI_add]
            exact hX (zh (m 124) - (i + 1)) _ _ _ (by omega) ⟨i + 1, by omega, rfl, by rw [hS], rfl, rfl⟩
      · rintro _ m2 ⟨rfl, rfl⟩
        exact ⟨rfl, hI.th2 H1 G f1 t1 h2 j2 f2⟩
end GOES
