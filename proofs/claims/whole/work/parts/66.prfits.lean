/-! fits: both -/
section PRFITS
variable {w : Arr} {LN : List Lin} {m : Mem} {N : Nat}
theorem pr_fits {a : Int32} (hN : 20000 ≤ N) : Pr (f_X11_fits N a) (f_X12_fits N a) := by
  intro m hI
  obtain ⟨LN, H, G, -⟩ := id hI
  have lh := G.1.lzh
  have p := pow_le31 lh
  unfold f_X11_fits
  simp only [li_0, li_1, li_2, li_3, li_4, li_5, li_6, li_7, li_8, li_9, li_10, li_11, li_12, li_13, li_14, li_15, li_16, li_17, li_18, li_19, li_20, li_21, li_22, li_23, li_24, li_25, li_26, li_27, li_28, li_29, li_30, li_31, li_32, li_37, li_38, li_39, li_40, li_41, li_42, li_43, li_44, li_45, li_46, li_47, li_48, li_49, li_50, li_57, li_59, li_60, li_61, li_62, li_63, li_64, li_65, li_69, li_81, li_89, li_90, li_92, li_97, li_99, li_100, li_101, li_103, li_104, li_105, li_106, li_108, li_111, li_112, li_113, li_114, li_115, li_116, li_117, li_119, li_122, li_123, li_124, li_125, li_126, li_127, li_128, li_129, li_130, li_131, li_132, li_133, li_134, li_135, li_136, li_137, li_140, li_141, li_142, li_143, li_145, li_147, li_150, li_153, li_159, li_160, li_161, li_162, li_185, li_197, li_213, li_222, li_223, li_255, li_256, li_257, li_258, li_259, li_260, li_261, li_262, li_263, li_264, li_271, li_272, li_273, li_274, li_275, li_276, li_277, li_278, li_300, li_400, li_420, li_500, li_802, li_820, li_823, li_839, li_855, li_871, li_887, li_999, li_1000, li_1001, li_1002, li_1003, li_1004, li_1005, li_1006, li_1007, li_1008, li_1009, li_1010, li_1011, li_1012, li_1013, li_1014, li_1015, li_1016, li_1017, li_1018, li_1019, li_1020, li_1021, li_1022, li_1023, li_1707, li_4096, li_9999, li_65536, li_100000, li_1000000, li_1664525, li_100000000, li_252645135, li_858993459, li_1000000007, li_1013904223, li_1431655765, li_m1]
  rw [e_within, bd_s]
  cases hq : decide (nI 0 ≤ a ∧ a ≤ nI 3) with
  | false =>
    rw [if_pos (by decide)]
    refine wp_ret ?_
    unfold f_X12_fits
    simp only [li_0, li_1, li_2, li_3, li_4, li_5, li_6, li_7, li_8, li_9, li_10, li_11, li_12, li_13, li_14, li_15, li_16, li_17, li_18, li_19, li_20, li_21, li_22, li_23, li_24, li_25, li_26, li_27, li_28, li_29, li_30, li_31, li_32, li_37, li_38, li_39, li_40, li_41, li_42, li_43, li_44, li_45, li_46, li_47, li_48, li_49, li_50, li_57, li_59, li_60, li_61, li_62, li_63, li_64, li_65, li_69, li_81, li_89, li_90, li_92, li_97, li_99, li_100, li_101, li_103, li_104, li_105, li_106, li_108, li_111, li_112, li_113, li_114, li_115, li_116, li_117, li_119, li_122, li_123, li_124, li_125, li_126, li_127, li_128, li_129, li_130, li_131, li_132, li_133, li_134, li_135, li_136, li_137, li_140, li_141, li_142, li_143, li_145, li_147, li_150, li_153, li_159, li_160, li_161, li_162, li_185, li_197, li_213, li_222, li_223, li_255, li_256, li_257, li_258, li_259, li_260, li_261, li_262, li_263, li_264, li_271, li_272, li_273, li_274, li_275, li_276, li_277, li_278, li_300, li_400, li_420, li_500, li_802, li_820, li_823, li_839, li_855, li_871, li_887, li_999, li_1000, li_1001, li_1002, li_1003, li_1004, li_1005, li_1006, li_1007, li_1008, li_1009, li_1010, li_1011, li_1012, li_1013, li_1014, li_1015, li_1016, li_1017, li_1018, li_1019, li_1020, li_1021, li_1022, li_1023, li_1707, li_4096, li_9999, li_65536, li_100000, li_1000000, li_1664525, li_100000000, li_252645135, li_858993459, li_1000000007, li_1013904223, li_1431655765, li_m1]
    rw [e_isIn, bd_s, hq, if_pos (by decide)]
    exact wp_ret ⟨rfl, hI⟩
  | true =>
    rw [if_neg (by decide)]
    refine w_fitsC hN H G.1 ?_
    intro m1 hc f1
    have e124 : m1 124 = m 124 := f1.at 124 (by decide)
    have H1 := H.fr G.1.sml f1 (by decide +kernel)
    have ln := (cb_le (w := m 124) (h := 0) (2 ^ zh (m 124))).2
    have model : ∀ u, (∀ m2, Fr [(136, 136)] m1 m2 → (∀ h, h < 12 → h < zh (m 124) → m2 136 h = nI (cbF (m 124) h (2 ^ zh (m 124)))) → Wp (swt (Int32.toInt a - (0)) [(some (nI (cnF (m 124) (2 ^ zh (m 124))), m2)), (some (oix (fsF (m 124) (2 ^ zh (m 124))), m2)), (some (oix (laF (m 124) (2 ^ zh (m 124))), m2))]
        (if nI 2 ≤ nI (cnF (m 124) (2 ^ zh (m 124))) then (bd (f_X12_bestAsked N (nI (cnF (m 124) (2 ^ zh (m 124)))) m2) fun r_170 m_170 => some (r_170, m_170)) else (some (mo1, m2)))) (fun v m' => v = u ∧ m' = m2)) → Wp (f_X12_fits N a m1) (fun v2 m2 => u = v2 ∧ Inv m2) := by
      intro u hu
      unfold f_X12_fits
      simp only [li_0, li_1, li_2, li_3, li_4, li_5, li_6, li_7, li_8, li_9, li_10, li_11, li_12, li_13, li_14, li_15, li_16, li_17, li_18, li_19, li_20, li_21, li_22, li_23, li_24, li_25, li_26, li_27, li_28, li_29, li_30, li_31, li_32, li_37, li_38, li_39, li_40, li_41, li_42, li_43, li_44, li_45, li_46, li_47, li_48, li_49, li_50, li_57, li_59, li_60, li_61, li_62, li_63, li_64, li_65, li_69, li_81, li_89, li_90, li_92, li_97, li_99, li_100, li_101, li_103, li_104, li_105, li_106, li_108, li_111, li_112, li_113, li_114, li_115, li_116, li_117, li_119, li_122, li_123, li_124, li_125, li_126, li_127, li_128, li_129, li_130, li_131, li_132, li_133, li_134, li_135, li_136, li_137, li_140, li_141, li_142, li_143, li_145, li_147, li_150, li_153, li_159, li_160, li_161, li_162, li_185, li_197, li_213, li_222, li_223, li_255, li_256, li_257, li_258, li_259, li_260, li_261, li_262, li_263, li_264, li_271, li_272, li_273, li_274, li_275, li_276, li_277, li_278, li_300, li_400, li_420, li_500, li_802, li_820, li_823, li_839, li_855, li_871, li_887, li_999, li_1000, li_1001, li_1002, li_1003, li_1004, li_1005, li_1006, li_1007, li_1008, li_1009, li_1010, li_1011, li_1012, li_1013, li_1014, li_1015, li_1016, li_1017, li_1018, li_1019, li_1020, li_1021, li_1022, li_1023, li_1707, li_4096, li_9999, li_65536, li_100000, li_1000000, li_1664525, li_100000000, li_252645135, li_858993459, li_1000000007, li_1013904223, li_1431655765, li_m1]
      rw [e_isIn, bd_s, hq, if_neg (by decide)]
      refine w_fitsM hN e124 G.1 ?_
      intro m2 hc2 f2
      refine wp_mono (hu m2 f2 hc2) ?_
      rintro _ m3 ⟨rfl, rfl⟩
      exact ⟨rfl, hI.q1 ((f1.mono (T := [(1, 1), (136, 136)]) (by decide)).trans (f2.mono (by decide))) (by decide +kernel) (by decide) (by decide)⟩
    obtain ⟨k, -, hk, rfl⟩ := rng_of (by decide) (by decide) hq
    rcases (show k = 0 ∨ k = 1 ∨ k = 2 ∨ k = 3 by omega) with rfl | rfl | rfl | rfl
    · refine wp_eq (swt_at 0 (by decide) rfl) ?_
      exact wp_ret (model _ (fun m2 _ _ => wp_eq (swt_at 0 (by decide) rfl) (wp_ret ⟨rfl, rfl⟩)))
    · refine wp_eq (swt_at 1 (by decide) rfl) ?_
      exact wp_ret (model _ (fun m2 _ _ => wp_eq (swt_at 1 (by decide) rfl) (wp_ret ⟨rfl, rfl⟩)))
    · refine wp_eq (swt_at 2 (by decide) rfl) ?_
      exact wp_ret (model _ (fun m2 _ _ => wp_eq (swt_at 2 (by decide) rfl) (wp_ret ⟨rfl, rfl⟩)))
    · refine wp_eq (swt_no (Or.inr (by simp; decide))) ?_
      by_cases h2 : 2 ≤ cnF (m 124) (2 ^ zh (m 124))
      · rw [if_pos (nI_le h2 (by omega))]
        obtain ⟨b, hb, eb⟩ := w_askC hN H1 G.1 (Nat.le_refl _) h2 hc
        rw [eb, bd_s]
        refine wp_ret (model _ (fun m2 f2 hc2 => ?_))
        refine wp_eq (swt_no (Or.inr (by simp; decide))) ?_
        have hz : 0 < zh (m 124) := by
          have := hb.1
          omega
        obtain ⟨b', hb', eb'⟩ := w_askM (m := m2) hN ((f2.at 124 (by decide)).trans e124) G.1 (Nat.le_refl _) hz (fun h hh => hc2 h (by omega) hh)
        rw [if_pos (nI_le h2 (by omega)), eb', bd_s, hb.uni hb']
        exact wp_ret ⟨rfl, rfl⟩
      · rw [if_neg (fun z => h2 ((nI_leI (by decide) (by omega)).mp z))]
        refine wp_ret (model _ (fun m2 f2 hc2 => ?_))
        refine wp_eq (swt_no (Or.inr (by simp; decide))) ?_
        rw [if_neg (fun z => h2 ((nI_leI (by decide) (by omega)).mp z))]
        exact wp_ret ⟨rfl, rfl⟩
end PRFITS
