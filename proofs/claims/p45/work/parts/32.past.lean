/-! keeping and going back -/
section PAST
variable {w w' : Arr} {LN : List Lin} {m m' : Mem} {N k p : Nat}
theorem mo_nI {p : Nat} (h : p < 6) : mo (nI p) = 50 + 7 * p := by
  unfold mo
  rw [nI_clamp (by omega)]
  have : ∀ p, p < 6 → [50, 57, 64, 71, 78, 85].getD p 50 = 50 + 7 * p := by decide
  exact this p h
theorem e_momentAt {p : Nat} (m : Mem) (h : p < 6) : f_X4_momentAt N (nI p) m = some (nI (50 + 7 * p), m) := by
  unfold f_X4_momentAt
  simp only [li_0, li_1, li_2, li_3, li_4, li_5, li_6, li_7, li_8, li_9, li_10, li_11, li_12, li_13, li_14, li_15, li_16, li_17, li_18, li_19, li_20, li_21, li_22, li_23, li_24, li_25, li_26, li_27, li_28, li_29, li_30, li_31, li_32, li_37, li_38, li_39, li_40, li_41, li_42, li_43, li_44, li_45, li_46, li_47, li_48, li_49, li_50, li_57, li_59, li_60, li_61, li_62, li_63, li_64, li_65, li_69, li_81, li_89, li_90, li_92, li_97, li_99, li_100, li_101, li_103, li_104, li_105, li_106, li_108, li_111, li_112, li_113, li_114, li_115, li_116, li_117, li_119, li_122, li_123, li_124, li_125, li_126, li_127, li_128, li_129, li_130, li_131, li_132, li_133, li_134, li_135, li_136, li_137, li_140, li_141, li_142, li_143, li_145, li_147, li_150, li_153, li_159, li_160, li_161, li_162, li_185, li_197, li_213, li_222, li_223, li_255, li_256, li_257, li_258, li_259, li_260, li_261, li_262, li_263, li_264, li_271, li_272, li_273, li_274, li_275, li_276, li_277, li_278, li_300, li_400, li_420, li_500, li_802, li_820, li_823, li_839, li_855, li_871, li_887, li_999, li_1000, li_1001, li_1002, li_1003, li_1004, li_1005, li_1006, li_1007, li_1008, li_1009, li_1010, li_1011, li_1012, li_1013, li_1014, li_1015, li_1016, li_1017, li_1018, li_1019, li_1020, li_1021, li_1022, li_1023, li_1707, li_4096, li_9999, li_65536, li_100000, li_1000000, li_1664525, li_100000000, li_252645135, li_858993459, li_1000000007, li_1013904223, li_1431655765, li_m1]
  rw [if_neg (nI_no0 (by omega)), if_neg (nI_ge (by omega) (by decide)), inb_nI h (by decide), chk_t, mo_nI h]
theorem w_keepC (H : HRep 2 LN w m) (W0 : WFc w) (hk : k ≤ 6) (hp : p < 6) (e1 : m 48 1 = nI p) (e2 : m 48 2 = nI k) :
    Wp (f_X4_keep N m) (fun _ m' => HRep 2 LN w m' ∧ MomR (50 + 7 * p) w m' ∧ m' 48 1 = nI ((p + 1) % 6) ∧ m' 48 2 = nI (min 6 (k + 1)) ∧ ∀ c, c ≠ 48 → (c < 50 + 7 * p ∨ 50 + 7 * p + 6 < c) → m' c = m c) := by
  unfold f_X4_keep
  rw [e1, e_momentAt m hp, bd_s, decide_eq_true (show ¬ nI (50 + 7 * p) = -1 from nI_no1 (by omega)), chk_t, nI_clamp (by omega)]
  refine wp_bind (w_mkeep H W0 (mom_in hp)) ?_
  rintro _ m1 ⟨hR, hF, hc⟩
  have H1 : HRep 2 LN w m1 := H.cg W0.sml hF (fun q h1 h2 => hc q (by omega)) (fun _ _ _ _ => rfl)
  have g1 : m1 48 1 = nI p := by rw [hc 48 (by omega)]; exact e1
  have g2 : m1 48 2 = nI k := by rw [hc 48 (by omega)]; exact e2
  unfold f_X4_keep_J18
  simp only [li_0, li_1, li_2, li_3, li_4, li_5, li_6, li_7, li_8, li_9, li_10, li_11, li_12, li_13, li_14, li_15, li_16, li_17, li_18, li_19, li_20, li_21, li_22, li_23, li_24, li_25, li_26, li_27, li_28, li_29, li_30, li_31, li_32, li_37, li_38, li_39, li_40, li_41, li_42, li_43, li_44, li_45, li_46, li_47, li_48, li_49, li_50, li_57, li_59, li_60, li_61, li_62, li_63, li_64, li_65, li_69, li_81, li_89, li_90, li_92, li_97, li_99, li_100, li_101, li_103, li_104, li_105, li_106, li_108, li_111, li_112, li_113, li_114, li_115, li_116, li_117, li_119, li_122, li_123, li_124, li_125, li_126, li_127, li_128, li_129, li_130, li_131, li_132, li_133, li_134, li_135, li_136, li_137, li_140, li_141, li_142, li_143, li_145, li_147, li_150, li_153, li_159, li_160, li_161, li_162, li_185, li_197, li_213, li_222, li_223, li_255, li_256, li_257, li_258, li_259, li_260, li_261, li_262, li_263, li_264, li_271, li_272, li_273, li_274, li_275, li_276, li_277, li_278, li_300, li_400, li_420, li_500, li_802, li_820, li_823, li_839, li_855, li_871, li_887, li_999, li_1000, li_1001, li_1002, li_1003, li_1004, li_1005, li_1006, li_1007, li_1008, li_1009, li_1010, li_1011, li_1012, li_1013, li_1014, li_1015, li_1016, li_1017, li_1018, li_1019, li_1020, li_1021, li_1022, li_1023, li_1707, li_4096, li_9999, li_65536, li_100000, li_1000000, li_1664525, li_100000000, li_252645135, li_858993459, li_1000000007, li_1013904223, li_1431655765, li_m1]
  rw [g1, nI_up]
  have hmin : (if nI (k + 1) < nI 6 then nI (k + 1) else nI 6) = nI (min 6 (k + 1)) := by
    by_cases h : k + 1 < 6
    · rw [if_pos (nI_lt h (by decide)), Nat.min_eq_right (by omega)]
    · rw [if_neg (nI_nlt (by omega) (by omega)), Nat.min_eq_left (by omega)]
  have fin : ∀ v : Int32, v = nI ((p + 1) % 6) → Wp (bnd (mset m1 48 1 v) fun m_40 => bnd (mset m_40 48 2 (if m_40 48 2 + nI 1 < nI 6 then m_40 48 2 + nI 1 else nI 6)) fun m_55 => some (nI 0, m_55)) (fun _ m' => HRep 2 LN w m' ∧ MomR (50 + 7 * p) w m' ∧ m' 48 1 = nI ((p + 1) % 6) ∧ m' 48 2 = nI (min 6 (k + 1)) ∧ ∀ c, c ≠ 48 → (c < 50 + 7 * p ∨ 50 + 7 * p + 6 < c) → m' c = m c) := by
    rintro v rfl
    rw [bnd_s, mset_j (by decide), g2, nI_up, hmin, bnd_s]
    refine wp_ret ⟨H1.fr W0.sml (Fr.set (S := [(48, 48)]) (Fr.set Fr.rf (by decide)) (by decide)) (by decide +kernel), hR.cg W0.sml (fun q h1 h2 => by rw [mset_ne (by omega), mset_ne (by omega)]) (fun _ _ => rfl), by rw [mset_j (by decide), mset_at], mset_at _ _ _ _, fun c h1 h2 => by rw [mset_ne h1, mset_ne h1]; exact hc c h2⟩
  refine wp_ite (fun q => ?_) (fun q => ?_)
  · rw [nI_leI (by decide) (by omega)] at q
    exact fin (nI 0) (by rw [show p = 5 by omega])
  · rw [nI_leI (by decide) (by omega)] at q
    exact fin (nI (p + 1)) (by rw [Nat.mod_eq_of_lt (by omega)])
/-- cells copied one by one -/
theorem w_keepsM (hN : 20000 ≤ N) (hm : m 124 = w) (hk : k ≤ 6) (e4 : m 123 4 = nI k) :
    Wp (f_X12_keeps N m) (fun _ m' => m' 123 4 = nI (min 6 (k + 1)) ∧ m' 123 26 = nI 1 ∧ (∀ j, j ≠ 4 → j ≠ 26 → m' 123 j = m 123 j) ∧ Fr [(123, 123), (126, 126)] m m' ∧ (∀ j, j < 37 → m' 126 (37 * (min 6 (k + 1) - 1) + j) = w j) ∧
      ∀ i, i + 1 < min 6 (k + 1) → ∀ j, j < 37 → m' 126 (37 * i + j) = m 126 (37 * (i + (if k = 6 then 1 else 0)) + j)) := by
  have tail : ∀ (m1 : Mem) (k1 : Nat), k1 < 6 → m1 124 = w → m1 123 4 = nI k1 → Wp (f_X12_keeps_J49 N m1) (fun _ m' => m' 123 4 = nI (k1 + 1) ∧ m' 123 26 = nI 1 ∧ (∀ j, j ≠ 4 → j ≠ 26 → m' 123 j = m1 123 j) ∧ Fr [(123, 123), (126, 126)] m1 m' ∧ (∀ j, j < 37 → m' 126 (37 * k1 + j) = w j) ∧ ∀ j, j < 37 * k1 → m' 126 j = m1 126 j) := by
    intro m1 k1 hk1 h124 h4
    unfold f_X12_keeps_J49
    refine wp_it1 (fun n a m2 => ∃ i, i ≤ 37 ∧ n = 37 - i ∧ a = nI i ∧ Fr [(126, 126)] m1 m2 ∧ (∀ j, j < i → m2 126 (37 * k1 + j) = w j) ∧ ∀ j, j < 37 * k1 → m2 126 j = m1 126 j) ?_ N 37 _ _ (by omega) ⟨0, by omega, rfl, rfl, Fr.rf, fun j hj => absurd hj (by omega), fun _ _ => rfl⟩
    rintro n X a m2 ⟨i, hi, rfl, rfl, f2, g1, g2⟩ hX
    have e123 : m2 123 = m1 123 := f2.at 123 (by decide)
    have e124 : m2 124 = w := (f2.at 124 (by decide)).trans h124
    unfold f_X12_keeps_L51
    simp only [li_0, li_1, li_2, li_3, li_4, li_5, li_6, li_7, li_8, li_9, li_10, li_11, li_12, li_13, li_14, li_15, li_16, li_17, li_18, li_19, li_20, li_21, li_22, li_23, li_24, li_25, li_26, li_27, li_28, li_29, li_30, li_31, li_32, li_37, li_38, li_39, li_40, li_41, li_42, li_43, li_44, li_45, li_46, li_47, li_48, li_49, li_50, li_57, li_59, li_60, li_61, li_62, li_63, li_64, li_65, li_69, li_81, li_89, li_90, li_92, li_97, li_99, li_100, li_101, li_103, li_104, li_105, li_106, li_108, li_111, li_112, li_113, li_114, li_115, li_116, li_117, li_119, li_122, li_123, li_124, li_125, li_126, li_127, li_128, li_129, li_130, li_131, li_132, li_133, li_134, li_135, li_136, li_137, li_140, li_141, li_142, li_143, li_145, li_147, li_150, li_153, li_159, li_160, li_161, li_162, li_185, li_197, li_213, li_222, li_223, li_255, li_256, li_257, li_258, li_259, li_260, li_261, li_262, li_263, li_264, li_271, li_272, li_273, li_274, li_275, li_276, li_277, li_278, li_300, li_400, li_420, li_500, li_802, li_820, li_823, li_839, li_855, li_871, li_887, li_999, li_1000, li_1001, li_1002, li_1003, li_1004, li_1005, li_1006, li_1007, li_1008, li_1009, li_1010, li_1011, li_1012, li_1013, li_1014, li_1015, li_1016, li_1017, li_1018, li_1019, li_1020, li_1021, li_1022, li_1023, li_1707, li_4096, li_9999, li_65536, li_100000, li_1000000, li_1664525, li_100000000, li_252645135, li_858993459, li_1000000007, li_1013904223, li_1431655765, li_m1]
    rw [e123, h4, e124]
    simp only [pk_mul, nI_add]
    refine wp_ite (fun q => ?_) (fun q => ?_)
    · rw [nI_leI (by decide) (by omega)] at q
      have : i = 37 := by omega
      subst this
      rw [bnd_s, bnd_s]
      refine wp_ret ⟨by rw [mset_j (by decide), mset_at], mset_at _ _ _ _, fun j h1 h2 => by rw [mset_j h2, mset_j h1, e123], Fr.set (Fr.set (f2.mono (by decide)) (by decide)) (by decide), fun j hj => ?_, fun j hj => ?_⟩
      · rw [mset_ne (by decide), mset_ne (by decide)]; exact g1 j hj
      · rw [mset_ne (by decide), mset_ne (by decide)]; exact g2 j hj
    · rw [nI_leI (by decide) (by omega)] at q
      rw [inb_nI (by omega) (by omega), chk_t, inb_nI (by omega) (by omega), chk_t, nI_clamp (by omega), nI_clamp (by omega), bnd_s]
      refine hX (37 - (i + 1)) _ _ (by omega) ⟨i + 1, by omega, rfl, rfl, Fr.set f2 (by decide), fun j hj => ?_, fun j hj => ?_⟩
      · by_cases e : j = i
        · subst e; exact mset_at _ _ _ _
        · rw [mset_j (by omega)]; exact g1 j (by omega)
      · rw [mset_j (by omega)]; exact g2 j hj
  unfold f_X12_keeps
  simp only [li_0, li_1, li_2, li_3, li_4, li_5, li_6, li_7, li_8, li_9, li_10, li_11, li_12, li_13, li_14, li_15, li_16, li_17, li_18, li_19, li_20, li_21, li_22, li_23, li_24, li_25, li_26, li_27, li_28, li_29, li_30, li_31, li_32, li_37, li_38, li_39, li_40, li_41, li_42, li_43, li_44, li_45, li_46, li_47, li_48, li_49, li_50, li_57, li_59, li_60, li_61, li_62, li_63, li_64, li_65, li_69, li_81, li_89, li_90, li_92, li_97, li_99, li_100, li_101, li_103, li_104, li_105, li_106, li_108, li_111, li_112, li_113, li_114, li_115, li_116, li_117, li_119, li_122, li_123, li_124, li_125, li_126, li_127, li_128, li_129, li_130, li_131, li_132, li_133, li_134, li_135, li_136, li_137, li_140, li_141, li_142, li_143, li_145, li_147, li_150, li_153, li_159, li_160, li_161, li_162, li_185, li_197, li_213, li_222, li_223, li_255, li_256, li_257, li_258, li_259, li_260, li_261, li_262, li_263, li_264, li_271, li_272, li_273, li_274, li_275, li_276, li_277, li_278, li_300, li_400, li_420, li_500, li_802, li_820, li_823, li_839, li_855, li_871, li_887, li_999, li_1000, li_1001, li_1002, li_1003, li_1004, li_1005, li_1006, li_1007, li_1008, li_1009, li_1010, li_1011, li_1012, li_1013, li_1014, li_1015, li_1016, li_1017, li_1018, li_1019, li_1020, li_1021, li_1022, li_1023, li_1707, li_4096, li_9999, li_65536, li_100000, li_1000000, li_1664525, li_100000000, li_252645135, li_858993459, li_1000000007, li_1013904223, li_1431655765, li_m1]
  rw [e4]
  refine wp_ite (fun q => ?_) (fun q => ?_)
  · have hk6 : k = 6 := (nI_eq (by omega) (by decide)).mp q
    subst hk6
    refine wp_it1 (fun n a m2 => ∃ i, i ≤ 185 ∧ n = 185 - i ∧ a = nI i ∧ Fr [(126, 126)] m m2 ∧ (∀ j, j < i → m2 126 j = m 126 (j + 37)) ∧ ∀ j, i ≤ j → m2 126 j = m 126 j) ?_ N 185 _ _ (by omega) ⟨0, by omega, rfl, rfl, Fr.rf, fun j hj => absurd hj (by omega), fun _ _ => rfl⟩
    rintro n X a m2 ⟨i, hi, rfl, rfl, f2, g1, g2⟩ hX
    unfold f_X12_keeps_L11
    simp only [li_0, li_1, li_2, li_3, li_4, li_5, li_6, li_7, li_8, li_9, li_10, li_11, li_12, li_13, li_14, li_15, li_16, li_17, li_18, li_19, li_20, li_21, li_22, li_23, li_24, li_25, li_26, li_27, li_28, li_29, li_30, li_31, li_32, li_37, li_38, li_39, li_40, li_41, li_42, li_43, li_44, li_45, li_46, li_47, li_48, li_49, li_50, li_57, li_59, li_60, li_61, li_62, li_63, li_64, li_65, li_69, li_81, li_89, li_90, li_92, li_97, li_99, li_100, li_101, li_103, li_104, li_105, li_106, li_108, li_111, li_112, li_113, li_114, li_115, li_116, li_117, li_119, li_122, li_123, li_124, li_125, li_126, li_127, li_128, li_129, li_130, li_131, li_132, li_133, li_134, li_135, li_136, li_137, li_140, li_141, li_142, li_143, li_145, li_147, li_150, li_153, li_159, li_160, li_161, li_162, li_185, li_197, li_213, li_222, li_223, li_255, li_256, li_257, li_258, li_259, li_260, li_261, li_262, li_263, li_264, li_271, li_272, li_273, li_274, li_275, li_276, li_277, li_278, li_300, li_400, li_420, li_500, li_802, li_820, li_823, li_839, li_855, li_871, li_887, li_999, li_1000, li_1001, li_1002, li_1003, li_1004, li_1005, li_1006, li_1007, li_1008, li_1009, li_1010, li_1011, li_1012, li_1013, li_1014, li_1015, li_1016, li_1017, li_1018, li_1019, li_1020, li_1021, li_1022, li_1023, li_1707, li_4096, li_9999, li_65536, li_100000, li_1000000, li_1664525, li_100000000, li_252645135, li_858993459, li_1000000007, li_1013904223, li_1431655765, li_m1, nI_add]
    refine wp_ite (fun q => ?_) (fun q => ?_)
    · rw [nI_leI (by decide) (by omega)] at q
      have : i = 185 := by omega
      subst this
      rw [f2.at 123 (by decide), e4, bnd_s]
      refine wp_mono (tail (mset m2 123 4 (nI 6 - nI 1)) 5 (by decide) (by rw [mset_ne (by decide), f2.at 124 (by decide)]; exact hm) (mset_at _ _ _ _)) ?_
      rintro _ m3 ⟨t1, t2, t3, t4, t5, t6⟩
      refine ⟨t1, t2, fun j h1 h2 => ?_, ?_, t5, fun i hi j hj => ?_⟩
      · rw [t3 j h1 h2, mset_j h1, f2.at 123 (by decide)]
      · exact ((f2.mono (by decide)).trans (Fr.set (S := [(123, 123), (126, 126)]) Fr.rf (by decide))).trans t4
      · have hi : i < 5 := by
          have : min 6 (6 + 1) = 6 := rfl
          omega
        rw [t6 _ (by omega), mset_ne (by decide), g1 _ (by omega), if_pos trivial]
        congr 1
        omega
    · rw [nI_leI (by decide) (by omega)] at q
      rw [inb_nI (by omega) (by omega), chk_t, inb_nI (by omega) (by omega), chk_t, nI_clamp (by omega), nI_clamp (by omega), bnd_s]
      refine hX (185 - (i + 1)) _ _ (by omega) ⟨i + 1, by omega, rfl, rfl, Fr.set f2 (by decide), fun j hj => ?_, fun j hj => ?_⟩
      · by_cases e : j = i
        · subst e
          rw [mset_at, g2 _ (by omega)]
        · rw [mset_j (by omega)]; exact g1 j (by omega)
      · rw [mset_j (by omega)]; exact g2 j (by omega)
  · have hk6 : k ≠ 6 := fun z => q (by rw [z])
    refine wp_mono (tail m k (by omega) hm e4) ?_
    rintro _ m3 ⟨t1, t2, t3, t4, t5, t6⟩
    have hmin : min 6 (k + 1) = k + 1 := Nat.min_eq_right (by omega)
    rw [hmin]
    refine ⟨t1, t2, t3, t4, t5, fun i hi j hj => ?_⟩
    rw [t6 _ (by omega), if_neg hk6]
    rfl
theorem ovl_same {a : Arr} {i : Nat} (h : ∀ j, j < 37 → a (37 * i + j) = w j) : ovl w a i = w := by
  funext j
  unfold ovl
  split
  · exact h j ‹_›
  · rfl
theorem ovl_eq {a b : Arr} {i i' : Nat} (h : ∀ j, j < 37 → a (37 * i + j) = b (37 * i' + j)) : ovl w a i = ovl w b i' := by
  funext j
  unfold ovl
  split
  · exact h j ‹_›
  · rfl
theorem PasR.kept (h : PasR k p w m) (W0 : WFc w) (hmm : WFm 11258 w) (e1 : m' 48 1 = nI ((p + 1) % 6)) (e2 : m' 48 2 = nI (min 6 (k + 1))) (e3 : m' 123 4 = nI (min 6 (k + 1))) (hM : MomR (50 + 7 * p) w m')
    (hc : ∀ c, 50 ≤ c → c ≤ 91 → (c < 50 + 7 * p ∨ 50 + 7 * p + 6 < c) → m' c = m c) (hs1 : ∀ j, j < 37 → m' 126 (37 * (min 6 (k + 1) - 1) + j) = w j)
    (hs2 : ∀ i, i + 1 < min 6 (k + 1) → ∀ j, j < 37 → m' 126 (37 * i + j) = m 126 (37 * (i + (if k = 6 then 1 else 0)) + j)) : PasR (min 6 (k + 1)) ((p + 1) % 6) w m' := by
  obtain ⟨hk, hp, -, -, -, hs⟩ := h
  have hp' : (p + 1) % 6 < 6 := Nat.mod_lt _ (by decide)
  refine ⟨Nat.min_le_left _ _, hp', e2, e1, e3, fun i hi => ?_⟩
  by_cases hlast : i + 1 = min 6 (k + 1)
  · have ei : i = min 6 (k + 1) - 1 := by omega
    have eo : ovl w (m' 126) i = w := ovl_same (fun j hj => by rw [ei]; exact hs1 j hj)
    rw [eo]
    have eq : ((p + 1) % 6 + 6 - min 6 (k + 1) + i) % 6 = p := by omega
    rw [eq]
    exact ⟨hM, W0.lowW hmm⟩
  · have eo : ovl w (m' 126) i = ovl w (m 126) (i + (if k = 6 then 1 else 0)) := ovl_eq (fun j hj => hs2 i (by omega) j hj)
    rw [eo]
    have hi2 : i + (if k = 6 then 1 else 0) < k := by
      split <;> omega
    have eq : ((p + 1) % 6 + 6 - min 6 (k + 1) + i) % 6 = (p + 6 - k + (i + (if k = 6 then 1 else 0))) % 6 := by
      split <;> omega
    obtain ⟨hR, hl⟩ := hs _ hi2
    rw [eq]
    have hne : (p + 6 - k + (i + (if k = 6 then 1 else 0))) % 6 ≠ p := by
      rw [← eq]
      omega
    have hq6 : (p + 6 - k + (i + (if k = 6 then 1 else 0))) % 6 < 6 := Nat.mod_lt _ (by decide)
    exact ⟨hR.cg (sml_ovl W0 hl) (fun c h1 h2 => hc c (by omega) (by omega) (by omega)) (fun _ _ => rfl), hl⟩
/-- the class goes back -/
theorem w_backC (H : HRep 2 LN w m) (W0 : WFc w) (h : PasR (k + 1) p w m) :
    Wp (f_X4_back N m) (fun v m' => v = nI 1 ∧ HRep 2 LN (ovl w (m 126) k) m' ∧ m' 48 1 = nI ((p + 5) % 6) ∧ m' 48 2 = nI k ∧ ∀ c, c ≠ 48 → (c < 3 ∨ 9 < c) → m' c = m c) := by
  obtain ⟨hk, hp, e2, e1, -, hs⟩ := h
  unfold f_X4_back
  simp only [li_0, li_1, li_2, li_3, li_4, li_5, li_6, li_7, li_8, li_9, li_10, li_11, li_12, li_13, li_14, li_15, li_16, li_17, li_18, li_19, li_20, li_21, li_22, li_23, li_24, li_25, li_26, li_27, li_28, li_29, li_30, li_31, li_32, li_37, li_38, li_39, li_40, li_41, li_42, li_43, li_44, li_45, li_46, li_47, li_48, li_49, li_50, li_57, li_59, li_60, li_61, li_62, li_63, li_64, li_65, li_69, li_81, li_89, li_90, li_92, li_97, li_99, li_100, li_101, li_103, li_104, li_105, li_106, li_108, li_111, li_112, li_113, li_114, li_115, li_116, li_117, li_119, li_122, li_123, li_124, li_125, li_126, li_127, li_128, li_129, li_130, li_131, li_132, li_133, li_134, li_135, li_136, li_137, li_140, li_141, li_142, li_143, li_145, li_147, li_150, li_153, li_159, li_160, li_161, li_162, li_185, li_197, li_213, li_222, li_223, li_255, li_256, li_257, li_258, li_259, li_260, li_261, li_262, li_263, li_264, li_271, li_272, li_273, li_274, li_275, li_276, li_277, li_278, li_300, li_400, li_420, li_500, li_802, li_820, li_823, li_839, li_855, li_871, li_887, li_999, li_1000, li_1001, li_1002, li_1003, li_1004, li_1005, li_1006, li_1007, li_1008, li_1009, li_1010, li_1011, li_1012, li_1013, li_1014, li_1015, li_1016, li_1017, li_1018, li_1019, li_1020, li_1021, li_1022, li_1023, li_1707, li_4096, li_9999, li_65536, li_100000, li_1000000, li_1664525, li_100000000, li_252645135, li_858993459, li_1000000007, li_1013904223, li_1431655765, li_m1]
  rw [e2, e1, if_pos (nI_le (by omega) (by omega))]
  have fin : ∀ v : Int32, v = nI ((p + 5) % 6) → Wp (f_X4_back_J28 N v m) (fun v m' => v = nI 1 ∧ HRep 2 LN (ovl w (m 126) k) m' ∧ m' 48 1 = nI ((p + 5) % 6) ∧ m' 48 2 = nI k ∧ ∀ c, c ≠ 48 → (c < 3 ∨ 9 < c) → m' c = m c) := by
    rintro v rfl
    have hq : (p + 5) % 6 < 6 := Nat.mod_lt _ (by decide)
    obtain ⟨hR, hl⟩ := hs k (by omega)
    have eq : (p + 6 - (k + 1) + k) % 6 = (p + 5) % 6 := by omega
    rw [eq] at hR
    unfold f_X4_back_J28
    simp only [li_0, li_1, li_2, li_3, li_4, li_5, li_6, li_7, li_8, li_9, li_10, li_11, li_12, li_13, li_14, li_15, li_16, li_17, li_18, li_19, li_20, li_21, li_22, li_23, li_24, li_25, li_26, li_27, li_28, li_29, li_30, li_31, li_32, li_37, li_38, li_39, li_40, li_41, li_42, li_43, li_44, li_45, li_46, li_47, li_48, li_49, li_50, li_57, li_59, li_60, li_61, li_62, li_63, li_64, li_65, li_69, li_81, li_89, li_90, li_92, li_97, li_99, li_100, li_101, li_103, li_104, li_105, li_106, li_108, li_111, li_112, li_113, li_114, li_115, li_116, li_117, li_119, li_122, li_123, li_124, li_125, li_126, li_127, li_128, li_129, li_130, li_131, li_132, li_133, li_134, li_135, li_136, li_137, li_140, li_141, li_142, li_143, li_145, li_147, li_150, li_153, li_159, li_160, li_161, li_162, li_185, li_197, li_213, li_222, li_223, li_255, li_256, li_257, li_258, li_259, li_260, li_261, li_262, li_263, li_264, li_271, li_272, li_273, li_274, li_275, li_276, li_277, li_278, li_300, li_400, li_420, li_500, li_802, li_820, li_823, li_839, li_855, li_871, li_887, li_999, li_1000, li_1001, li_1002, li_1003, li_1004, li_1005, li_1006, li_1007, li_1008, li_1009, li_1010, li_1011, li_1012, li_1013, li_1014, li_1015, li_1016, li_1017, li_1018, li_1019, li_1020, li_1021, li_1022, li_1023, li_1707, li_4096, li_9999, li_65536, li_100000, li_1000000, li_1664525, li_100000000, li_252645135, li_858993459, li_1000000007, li_1013904223, li_1431655765, li_m1]
    rw [bnd_s, mset_j (by decide), e2, nI_dn, bnd_s, mset_j (by decide), mset_at, e_momentAt _ hq, bd_s, decide_eq_true (show ¬ nI (50 + 7 * ((p + 5) % 6)) = mo1 from nI_no1 (by omega)), chk_t, nI_clamp (by omega)]
    generalize hm1 : mset (mset m 48 1 (nI ((p + 5) % 6))) 48 2 (nI k) = m1
    have f1 : Fr [(48, 48)] m m1 := by rw [← hm1]; exact Fr.set (Fr.set Fr.rf (by decide)) (by decide)
    have W' := W0.low hl (fun j hj => ovl_hi hj)
    have fc : ∀ c, c ≠ 48 → m1 c = m c := fun c hc => by rw [← hm1, mset_ne hc, mset_ne hc]
    refine wp_bind (w_mback (w' := ovl w (m 126) k) (H.fr W0.sml f1 (by decide +kernel)) W' (hR.cg W'.sml (fun c h1 h2 => fc c (by omega)) (fun _ _ => rfl)) (mom_in hq) (fun j hj => ovl_hi hj) W0.sml) ?_
    rintro _ m2 ⟨H2, f2⟩
    have e48 : m2 48 = m1 48 := f2.at 48 (by decide)
    refine wp_ret ⟨rfl, H2, by rw [e48, ← hm1, mset_j (by decide), mset_at], by rw [e48, ← hm1, mset_at], fun c h1 h2 => ?_⟩
    rw [f2 c (fun q hq => by
      have : q = (3, 9) := by simpa using hq
      subst this
      exact h2)]
    exact fc c h1
  refine wp_ite (fun q => ?_) (fun q => ?_)
  · rw [nI_leI (by omega) (by decide)] at q
    exact fin (nI 5) (by rw [show p = 0 by omega])
  · rw [nI_leI (by omega) (by decide)] at q
    obtain ⟨p, rfl⟩ : ∃ p', p = p' + 1 := ⟨p - 1, by omega⟩
    exact fin _ (by rw [nI_dn]; congr 1; omega)
theorem w_undoM (hN : 20000 ≤ N) (hm : m 124 = w) (hk : k < 6) (e4 : m 123 4 = nI (k + 1)) :
    Wp (f_X12_undo N m) (fun v m' => v = nI 1 ∧ m' 124 = ovl w (m 126) k ∧ m' 123 4 = nI k ∧ (∀ j, j ≠ 4 → m' 123 j = m 123 j) ∧ Fr [(123, 124)] m m') := by
  unfold f_X12_undo
  simp only [li_0, li_1, li_2, li_3, li_4, li_5, li_6, li_7, li_8, li_9, li_10, li_11, li_12, li_13, li_14, li_15, li_16, li_17, li_18, li_19, li_20, li_21, li_22, li_23, li_24, li_25, li_26, li_27, li_28, li_29, li_30, li_31, li_32, li_37, li_38, li_39, li_40, li_41, li_42, li_43, li_44, li_45, li_46, li_47, li_48, li_49, li_50, li_57, li_59, li_60, li_61, li_62, li_63, li_64, li_65, li_69, li_81, li_89, li_90, li_92, li_97, li_99, li_100, li_101, li_103, li_104, li_105, li_106, li_108, li_111, li_112, li_113, li_114, li_115, li_116, li_117, li_119, li_122, li_123, li_124, li_125, li_126, li_127, li_128, li_129, li_130, li_131, li_132, li_133, li_134, li_135, li_136, li_137, li_140, li_141, li_142, li_143, li_145, li_147, li_150, li_153, li_159, li_160, li_161, li_162, li_185, li_197, li_213, li_222, li_223, li_255, li_256, li_257, li_258, li_259, li_260, li_261, li_262, li_263, li_264, li_271, li_272, li_273, li_274, li_275, li_276, li_277, li_278, li_300, li_400, li_420, li_500, li_802, li_820, li_823, li_839, li_855, li_871, li_887, li_999, li_1000, li_1001, li_1002, li_1003, li_1004, li_1005, li_1006, li_1007, li_1008, li_1009, li_1010, li_1011, li_1012, li_1013, li_1014, li_1015, li_1016, li_1017, li_1018, li_1019, li_1020, li_1021, li_1022, li_1023, li_1707, li_4096, li_9999, li_65536, li_100000, li_1000000, li_1664525, li_100000000, li_252645135, li_858993459, li_1000000007, li_1013904223, li_1431655765, li_m1]
  rw [e4, if_neg (nI_ne (by omega) (by omega) (by decide)), nI_dn, bnd_s]
  refine wp_it1 (fun n a m2 => ∃ i, i ≤ 37 ∧ n = 37 - i ∧ a = nI i ∧ Fr [(123, 124)] m m2 ∧ m2 123 4 = nI k ∧ (∀ j, j ≠ 4 → m2 123 j = m 123 j) ∧ ∀ j, m2 124 j = if j < i then m 126 (37 * k + j) else w j) ?_ N 37 _ _ (by omega)
    ⟨0, by omega, rfl, rfl, Fr.set Fr.rf (by decide), mset_at _ _ _ _, fun j hj => mset_j hj, fun j => by rw [mset_ne (by decide), hm, if_neg (by omega)]⟩
  rintro n X a m2 ⟨i, hi, rfl, rfl, f2, g4, gj, g⟩ hX
  have e126 : m2 126 = m 126 := f2.at 126 (by decide)
  unfold f_X12_undo_L21
  simp only [li_0, li_1, li_2, li_3, li_4, li_5, li_6, li_7, li_8, li_9, li_10, li_11, li_12, li_13, li_14, li_15, li_16, li_17, li_18, li_19, li_20, li_21, li_22, li_23, li_24, li_25, li_26, li_27, li_28, li_29, li_30, li_31, li_32, li_37, li_38, li_39, li_40, li_41, li_42, li_43, li_44, li_45, li_46, li_47, li_48, li_49, li_50, li_57, li_59, li_60, li_61, li_62, li_63, li_64, li_65, li_69, li_81, li_89, li_90, li_92, li_97, li_99, li_100, li_101, li_103, li_104, li_105, li_106, li_108, li_111, li_112, li_113, li_114, li_115, li_116, li_117, li_119, li_122, li_123, li_124, li_125, li_126, li_127, li_128, li_129, li_130, li_131, li_132, li_133, li_134, li_135, li_136, li_137, li_140, li_141, li_142, li_143, li_145, li_147, li_150, li_153, li_159, li_160, li_161, li_162, li_185, li_197, li_213, li_222, li_223, li_255, li_256, li_257, li_258, li_259, li_260, li_261, li_262, li_263, li_264, li_271, li_272, li_273, li_274, li_275, li_276, li_277, li_278, li_300, li_400, li_420, li_500, li_802, li_820, li_823, li_839, li_855, li_871, li_887, li_999, li_1000, li_1001, li_1002, li_1003, li_1004, li_1005, li_1006, li_1007, li_1008, li_1009, li_1010, li_1011, li_1012, li_1013, li_1014, li_1015, li_1016, li_1017, li_1018, li_1019, li_1020, li_1021, li_1022, li_1023, li_1707, li_4096, li_9999, li_65536, li_100000, li_1000000, li_1664525, li_100000000, li_252645135, li_858993459, li_1000000007, li_1013904223, li_1431655765, li_m1]
  rw [g4]
  simp only [pk_mul, nI_add]
  refine wp_ite (fun q => ?_) (fun q => ?_)
  · rw [nI_leI (by decide) (by omega)] at q
    have : i = 37 := by omega
    subst this
    refine wp_ret ⟨rfl, ?_, g4, gj, f2⟩
    funext j
    rw [g j]
    rfl
  · rw [nI_leI (by decide) (by omega)] at q
    rw [inb_nI (by omega) (by omega), chk_t, inb_nI (by omega) (by omega), chk_t, nI_clamp (by omega), nI_clamp (by omega), bnd_s]
    refine hX (37 - (i + 1)) _ _ (by omega) ⟨i + 1, by omega, rfl, rfl, Fr.set f2 (by decide), by rw [mset_k (by decide)]; exact g4, fun j hj => by rw [mset_k (by decide)]; exact gj j hj, fun j => ?_⟩
    by_cases e : j = i
    · subst e
      rw [mset_at, e126, if_pos (by omega)]
    · rw [mset_j e, g j]
      by_cases h : j < i
      · rw [if_pos h, if_pos (by omega)]
      · rw [if_neg h, if_neg (by omega)]
theorem PasR.back (h : PasR (k + 1) p w m) (W0 : WFc w) (e1 : m' 48 1 = nI ((p + 5) % 6)) (e2 : m' 48 2 = nI k) (e3 : m' 123 4 = nI k) (hc : ∀ c, 50 ≤ c → c ≤ 91 → m' c = m c) (h126 : m' 126 = m 126) : PasR k ((p + 5) % 6) (ovl w (m 126) k) m' := by
  obtain ⟨hk, hp, -, -, -, hs⟩ := h
  refine ⟨by omega, Nat.mod_lt _ (by decide), e2, e1, e3, fun i hi => ?_⟩
  rw [h126]
  have eo : ovl (ovl w (m 126) k) (m 126) i = ovl w (m 126) i := by
    funext j
    unfold ovl
    split
    · rfl
    · rfl
  rw [eo]
  obtain ⟨hR, hl⟩ := hs i (by omega)
  have eq : ((p + 5) % 6 + 6 - k + i) % 6 = (p + 6 - (k + 1) + i) % 6 := by omega
  rw [eq]
  have hq6 : (p + 6 - (k + 1) + i) % 6 < 6 := Nat.mod_lt _ (by decide)
  exact ⟨hR.cg (sml_ovl W0 hl) (fun c h1 h2 => hc c (by omega) (by omega)) (fun _ _ => rfl), hl⟩
end PAST
