/-! the reference goes on by a token -/
section NXTM
variable {N : Nat} {m m1 m' m2 : Mem} {B : Nat → Nat} {n k j : Nat}
theorem w_next0 {p : Nat} (hN : 20000 ≤ N) (h : RB B n k m) (hk : k ≤ 3) (h17 : m 123 17 = nI p) (hp : p ≤ n) (hj : stT B n p = psT B n j) : Wp (f_X12_next0 N m) (fun _ m' => RT B n k j m' ∧ Lk m m') := by
  have hn := h.2.2.1
  have hB := h.2.2.2.2
  unfold f_X12_next0
  simp only [li_0, li_1, li_2, li_3, li_4, li_5, li_6, li_7, li_8, li_9, li_10, li_11, li_12, li_13, li_14, li_15, li_16, li_17, li_18, li_19, li_20, li_21, li_22, li_23, li_24, li_25, li_26, li_27, li_28, li_29, li_30, li_31, li_32, li_37, li_38, li_39, li_40, li_41, li_42, li_43, li_44, li_45, li_46, li_47, li_48, li_49, li_50, li_57, li_59, li_60, li_61, li_62, li_63, li_64, li_65, li_69, li_81, li_89, li_90, li_92, li_97, li_99, li_100, li_101, li_103, li_104, li_105, li_106, li_108, li_111, li_112, li_113, li_114, li_115, li_116, li_117, li_119, li_122, li_123, li_124, li_125, li_126, li_127, li_128, li_129, li_130, li_131, li_132, li_133, li_134, li_135, li_136, li_137, li_140, li_141, li_142, li_143, li_145, li_147, li_150, li_153, li_159, li_160, li_161, li_162, li_185, li_197, li_213, li_222, li_223, li_255, li_256, li_257, li_258, li_259, li_260, li_261, li_262, li_263, li_264, li_271, li_272, li_273, li_274, li_275, li_276, li_277, li_278, li_300, li_400, li_420, li_500, li_802, li_820, li_823, li_839, li_855, li_871, li_887, li_999, li_1000, li_1001, li_1002, li_1003, li_1004, li_1005, li_1006, li_1007, li_1008, li_1009, li_1010, li_1011, li_1012, li_1013, li_1014, li_1015, li_1016, li_1017, li_1018, li_1019, li_1020, li_1021, li_1022, li_1023, li_1707, li_4096, li_9999, li_65536, li_100000, li_1000000, li_1664525, li_100000000, li_252645135, li_858993459, li_1000000007, li_1013904223, li_1431655765, li_m1]
  refine wp_it0 (fun c m' => ∃ q, c = n - q ∧ p ≤ q ∧ q ≤ n ∧ m' 123 17 = nI q ∧ stT B n q = psT B n j ∧ Lk m m') ?_ N (n - p) _ (by omega) ⟨p, rfl, Nat.le_refl _, hp, h17, hj, Lk.rf⟩
  rintro c X m1 ⟨q, rfl, hq, hqn, e17, hst, hl⟩ hX
  have h1 := h.lk hl
  have hc := chr_le (i := q) hB
  have go1 : isK (chr B n q) = true → Wp (bnd (mset m1 123 17 ((m1 123 17) + nI 1)) fun m_33 => X m_33) (fun _ m' => RT B n k j m' ∧ Lk m m') := by
    intro z
    have hlt : q < n := Nat.lt_of_not_le fun y => isK_ne z (chr_out y)
    rw [bnd_s, e17, nI_up]
    refine hX (n - (q + 1)) _ (by omega) ⟨q + 1, rfl, by omega, by omega, mset_at _ _ _ _, ?_, hl.set (by decide)⟩
    rw [← hst]
    exact (goo_s (p := fun i => isK (chr B n i)) z (by omega)).symm
  unfold f_X12_next0_L0
  simp only [li_0, li_1, li_2, li_3, li_4, li_5, li_6, li_7, li_8, li_9, li_10, li_11, li_12, li_13, li_14, li_15, li_16, li_17, li_18, li_19, li_20, li_21, li_22, li_23, li_24, li_25, li_26, li_27, li_28, li_29, li_30, li_31, li_32, li_37, li_38, li_39, li_40, li_41, li_42, li_43, li_44, li_45, li_46, li_47, li_48, li_49, li_50, li_57, li_59, li_60, li_61, li_62, li_63, li_64, li_65, li_69, li_81, li_89, li_90, li_92, li_97, li_99, li_100, li_101, li_103, li_104, li_105, li_106, li_108, li_111, li_112, li_113, li_114, li_115, li_116, li_117, li_119, li_122, li_123, li_124, li_125, li_126, li_127, li_128, li_129, li_130, li_131, li_132, li_133, li_134, li_135, li_136, li_137, li_140, li_141, li_142, li_143, li_145, li_147, li_150, li_153, li_159, li_160, li_161, li_162, li_185, li_197, li_213, li_222, li_223, li_255, li_256, li_257, li_258, li_259, li_260, li_261, li_262, li_263, li_264, li_271, li_272, li_273, li_274, li_275, li_276, li_277, li_278, li_300, li_400, li_420, li_500, li_802, li_820, li_823, li_839, li_855, li_871, li_887, li_999, li_1000, li_1001, li_1002, li_1003, li_1004, li_1005, li_1006, li_1007, li_1008, li_1009, li_1010, li_1011, li_1012, li_1013, li_1014, li_1015, li_1016, li_1017, li_1018, li_1019, li_1020, li_1021, li_1022, li_1023, li_1707, li_4096, li_9999, li_65536, li_100000, li_1000000, li_1664525, li_100000000, li_252645135, li_858993459, li_1000000007, li_1013904223, li_1431655765, li_m1]
  rw [e17, e_see h1 (by omega), bd_s]
  by_cases q32 : chr B n q = 32
  · rw [if_pos (show cI (chr B n q) = nI 32 by rw [q32]; rfl)]
    exact go1 (by rw [q32]; rfl)
  · rw [if_neg (fun z => q32 ((cI_eq hc (by decide)).mp z.symm)), e17, e_see h1 (by omega), bd_s]
    by_cases q10 : chr B n q = 10
    · rw [if_pos (show cI (chr B n q) = nI 10 by rw [q10]; rfl)]
      exact go1 (by rw [q10]; rfl)
    · rw [if_neg (fun z => q10 ((cI_eq hc (by decide)).mp z.symm)), bnd_s]
      have hK : isK (chr B n q) = false := by unfold isK; rw [decide_eq_false q32, decide_eq_false q10]; rfl
      have eq : psT B n j = q := by rw [← hst]; exact goo_n (p := fun i => isK (chr B n i)) hK
      have h2 : RB B n k (mset m1 123 19 (nI q)) := h1.lk (Lk.set Lk.rf (by decide))
      have hl2 : Lk m (mset m1 123 19 (nI q)) := hl.set (by decide)
      have g17 : (mset m1 123 19 (nI q)) 123 17 = nI q := by rw [mset_j (by decide)]; exact e17
      have g19 : (mset m1 123 19 (nI q)) 123 19 = nI q := mset_at _ _ _ _
      rw [e17]
      revert h2 hl2 g17 g19
      generalize mset m1 123 19 (nI q) = m2
      intro h2 hl2 g17 g19
      -- the end of a token: at its end, of its kind
      have fin : ∀ m3 : Mem, Lk m m3 → m3 123 19 = nI q → m3 123 17 = nI (enT B n q) → (kT B n q = 1 → m3 123 20 = vT B n q) → Wp (bnd (mset m3 123 18 (nI (trK k (kT B n q)))) fun m_63 => some (nI 0, m_63)) (fun _ m' => RT B n k j m' ∧ Lk m m') := by
        intro m3 l3 e19 e17 e20
        rw [bnd_s]
        refine wp_ret ⟨⟨(h.lk l3).lk (Lk.set Lk.rf (by decide)), ?_, ?_, ?_, ?_⟩, l3.set (by decide)⟩
        · unfold tkK
          rw [mset_at, eq]
        · rw [mset_j (by decide), eq]; exact e19
        · rw [mset_j (by decide), eq]; exact e17
        · unfold tkK tkV
          rw [mset_j (by decide), eq]; exact e20
      rw [g17, e_see h2 (by omega), bd_s]
      by_cases q256 : chr B n q = 256
      · rw [if_pos (show cI (chr B n q) = mo1 by rw [q256]; rfl)]
        have hk0 : kT B n q = 0 := kT_end q256
        have hE : enT B n q = q := if_pos q256
        have := fin m2 hl2 g19 (by rw [hE]; exact g17) (fun z => by omega)
        rw [hk0] at this
        exact this
      · have hqn2 : q < n := Nat.lt_of_not_le fun y => q256 (chr_out y)
        rw [if_neg (show ¬ cI (chr B n q) = mo1 by unfold cI; rw [if_neg q256]; exact nI_no1 (by omega)), e_letterM hc, bd_s, if_b2i]
        cases qL : isL (chr B n q) with
        | true =>
          have hD : isD (chr B n q) = false := by
            have : ∀ c, c < 257 → isL c = true → isD c = false := by decide +kernel
            exact this _ (by omega) qL
          obtain ⟨hk1, hE⟩ := kT_let hD qL
          have hEn : enT B n q ≤ n := enT_le hqn
          rw [if_pos rfl]
          refine wp_it0 (fun c m' => ∃ r, c = n - r ∧ q ≤ r ∧ r ≤ n ∧ m' 123 17 = nI r ∧ m' 123 19 = nI q ∧ goo (fun i => isL (chr B n i)) r = enT B n q ∧ Lk m m') ?_ N (n - q) _ (by omega) ⟨q, rfl, Nat.le_refl _, hqn, g17, g19, hE.symm, hl2⟩
          rintro c Y m4 ⟨r, rfl, hr, hrn, r17, r19, hG, hl4⟩ hY
          have h4 := h.lk hl4
          unfold f_X12_next0_L76
          simp only [li_0, li_1, li_2, li_3, li_4, li_5, li_6, li_7, li_8, li_9, li_10, li_11, li_12, li_13, li_14, li_15, li_16, li_17, li_18, li_19, li_20, li_21, li_22, li_23, li_24, li_25, li_26, li_27, li_28, li_29, li_30, li_31, li_32, li_37, li_38, li_39, li_40, li_41, li_42, li_43, li_44, li_45, li_46, li_47, li_48, li_49, li_50, li_57, li_59, li_60, li_61, li_62, li_63, li_64, li_65, li_69, li_81, li_89, li_90, li_92, li_97, li_99, li_100, li_101, li_103, li_104, li_105, li_106, li_108, li_111, li_112, li_113, li_114, li_115, li_116, li_117, li_119, li_122, li_123, li_124, li_125, li_126, li_127, li_128, li_129, li_130, li_131, li_132, li_133, li_134, li_135, li_136, li_137, li_140, li_141, li_142, li_143, li_145, li_147, li_150, li_153, li_159, li_160, li_161, li_162, li_185, li_197, li_213, li_222, li_223, li_255, li_256, li_257, li_258, li_259, li_260, li_261, li_262, li_263, li_264, li_271, li_272, li_273, li_274, li_275, li_276, li_277, li_278, li_300, li_400, li_420, li_500, li_802, li_820, li_823, li_839, li_855, li_871, li_887, li_999, li_1000, li_1001, li_1002, li_1003, li_1004, li_1005, li_1006, li_1007, li_1008, li_1009, li_1010, li_1011, li_1012, li_1013, li_1014, li_1015, li_1016, li_1017, li_1018, li_1019, li_1020, li_1021, li_1022, li_1023, li_1707, li_4096, li_9999, li_65536, li_100000, li_1000000, li_1664525, li_100000000, li_252645135, li_858993459, li_1000000007, li_1013904223, li_1431655765, li_m1]
          rw [r17, e_see h4 (by omega), bd_s, e_letterM (chr_le hB), bd_s, if_b2i]
          cases qr : isL (chr B n r) with
          | true =>
            have hlt : r < n := Nat.lt_of_not_le fun y => isL_ne qr (chr_out y)
            rw [if_pos rfl, r17, nI_up, bnd_s]
            refine hY (n - (r + 1)) _ (by omega) ⟨r + 1, rfl, by omega, by omega, mset_at _ _ _ _, by rw [mset_j (by decide)]; exact r19, ?_, hl4.set (by decide)⟩
            rw [← hG, goo_s (p := fun i => isL (chr B n i)) qr (by omega)]
          | false =>
            have er : enT B n q = r := by rw [← hG, goo_n (p := fun i => isL (chr B n i)) qr]
            rw [if_neg (by decide), e_word hN h4 hk r17 r19 hr hrn, bd_s]
            have := fin m4 hl4 r19 (by rw [er]; exact r17) (fun z => by rw [hk1] at z; have := kwd_all (T := txt B n q (enT B n q)); omega)
            rw [hk1, er] at this
            exact this
        | false =>
          rw [if_neg (by decide), e_digitM hc, bd_s, if_b2i]
          cases qD : isD (chr B n q) with
          | true =>
            obtain ⟨hk1, hE⟩ := kT_dig qD
            have hEn : enT B n q ≤ n := enT_le hqn
            have hEq : q ≤ enT B n q := by rw [hE]; exact goo_ge
            rw [if_pos rfl, bnd_s]
            refine wp_it0 (fun c m' => ∃ t, c = n - (q + t) ∧ q + t ≤ n ∧ m' 123 17 = nI (q + t) ∧ m' 123 19 = nI q ∧ (t ≤ 4 → m' 123 20 = vIn B n q t) ∧ goo (fun i => isD (chr B n i)) (q + t) = enT B n q ∧ Lk m m') ?_ N (n - q) _ (by omega)
              ⟨0, rfl, hqn, by rw [mset_j (by decide)]; exact g17, by rw [mset_j (by decide)]; exact g19, fun _ => mset_at _ _ _ _, hE.symm, hl2.set (by decide)⟩
            rintro c Y m4 ⟨t, rfl, htn, r17, r19, r20, hG, hl4⟩ hY
            have h4 := h.lk hl4
            unfold f_X12_next0_L126
            simp only [li_0, li_1, li_2, li_3, li_4, li_5, li_6, li_7, li_8, li_9, li_10, li_11, li_12, li_13, li_14, li_15, li_16, li_17, li_18, li_19, li_20, li_21, li_22, li_23, li_24, li_25, li_26, li_27, li_28, li_29, li_30, li_31, li_32, li_37, li_38, li_39, li_40, li_41, li_42, li_43, li_44, li_45, li_46, li_47, li_48, li_49, li_50, li_57, li_59, li_60, li_61, li_62, li_63, li_64, li_65, li_69, li_81, li_89, li_90, li_92, li_97, li_99, li_100, li_101, li_103, li_104, li_105, li_106, li_108, li_111, li_112, li_113, li_114, li_115, li_116, li_117, li_119, li_122, li_123, li_124, li_125, li_126, li_127, li_128, li_129, li_130, li_131, li_132, li_133, li_134, li_135, li_136, li_137, li_140, li_141, li_142, li_143, li_145, li_147, li_150, li_153, li_159, li_160, li_161, li_162, li_185, li_197, li_213, li_222, li_223, li_255, li_256, li_257, li_258, li_259, li_260, li_261, li_262, li_263, li_264, li_271, li_272, li_273, li_274, li_275, li_276, li_277, li_278, li_300, li_400, li_420, li_500, li_802, li_820, li_823, li_839, li_855, li_871, li_887, li_999, li_1000, li_1001, li_1002, li_1003, li_1004, li_1005, li_1006, li_1007, li_1008, li_1009, li_1010, li_1011, li_1012, li_1013, li_1014, li_1015, li_1016, li_1017, li_1018, li_1019, li_1020, li_1021, li_1022, li_1023, li_1707, li_4096, li_9999, li_65536, li_100000, li_1000000, li_1664525, li_100000000, li_252645135, li_858993459, li_1000000007, li_1013904223, li_1431655765, li_m1]
            rw [r17, e_see h4 (by omega), bd_s, e_digitM (chr_le hB), bd_s, if_b2i]
            cases qr : isD (chr B n (q + t)) with
            | true =>
              have hlt : q + t < n := Nat.lt_of_not_le fun y => isD_ne qr (chr_out y)
              have hGn : goo (fun i => isD (chr B n i)) (q + (t + 1)) = enT B n q := by
                rw [← hG, goo_s (p := fun i => isD (chr B n i)) qr (by omega)]
                rfl
              rw [if_pos rfl, r19, nI_add, r17]
              by_cases t4 : q + 4 ≤ q + t
              · rw [if_pos (nI_le t4 (by omega)), nI_up, bnd_s]
                exact hY (n - (q + (t + 1))) _ (by omega) ⟨t + 1, rfl, by omega, mset_at _ _ _ _, by rw [mset_j (by decide)]; exact r19, fun z => by omega, hGn, hl4.set (by decide)⟩
              · rw [if_neg (nI_ge (by omega) (by omega)), e_see h4 (by omega), bd_s, bnd_s, r20 (by omega), mset_j (by decide), r17, nI_up, bnd_s]
                refine hY (n - (q + (t + 1))) _ (by omega) ⟨t + 1, rfl, by omega, mset_at _ _ _ _, ?_, fun z => ?_, hGn, (hl4.set (by decide)).set (by decide)⟩
                · rw [mset_j (by decide), mset_j (by decide)]; exact r19
                · rw [mset_j (by decide), mset_at]
                  show _ = vIn B n q t * nI 10 + nI (chr B n (q + t)) - nI 48
                  rw [cI, if_neg (isD_ne qr), Int32.mul_comm]
            | false =>
              have er : enT B n q = q + t := by rw [← hG, goo_n (p := fun i => isD (chr B n i)) qr]
              rw [if_neg (by decide), r17, r19, pk_sub (by omega), show q + t - q = t by omega]
              have hv : vT B n q = vIn B n q t := by
                unfold vT
                rw [if_pos qD, er, show q + t - q = t by omega]
              by_cases t4 : 5 ≤ t
              · rw [if_pos (nI_le t4 (by omega))]
                have ek : kT B n q = 2 := by rw [hk1, er, if_neg (by omega)]
                have := fin m4 hl4 r19 (by rw [er]; exact r17) (fun z => by omega)
                rw [ek] at this
                exact this
              · rw [if_neg (nI_ge (by omega) (by omega))]
                have ek : kT B n q = 1 := by rw [hk1, er, if_pos (by omega)]
                have := fin m4 hl4 r19 (by rw [er]; exact r17) (fun z => by rw [hv]; exact r20 (by omega))
                rw [ek] at this
                exact this
          | false =>
            obtain ⟨hk1, hE⟩ := kT_oth q256 qD qL
            rw [if_neg (by decide), g17, nI_up, bnd_s]
            have hl5 : Lk m (mset m2 123 17 (nI (q + 1))) := hl2.set (by decide)
            have r17 : (mset m2 123 17 (nI (q + 1))) 123 17 = nI (q + 1) := mset_at _ _ _ _
            have r19 : (mset m2 123 17 (nI (q + 1))) 123 19 = nI q := by rw [mset_j (by decide)]; exact g19
            revert hl5 r17 r19
            generalize mset m2 123 17 (nI (q + 1)) = m5
            intro hl5 r17 r19
            have no1 : kT B n q ≠ 1 := by
              rw [hk1]
              have : ∀ c, c < 257 → (if isS c = true then c else 2) ≠ 1 := by decide +kernel
              exact this _ (by omega)
            have := fin m5 hl5 r19 (by rw [hE]; exact r17) (fun z => absurd z no1)
            unfold f_X12_next0_J284
            simp only [li_0, li_1, li_2, li_3, li_4, li_5, li_6, li_7, li_8, li_9, li_10, li_11, li_12, li_13, li_14, li_15, li_16, li_17, li_18, li_19, li_20, li_21, li_22, li_23, li_24, li_25, li_26, li_27, li_28, li_29, li_30, li_31, li_32, li_37, li_38, li_39, li_40, li_41, li_42, li_43, li_44, li_45, li_46, li_47, li_48, li_49, li_50, li_57, li_59, li_60, li_61, li_62, li_63, li_64, li_65, li_69, li_81, li_89, li_90, li_92, li_97, li_99, li_100, li_101, li_103, li_104, li_105, li_106, li_108, li_111, li_112, li_113, li_114, li_115, li_116, li_117, li_119, li_122, li_123, li_124, li_125, li_126, li_127, li_128, li_129, li_130, li_131, li_132, li_133, li_134, li_135, li_136, li_137, li_140, li_141, li_142, li_143, li_145, li_147, li_150, li_153, li_159, li_160, li_161, li_162, li_185, li_197, li_213, li_222, li_223, li_255, li_256, li_257, li_258, li_259, li_260, li_261, li_262, li_263, li_264, li_271, li_272, li_273, li_274, li_275, li_276, li_277, li_278, li_300, li_400, li_420, li_500, li_802, li_820, li_823, li_839, li_855, li_871, li_887, li_999, li_1000, li_1001, li_1002, li_1003, li_1004, li_1005, li_1006, li_1007, li_1008, li_1009, li_1010, li_1011, li_1012, li_1013, li_1014, li_1015, li_1016, li_1017, li_1018, li_1019, li_1020, li_1021, li_1022, li_1023, li_1707, li_4096, li_9999, li_65536, li_100000, li_1000000, li_1664525, li_100000000, li_252645135, li_858993459, li_1000000007, li_1013904223, li_1431655765, li_m1]
            have cs : ∀ d, d < 256 → (cI (chr B n q) = nI d) = (chr B n q = d) := fun d hd => propext ⟨fun z => (cI_eq hc hd).mp z.symm, fun z => ((cI_eq hc hd).mpr z).symm⟩
            simp only [cs 59 (by decide), cs 43 (by decide), cs 45 (by decide), cs 42 (by decide), cs 47 (by decide), cs 40 (by decide), cs 41 (by decide), cs 60 (by decide), cs 61 (by decide), cs 62 (by decide)]
            have e1 : (nI 1 = nI 0) = False := by simp only [eq_iff_iff, iff_false]; decide
            have hs : isS (chr B n q) = true → nI 100 + cI (chr B n q) = nI (trK k (kT B n q)) := by
              intro z
              have hb : ∀ c, c < 257 → isS c = true → c < 256 ∧ 3 ≤ c := by decide +kernel
              obtain ⟨b1, b2⟩ := hb _ (by omega) z
              rw [hk1, if_pos z, cI, if_neg q256, nI_add]
              unfold trK
              rw [if_neg (by omega), if_neg (by omega), if_neg (by omega), if_pos b1]
            have hns : isS (chr B n q) = false → nI 1 = nI (trK k (kT B n q)) := by
              intro z
              rw [hk1, z]
              rfl
            simp only [e1, if_false, if_true]
            by_cases z : isS (chr B n q) = true
            · rw [← hs z] at this
              unfold isS at z
              simp only [List.mem_cons, List.mem_nil_iff, or_false, decide_eq_true_eq] at z
              repeat' split
              all_goals first | exact this | (exfalso; omega)
            · have z : isS (chr B n q) = false := by cases y : isS (chr B n q) with
                | true => exact absurd y z
                | false => rfl
              rw [← hns z] at this
              unfold isS at z
              simp only [List.mem_cons, List.mem_nil_iff, or_false, decide_eq_false_iff_not, not_or] at z
              repeat' split
              all_goals first | exact this | (exfalso; omega)
theorem RT.nx (hN : 20000 ≤ N) (hk : k ≤ 3) (h : RT B n k j m) : Wp (f_X12_next0 N m) (fun _ m' => RT B n k (j + 1) m' ∧ Lk m m') :=
  w_next0 hN h.1 hk h.2.2.2.1 (enT_le (psT_le j)) rfl
theorem RT.lk (h : RT B n k j m) (h1 : ∀ x, x ≠ 123 → x ≠ 128 → x ≠ 129 → x ≠ 130 → m' x = m x) (h2 : ∀ i, i = 12 ∨ (16 ≤ i ∧ i ≤ 20) → m' 123 i = m 123 i) : RT B n k j m' := by
  obtain ⟨⟨a1, a2, a3, a4, a5⟩, a6, a7, a8, a9⟩ := h
  exact ⟨⟨by rw [h2 12 (by decide)]; exact a1, by rw [h2 16 (by decide)]; exact a2, a3, by rw [h1 131 (by decide) (by decide) (by decide) (by decide)]; exact a4, a5⟩, by rw [h2 18 (by decide)]; exact a6, by rw [h2 19 (by decide)]; exact a7, by rw [h2 17 (by decide)]; exact a8, by rw [h2 20 (by decide)]; exact a9⟩
end NXTM
