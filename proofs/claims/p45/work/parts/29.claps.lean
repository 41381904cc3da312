/-! the reference's applause -/
section CLAPS
variable {w w' : Arr} {LN : List Lin} {m m' : Mem} {N d : Nat} {tru : Bool} {dr : Nat → Int32}
theorem w_drawsM {K : Mem → Ans} {Q : Int32 → Mem → Prop} (hN : 20000 ≤ N) (hm : m 124 = w) (W0 : WFc w) (ht : m 123 26 = nI (if tru = true then 1 else 0))
    (k : ∀ m', m' 124 = dwS tru w → (∀ h, h < zh w → (zt w).testBit h = true → m' 134 h = drvS tru w h) → Fr [(124, 124), (134, 134)] m m' → Wp (K m') Q) : Wp (it1 (f_X12_claps_L2 N (nI d) K) N (nI 0) m) Q := by
  have l := W0.lzh
  refine wp_it1 (fun n a m' => ∃ i, i ≤ zh w ∧ n = zh w - i ∧ a = nI i ∧ m' 124 = upd w 5 (if tru = true then dstS w i else w 5) ∧ Fr [(124, 124), (134, 134)] m m' ∧ ∀ h, h < i → (zt w).testBit h = true → m' 134 h = drvS tru w h) ?_ N (zh w) _ _ (by omega)
    ⟨0, by omega, rfl, rfl, by
      have : (if tru = true then dstS w 0 else w 5) = w 5 := by
        split <;> rfl
      rw [this, upd_self]
      exact hm, Fr.rf, fun h hh => absurd hh (by omega)⟩
  rintro n X a m' ⟨i, hi, rfl, rfl, e124, f', hd⟩ hX
  have e123 : m' 123 = m 123 := f'.at 123 (by decide)
  have W1 : WFc (upd w 5 (if tru = true then dstS w i else w 5)) := W0.up (by decide)
  unfold f_X12_claps_L2
  simp only [li_0, li_1, li_2, li_3, li_4, li_5, li_6, li_7, li_8, li_9, li_10, li_11, li_12, li_13, li_14, li_15, li_16, li_17, li_18, li_19, li_20, li_21, li_22, li_23, li_24, li_25, li_26, li_27, li_28, li_29, li_30, li_31, li_32, li_37, li_38, li_39, li_40, li_41, li_42, li_43, li_44, li_45, li_46, li_47, li_48, li_49, li_50, li_57, li_59, li_60, li_61, li_62, li_63, li_64, li_65, li_69, li_81, li_89, li_90, li_92, li_97, li_99, li_100, li_101, li_103, li_104, li_105, li_106, li_108, li_111, li_112, li_113, li_114, li_115, li_116, li_117, li_119, li_122, li_123, li_124, li_125, li_126, li_127, li_128, li_129, li_130, li_131, li_132, li_133, li_134, li_135, li_136, li_137, li_140, li_141, li_142, li_143, li_145, li_147, li_150, li_153, li_159, li_160, li_161, li_162, li_185, li_197, li_213, li_222, li_223, li_255, li_256, li_257, li_258, li_259, li_260, li_261, li_262, li_263, li_264, li_271, li_272, li_273, li_274, li_275, li_276, li_277, li_278, li_300, li_400, li_420, li_500, li_802, li_820, li_823, li_839, li_855, li_871, li_887, li_999, li_1000, li_1001, li_1002, li_1003, li_1004, li_1005, li_1006, li_1007, li_1008, li_1009, li_1010, li_1011, li_1012, li_1013, li_1014, li_1015, li_1016, li_1017, li_1018, li_1019, li_1020, li_1021, li_1022, li_1023, li_1707, li_4096, li_9999, li_65536, li_100000, li_1000000, li_1664525, li_100000000, li_252645135, li_858993459, li_1000000007, li_1013904223, li_1431655765, li_m1]
  have e37 : m' 124 37 = nI (zh w) := by rw [e124, ud_n (by decide), W0.h37]
  rw [e37]
  refine wp_ite (fun q => ?_) (fun q => ?_)
  · rw [nI_leI (by omega) (by omega)] at q
    have : i = zh w := by omega
    subst this
    refine k m' ?_ hd f'
    rw [e124]
    unfold dwS
    cases tru with
    | true => rfl
    | false => exact upd_self
  · rw [nI_leI (by omega) (by omega)] at q
    rw [e_there e124 W1 (by omega), bd_s, zt_5]
    cases hb : (zt w).testBit i with
    | false =>
      rw [if_pos (by decide), nI_up]
      refine hX (zh w - (i + 1)) _ _ (by omega) ⟨i + 1, by omega, rfl, rfl, ?_, f', fun h hh hb2 => ?_⟩
      · rw [e124]
        congr 1
        split
        · show _ = if _ then _ else _
          rw [if_neg (by rw [hb]; decide)]
        · rfl
      · by_cases e : h = i
        · subst e; rw [hb] at hb2; cases hb2
        · exact hd h (by omega) hb2
    | true =>
      rw [if_neg (by decide), e123, ht]
      cases htru : tru with
      | false =>
        rw [if_pos (by rfl), inb_nI (by omega) (by omega), chk_t, nI_clamp (by omega), bnd_s, nI_up]
        refine hX (zh w - (i + 1)) _ _ (by omega) ⟨i + 1, by omega, rfl, rfl, ?_, Fr.set f' (by decide), fun h hh hb2 => ?_⟩
        · rw [mset_ne (by decide), e124, htru]; rfl
        · by_cases e : h = i
          · subst e
            rw [mset_at, htru]; rfl
          · rw [mset_j e]
            exact hd h (by omega) hb2
      | true =>
        rw [if_neg (by decide)]
        refine wp_bind (w_drawM e124) ?_
        rintro v m2 ⟨rfl, e2, f2⟩
        rw [htru, if_pos rfl, ud_s] at e2 ⊢
        rw [inb_nI (by omega) (by omega), chk_t, nI_clamp (by omega), bnd_s, nI_up]
        refine hX (zh w - (i + 1)) _ _ (by omega) ⟨i + 1, by omega, rfl, rfl, ?_, Fr.set (f'.trans (f2.mono (by decide))) (by decide), fun h hh hb2 => ?_⟩
        · rw [mset_ne (by decide), e2, htru, if_pos rfl, upd_twice]
          show _ = upd w 5 (if _ then _ else _)
          rw [if_pos hb]
        · by_cases e : h = i
          · subst e
            rw [mset_at, htru]; rfl
          · rw [mset_j e, f2.at 134 (by decide)]
            exact hd h (by omega) hb2
theorem rndS_ne {rdy cl i : Nat} (hi : i < 12) (h : stpS LN w d rdy dr (rndS LN w d rdy dr cl i) i = rndS LN w d rdy dr cl i ||| 2 ^ i) (hb : (rndS LN w d rdy dr cl i).testBit i = false) : rndS LN w d rdy dr cl (i + 1) ≠ cl := by
  intro z
  have h1 : pc (rndS LN w d rdy dr cl (i + 1)) = pc (rndS LN w d rdy dr cl i) + 1 := by
    show pc (stpS _ _ _ _ _ _ _) = _
    rw [h]
    exact pc_or hb hi
  rw [z] at h1
  rcases rndS_pc (LN := LN) (w := w) (d := d) (rdy := rdy) (dr := dr) (cl := cl) i (by omega) with q | q
  · rw [q] at h1; omega
  · omega
theorem w_aRound {cl : Nat} (hN : 20000 ≤ N) (hm : m 124 = w) (W0 : WFc w) (hd : d < zd w) (hw : lawW w LN) (ho : lawOk LN) (hcl : cl < 2 ^ zh w) (h28 : m 123 28 = nI cl) (hdr : ∀ h, h < zh w → (rdyS w).testBit h = true → m 134 h = dr h) :
    Wp (f_X12_aRound N (nI d) m) (fun v m' => v = b2i (decide (rndS LN w d (rdyS w) dr cl (zh w) ≠ cl)) ∧ m' 123 28 = nI (rndS LN w d (rdyS w) dr cl (zh w)) ∧ (∀ j, j ≠ 28 → m' 123 j = m 123 j) ∧ Fr [(123, 123), (132, 133)] m m') := by
  have l := W0.lzh
  have ld := W0.lzd
  have p := W0.p12
  unfold f_X12_aRound
  refine wp_it2 (fun n a c m' => ∃ i, i ≤ zh w ∧ n = zh w - i ∧ a = b2i (decide (rndS LN w d (rdyS w) dr cl i ≠ cl)) ∧ c = nI i ∧ m' 123 28 = nI (rndS LN w d (rdyS w) dr cl i) ∧ (∀ j, j ≠ 28 → m' 123 j = m 123 j) ∧ Fr [(123, 123), (132, 133)] m m') ?_ N (zh w) _ _ _ (by omega)
    ⟨0, by omega, rfl, by
      rw [decide_eq_false (fun z => z rfl)]; rfl, rfl, h28, fun j _ => rfl, Fr.rf⟩
  rintro n X a c m' ⟨i, hi, rfl, rfl, rfl, e28, hj, f'⟩ hX
  have e124 : m' 124 = w := (f'.at 124 (by decide)).trans hm
  have e134 : m' 134 = m 134 := f'.at 134 (by decide)
  have hlt := rndS_lt (LN := LN) (w := w) (d := d) (rdy := rdyS w) (dr := dr) hcl i hi
  unfold f_X12_aRound_L4
  simp only [li_0, li_1, li_2, li_3, li_4, li_5, li_6, li_7, li_8, li_9, li_10, li_11, li_12, li_13, li_14, li_15, li_16, li_17, li_18, li_19, li_20, li_21, li_22, li_23, li_24, li_25, li_26, li_27, li_28, li_29, li_30, li_31, li_32, li_37, li_38, li_39, li_40, li_41, li_42, li_43, li_44, li_45, li_46, li_47, li_48, li_49, li_50, li_57, li_59, li_60, li_61, li_62, li_63, li_64, li_65, li_69, li_81, li_89, li_90, li_92, li_97, li_99, li_100, li_101, li_103, li_104, li_105, li_106, li_108, li_111, li_112, li_113, li_114, li_115, li_116, li_117, li_119, li_122, li_123, li_124, li_125, li_126, li_127, li_128, li_129, li_130, li_131, li_132, li_133, li_134, li_135, li_136, li_137, li_140, li_141, li_142, li_143, li_145, li_147, li_150, li_153, li_159, li_160, li_161, li_162, li_185, li_197, li_213, li_222, li_223, li_255, li_256, li_257, li_258, li_259, li_260, li_261, li_262, li_263, li_264, li_271, li_272, li_273, li_274, li_275, li_276, li_277, li_278, li_300, li_400, li_420, li_500, li_802, li_820, li_823, li_839, li_855, li_871, li_887, li_999, li_1000, li_1001, li_1002, li_1003, li_1004, li_1005, li_1006, li_1007, li_1008, li_1009, li_1010, li_1011, li_1012, li_1013, li_1014, li_1015, li_1016, li_1017, li_1018, li_1019, li_1020, li_1021, li_1022, li_1023, li_1707, li_4096, li_9999, li_65536, li_100000, li_1000000, li_1664525, li_100000000, li_252645135, li_858993459, li_1000000007, li_1013904223, li_1431655765, li_m1]
  rw [e124, W0.h37]
  refine wp_ite (fun q => ?_) (fun q => ?_)
  · rw [nI_leI (by omega) (by omega)] at q
    have : i = zh w := by omega
    subst this
    rw [isB_b2i, chk_t]
    exact wp_ret ⟨rfl, e28, hj, f'⟩
  · rw [nI_leI (by omega) (by omega)] at q
    have stay : ∀ m2, (stpS LN w d (rdyS w) dr (rndS LN w d (rdyS w) dr cl i) i = rndS LN w d (rdyS w) dr cl i) → m2 123 28 = nI (rndS LN w d (rdyS w) dr cl i) → (∀ j, j ≠ 28 → m2 123 j = m 123 j) → Fr [(123, 123), (132, 133)] m m2 →
        Wp (X (b2i (decide (rndS LN w d (rdyS w) dr cl i ≠ cl))) (nI (i + 1)) m2) (fun v m' => v = b2i (decide (rndS LN w d (rdyS w) dr cl (zh w) ≠ cl)) ∧ m' 123 28 = nI (rndS LN w d (rdyS w) dr cl (zh w)) ∧ (∀ j, j ≠ 28 → m' 123 j = m 123 j) ∧ Fr [(123, 123), (132, 133)] m m') := by
      intro m2 hs h28 hj2 f2
      have e : rndS LN w d (rdyS w) dr cl (i + 1) = rndS LN w d (rdyS w) dr cl i := hs
      exact hX (zh w - (i + 1)) _ _ _ (by omega) ⟨i + 1, by omega, rfl, by rw [e], rfl, by rw [e]; exact h28, hj2, f2⟩
    have rb : (rdyS w).testBit i = ((zt w).testBit i && !(zv w).testBit i) := sdf_bit _ _ _
    rw [e_there e124 W0 (by omega), bd_s]
    cases hb : (zt w).testBit i with
    | false =>
      rw [if_pos (by decide), nI_up]
      refine stay m' ?_ e28 hj f'
      unfold stpS
      rw [if_neg (fun z => by rw [rb, hb] at z; cases z.1)]
    | true =>
      rw [if_neg (by decide), e_gloved e124 W0 (by omega), bd_s]
      cases hg : (zv w).testBit i with
      | true =>
        rw [if_neg (by decide), nI_up]
        refine stay m' ?_ e28 hj f'
        unfold stpS
        rw [if_neg (fun z => by rw [rb, hb, hg] at z; cases z.1)]
      | false =>
        have hr : (rdyS w).testBit i = true := by rw [rb, hb, hg]; rfl
        rw [if_pos (by decide), e28]
        refine wp_ite (fun q2 => ?_) (fun q2 => ?_)
        · rw [nI_up]
          refine stay m' ?_ e28 hj f'
          unfold stpS
          rw [if_neg (fun z => by rw [(nz_bit (by omega) (by omega)).mp q2] at z; cases z.2.1)]
        · have hcb : (rndS LN w d (rdyS w) dr cl i).testBit i = false := by
            cases h : (rndS LN w d (rdyS w) dr cl i).testBit i with
            | false => rfl
            | true => exact absurd ((nz_bit (by omega) (by omega)).mpr h) q2
          rw [inb_nI (by omega) (by omega), chk_t, nI_add, inb_nI (by omega) (by omega), chk_t, nI_clamp (by omega), e124, (W0.zn (show i < zh w by omega)).1, nz_and, e_count _ hN (by have := and_lt (b := rndS LN w d (rdyS w) dr cl i) (W0.zn (show i < zh w by omega)).2; omega), bd_s]
          refine wp_bind (w_clapM hN e124 (by omega) (by omega) hw ho) ?_
          rintro v m2 ⟨rfl, f2⟩
          have e123 : m2 123 = m' 123 := f2.at 123 (by decide)
          rw [nI_clamp (by omega), e134, hdr i (by omega) hr]
          refine wp_ite (fun q3 => ?_) (fun q3 => ?_)
          · rw [bnd_s, e123, e28, nz_one (by omega), nz_or, nI_up]
            have es : stpS LN w d (rdyS w) dr (rndS LN w d (rdyS w) dr cl i) i = rndS LN w d (rdyS w) dr cl i ||| 2 ^ i := by
              unfold stpS
              rw [if_pos ⟨hr, hcb, q3⟩]
            have e : rndS LN w d (rdyS w) dr cl (i + 1) = rndS LN w d (rdyS w) dr cl i ||| 2 ^ i := es
            refine hX (zh w - (i + 1)) _ _ _ (by omega) ⟨i + 1, by omega, rfl, ?_, rfl, by rw [mset_at, e], fun j hj2 => by rw [mset_j hj2, e123]; exact hj j hj2, Fr.set (f'.trans (f2.mono (by decide))) (by decide)⟩
            rw [decide_eq_true (rndS_ne (by omega) es hcb)]; rfl
          · rw [nI_up]
            refine stay m2 ?_ (by rw [e123]; exact e28) (fun j hj2 => by rw [e123]; exact hj j hj2) (f'.trans (f2.mono (by decide)))
            unfold stpS
            rw [if_neg (fun z => q3 z.2.2)]
theorem w_roundsM {K : Mem → Ans} {Q : Int32 → Mem → Prop} (hN : 20000 ≤ N) (hm : m 124 = w) (W0 : WFc w) (hd : d < zd w) (hw : lawW w LN) (ho : lawOk LN) (h28 : m 123 28 = nI 0) (h29 : m 123 29 = nI 0) (hdr : ∀ h, h < zh w → (rdyS w).testBit h = true → m 134 h = dr h)
    (k : ∀ m', m' 123 28 = nI (setS LN w d (rdyS w) dr 13 0 0).1 → m' 123 29 = nI (setS LN w d (rdyS w) dr 13 0 0).2 → (∀ j, j ≠ 28 → j ≠ 29 → m' 123 j = m 123 j) → Fr [(123, 123), (132, 133)] m m' → Wp (K m') Q) : Wp (it0 (f_X12_claps_L63 N (nI d) K) N m) Q := by
  have l := W0.lzh
  generalize hT : setS LN w d (rdyS w) dr 13 0 0 = T at k
  refine wp_it0 (fun n m' => ∃ q cl r, n = q ∧ setS LN w d (rdyS w) dr q cl r = T ∧ 13 ≤ q + pc cl ∧ q ≤ 13 ∧ cl < 2 ^ zh w ∧ m' 123 28 = nI cl ∧ m' 123 29 = nI r ∧ (∀ j, j ≠ 28 → j ≠ 29 → m' 123 j = m 123 j) ∧ Fr [(123, 123), (132, 133)] m m') ?_ N 13 _ (by omega)
    ⟨13, 0, 0, rfl, hT, by omega, Nat.le_refl _, pow_pos' _, h28, h29, fun j _ _ => rfl, Fr.rf⟩
  rintro n X m' ⟨q, cl, r, hnq, hs, hpc, hq13, hcl, e28, e29, hj, f'⟩ hX
  subst hnq
  have e124 : m' 124 = w := (f'.at 124 (by decide)).trans hm
  unfold f_X12_claps_L63
  simp only [li_0, li_1, li_2, li_3, li_4, li_5, li_6, li_7, li_8, li_9, li_10, li_11, li_12, li_13, li_14, li_15, li_16, li_17, li_18, li_19, li_20, li_21, li_22, li_23, li_24, li_25, li_26, li_27, li_28, li_29, li_30, li_31, li_32, li_37, li_38, li_39, li_40, li_41, li_42, li_43, li_44, li_45, li_46, li_47, li_48, li_49, li_50, li_57, li_59, li_60, li_61, li_62, li_63, li_64, li_65, li_69, li_81, li_89, li_90, li_92, li_97, li_99, li_100, li_101, li_103, li_104, li_105, li_106, li_108, li_111, li_112, li_113, li_114, li_115, li_116, li_117, li_119, li_122, li_123, li_124, li_125, li_126, li_127, li_128, li_129, li_130, li_131, li_132, li_133, li_134, li_135, li_136, li_137, li_140, li_141, li_142, li_143, li_145, li_147, li_150, li_153, li_159, li_160, li_161, li_162, li_185, li_197, li_213, li_222, li_223, li_255, li_256, li_257, li_258, li_259, li_260, li_261, li_262, li_263, li_264, li_271, li_272, li_273, li_274, li_275, li_276, li_277, li_278, li_300, li_400, li_420, li_500, li_802, li_820, li_823, li_839, li_855, li_871, li_887, li_999, li_1000, li_1001, li_1002, li_1003, li_1004, li_1005, li_1006, li_1007, li_1008, li_1009, li_1010, li_1011, li_1012, li_1013, li_1014, li_1015, li_1016, li_1017, li_1018, li_1019, li_1020, li_1021, li_1022, li_1023, li_1707, li_4096, li_9999, li_65536, li_100000, li_1000000, li_1664525, li_100000000, li_252645135, li_858993459, li_1000000007, li_1013904223, li_1431655765, li_m1]
  refine wp_bind (w_aRound (dr := dr) hN e124 W0 hd hw ho hcl e28 (fun h hh hr => by rw [f'.at 134 (by decide)]; exact hdr h hh hr)) ?_
  rintro v m2 ⟨rfl, g28, gj, f2⟩
  have pcl := pc_le cl
  match n, hs, hpc, hq13, hX with
  | 0, _, hpc, _, _ => omega
  | q + 1, hs, hpc, hq13, hX =>
    unfold setS at hs
    by_cases hc : rndS LN w d (rdyS w) dr cl (zh w) = cl
    · rw [decide_eq_false (fun z => z hc), if_pos (by decide)]
      rw [if_pos hc] at hs
      refine k m2 (by rw [g28, hc, ← hs]) (by rw [gj 29 (by decide), e29, ← hs]) (fun j h1 h2 => (gj j h1).trans (hj j h1 h2)) (f'.trans f2)
    · rw [decide_eq_true hc, if_neg (by decide), bnd_s, gj 29 (by decide), e29, nI_up]
      rw [if_neg hc] at hs
      refine hX q _ (by omega) ⟨q, rndS LN w d (rdyS w) dr cl (zh w), r + 1, rfl, hs, ?_, by omega, rndS_lt hcl _ (Nat.le_refl _), by rw [mset_j (by decide)]; exact g28, mset_at _ _ _ _, fun j h1 h2 => by rw [mset_j h2]; exact (gj j h1).trans (hj j h1 h2), Fr.set (f'.trans f2) (by decide)⟩
      have := (rndS_pc (LN := LN) (w := w) (d := d) (rdy := rdyS w) (dr := dr) (cl := cl) (zh w) (by omega)).resolve_left hc
      omega
theorem w_clapsM (hN : 20000 ≤ N) (hm : m 124 = begS LN w d) (W0 : WFc w) (hd : d < zd w) (hw : lawW w LN) (ho : lawOk LN) (ht : m 123 26 = nI (if tru = true then 1 else 0)) :
    Wp (f_X12_claps N (nI d) m) (fun _ m' => m' 124 = oneS LN tru w d ∧ m' 123 31 = b2i (gonS LN tru w d) ∧ m' 123 28 = nI (clpS LN tru w d).1 ∧ m' 123 29 = nI (clpS LN tru w d).2 ∧ m' 123 30 = hanS LN tru w d ∧ (∀ j, j < 28 ∨ 31 < j → m' 123 j = m 123 j) ∧ Fr [(123, 124), (132, 134)] m m') := by
  have l := W0.lzd
  have W1 := W0.beg (LN := LN) hd
  have W2 := W0.w2 (LN := LN) (tru := tru) hd
  have W3 := W0.w3 (LN := LN) (tru := tru) hd
  have W4 := W0.w4 (LN := LN) (tru := tru) hd
  have hw2 : lawW (w2S LN tru w d) LN := (hw.beg (by omega)).cg (fun i hi => w2S_o (by omega))
  have hw3 : lawW (w3S LN tru w d) LN := hw.w3 (by omega)
  have ez1 : zd (begS LN w d) = zd w := by unfold zd; rw [begS_o (by omega)]
  have z2 : zh (w2S LN tru w d) = zh (begS LN w d) := by unfold zh; rw [w2S_o (by decide)]
  have zt2 : zt (w2S LN tru w d) = zt (begS LN w d) := by unfold zt; rw [w2S_o (by decide)]
  have zd2 : zd (w2S LN tru w d) = zd w := by rw [← ez1]; unfold zd; rw [w2S_o (by decide)]
  unfold f_X12_claps
  simp only [li_0, li_1, li_2, li_3, li_4, li_5, li_6, li_7, li_8, li_9, li_10, li_11, li_12, li_13, li_14, li_15, li_16, li_17, li_18, li_19, li_20, li_21, li_22, li_23, li_24, li_25, li_26, li_27, li_28, li_29, li_30, li_31, li_32, li_37, li_38, li_39, li_40, li_41, li_42, li_43, li_44, li_45, li_46, li_47, li_48, li_49, li_50, li_57, li_59, li_60, li_61, li_62, li_63, li_64, li_65, li_69, li_81, li_89, li_90, li_92, li_97, li_99, li_100, li_101, li_103, li_104, li_105, li_106, li_108, li_111, li_112, li_113, li_114, li_115, li_116, li_117, li_119, li_122, li_123, li_124, li_125, li_126, li_127, li_128, li_129, li_130, li_131, li_132, li_133, li_134, li_135, li_136, li_137, li_140, li_141, li_142, li_143, li_145, li_147, li_150, li_153, li_159, li_160, li_161, li_162, li_185, li_197, li_213, li_222, li_223, li_255, li_256, li_257, li_258, li_259, li_260, li_261, li_262, li_263, li_264, li_271, li_272, li_273, li_274, li_275, li_276, li_277, li_278, li_300, li_400, li_420, li_500, li_802, li_820, li_823, li_839, li_855, li_871, li_887, li_999, li_1000, li_1001, li_1002, li_1003, li_1004, li_1005, li_1006, li_1007, li_1008, li_1009, li_1010, li_1011, li_1012, li_1013, li_1014, li_1015, li_1016, li_1017, li_1018, li_1019, li_1020, li_1021, li_1022, li_1023, li_1707, li_4096, li_9999, li_65536, li_100000, li_1000000, li_1664525, li_100000000, li_252645135, li_858993459, li_1000000007, li_1013904223, li_1431655765, li_m1]
  refine w_drawsM (tru := tru) hN hm W1 ht ?_
  intro m1 e124 hdr f1
  have e123 : m1 123 = m 123 := f1.at 123 (by decide)
  rw [bnd_s, bnd_s]
  refine w_roundsM (dr := drvS tru (begS LN w d)) (LN := LN) hN (w := w2S LN tru w d) (by rw [mset_ne (by decide), mset_ne (by decide)]; exact e124) W2 (by rw [zd2]; exact hd) hw2 ho (by rw [mset_j (by decide), mset_at]) (mset_at _ _ _ _) ?_ ?_
  · intro h hh hr
    rw [mset_ne (by decide), mset_ne (by decide)]
    refine hdr h (by rw [← z2]; exact hh) ?_
    unfold rdyS at hr
    rw [sdf_bit, Bool.and_eq_true] at hr
    rw [← zt2]
    exact hr.1
  intro m2 e28 e29 hj2 f2
  have f12 : Fr [(123, 124), (132, 134)] m m2 := (f1.mono (by decide)).trans ((Fr.set (S := [(123, 124), (132, 134)]) (Fr.set Fr.rf (by decide)) (by decide)).trans (f2.mono (by decide)))
  have g124 : m2 124 = w2S LN tru w d := by
    rw [f2.at 124 (by decide), mset_ne (by decide), mset_ne (by decide)]; exact e124
  have g123 : ∀ j, j < 28 ∨ 31 < j → m2 123 j = m 123 j := by
    intro j hj
    rw [hj2 j (by omega) (by omega), mset_j (by omega), mset_j (by omega), e123]
  have g28 : m2 123 28 = nI (clpS LN tru w d).1 := e28
  have g29 : m2 123 29 = nI (clpS LN tru w d).2 := e29
  have hcl : (clpS LN tru w d).1 < 2 ^ 31 := by
    have : ∀ k cl r, cl < 2 ^ zh (w2S LN tru w d) → (setS LN (w2S LN tru w d) d (rdyS (w2S LN tru w d)) (drvS tru (begS LN w d)) k cl r).1 < 2 ^ zh (w2S LN tru w d) := by
      intro k
      induction k with
      | zero => intro cl r h; exact h
      | succ k ih =>
        intro cl r h
        unfold setS
        split
        · exact h
        · exact ih _ _ (rndS_lt h _ (Nat.le_refl _))
    have := this 13 0 0 (pow_pos' _)
    have p := W2.p12
    unfold clpS
    omega
  have zd3 : zd (w3S LN tru w d) = zd w := by rw [← ez1]; unfold zd; rw [w3S_o (by decide)]
  -- the end: goesOn is set, the line noted
  have fin : ∀ m3 (b : Bool), b = gonS LN tru w d → m3 124 = w4S LN tru w d → m3 123 28 = nI (clpS LN tru w d).1 → m3 123 29 = nI (clpS LN tru w d).2 → m3 123 30 = hanS LN tru w d → (∀ j, j < 28 ∨ 31 < j → m3 123 j = m 123 j) → Fr [(123, 124), (132, 134)] m m3 →
      Wp (f_X12_claps_J204 N (nI d) (b2i b) m3) (fun _ m' => m' 124 = oneS LN tru w d ∧ m' 123 31 = b2i (gonS LN tru w d) ∧ m' 123 28 = nI (clpS LN tru w d).1 ∧ m' 123 29 = nI (clpS LN tru w d).2 ∧ m' 123 30 = hanS LN tru w d ∧ (∀ j, j < 28 ∨ 31 < j → m' 123 j = m 123 j) ∧ Fr [(123, 124), (132, 134)] m m') := by
    rintro m3 b rfl h124 h28 h29 h30 hj3 f3
    unfold f_X12_claps_J204
    simp only [li_0, li_1, li_2, li_3, li_4, li_5, li_6, li_7, li_8, li_9, li_10, li_11, li_12, li_13, li_14, li_15, li_16, li_17, li_18, li_19, li_20, li_21, li_22, li_23, li_24, li_25, li_26, li_27, li_28, li_29, li_30, li_31, li_32, li_37, li_38, li_39, li_40, li_41, li_42, li_43, li_44, li_45, li_46, li_47, li_48, li_49, li_50, li_57, li_59, li_60, li_61, li_62, li_63, li_64, li_65, li_69, li_81, li_89, li_90, li_92, li_97, li_99, li_100, li_101, li_103, li_104, li_105, li_106, li_108, li_111, li_112, li_113, li_114, li_115, li_116, li_117, li_119, li_122, li_123, li_124, li_125, li_126, li_127, li_128, li_129, li_130, li_131, li_132, li_133, li_134, li_135, li_136, li_137, li_140, li_141, li_142, li_143, li_145, li_147, li_150, li_153, li_159, li_160, li_161, li_162, li_185, li_197, li_213, li_222, li_223, li_255, li_256, li_257, li_258, li_259, li_260, li_261, li_262, li_263, li_264, li_271, li_272, li_273, li_274, li_275, li_276, li_277, li_278, li_300, li_400, li_420, li_500, li_802, li_820, li_823, li_839, li_855, li_871, li_887, li_999, li_1000, li_1001, li_1002, li_1003, li_1004, li_1005, li_1006, li_1007, li_1008, li_1009, li_1010, li_1011, li_1012, li_1013, li_1014, li_1015, li_1016, li_1017, li_1018, li_1019, li_1020, li_1021, li_1022, li_1023, li_1707, li_4096, li_9999, li_65536, li_100000, li_1000000, li_1664525, li_100000000, li_252645135, li_858993459, li_1000000007, li_1013904223, li_1431655765, li_m1]
    rw [isB_b2i, chk_t, bnd_s]
    generalize hm4 : mset m3 123 31 (b2i (gonS LN tru w d)) = m4
    have i124 : m4 124 = w4S LN tru w d := by rw [← hm4, mset_ne (by decide)]; exact h124
    have i31 : m4 123 31 = b2i (gonS LN tru w d) := by rw [← hm4, mset_at]
    have ij : ∀ j, j ≠ 31 → m4 123 j = m3 123 j := fun j hj => by rw [← hm4, mset_j hj]
    have f4 : Fr [(123, 124), (132, 134)] m m4 := by rw [← hm4]; exact Fr.set f3 (by decide)
    have note : ∀ x : Int32, (tru = true → x = if w4S LN tru w d 4 = nI 0 then nI 0 else nI 1) → Wp (bd (f_X12_notes N x (nI d) (m4 123 30) m4) fun _ m_227 => some (nI 0, m_227)) (fun _ m' => m' 124 = oneS LN tru w d ∧ m' 123 31 = b2i (gonS LN tru w d) ∧ m' 123 28 = nI (clpS LN tru w d).1 ∧ m' 123 29 = nI (clpS LN tru w d).2 ∧ m' 123 30 = hanS LN tru w d ∧ (∀ j, j < 28 ∨ 31 < j → m' 123 j = m 123 j) ∧ Fr [(123, 124), (132, 134)] m m') := by
      intro x hx
      rw [ij 30 (by decide), h30]
      cases htru : tru with
      | true =>
        have h26 : m4 123 26 = nI 1 := by rw [ij 26 (by decide), hj3 26 (by decide), ht, htru]; rfl
        refine wp_bind (w_noteM (a := x) (b := nI d) (c := hanS LN true w d) i124 (by rw [htru] at W4 ⊢; exact W4) h26) ?_
        rintro _ m5 ⟨h5, f5⟩
        have e5 : m5 123 = m4 123 := f5.at 123 (by decide)
        refine wp_ret ⟨?_, by rw [e5, i31, htru], by rw [e5, ij 28 (by decide), h28, htru], by rw [e5, ij 29 (by decide), h29, htru], by rw [e5, ij 30 (by decide), h30, htru], fun j hj => by rw [e5, ij j (by omega)]; exact hj3 j hj, f4.trans (f5.mono (by decide))⟩
        rw [h5, hx htru, htru]
        unfold oneS
        rw [if_pos rfl]
      | false =>
        have h26 : m4 123 26 = nI 0 := by rw [ij 26 (by decide), hj3 26 (by decide), ht, htru]; rfl
        unfold f_X12_notes
        simp only [li_0, li_1, li_2, li_3, li_4, li_5, li_6, li_7, li_8, li_9, li_10, li_11, li_12, li_13, li_14, li_15, li_16, li_17, li_18, li_19, li_20, li_21, li_22, li_23, li_24, li_25, li_26, li_27, li_28, li_29, li_30, li_31, li_32, li_37, li_38, li_39, li_40, li_41, li_42, li_43, li_44, li_45, li_46, li_47, li_48, li_49, li_50, li_57, li_59, li_60, li_61, li_62, li_63, li_64, li_65, li_69, li_81, li_89, li_90, li_92, li_97, li_99, li_100, li_101, li_103, li_104, li_105, li_106, li_108, li_111, li_112, li_113, li_114, li_115, li_116, li_117, li_119, li_122, li_123, li_124, li_125, li_126, li_127, li_128, li_129, li_130, li_131, li_132, li_133, li_134, li_135, li_136, li_137, li_140, li_141, li_142, li_143, li_145, li_147, li_150, li_153, li_159, li_160, li_161, li_162, li_185, li_197, li_213, li_222, li_223, li_255, li_256, li_257, li_258, li_259, li_260, li_261, li_262, li_263, li_264, li_271, li_272, li_273, li_274, li_275, li_276, li_277, li_278, li_300, li_400, li_420, li_500, li_802, li_820, li_823, li_839, li_855, li_871, li_887, li_999, li_1000, li_1001, li_1002, li_1003, li_1004, li_1005, li_1006, li_1007, li_1008, li_1009, li_1010, li_1011, li_1012, li_1013, li_1014, li_1015, li_1016, li_1017, li_1018, li_1019, li_1020, li_1021, li_1022, li_1023, li_1707, li_4096, li_9999, li_65536, li_100000, li_1000000, li_1664525, li_100000000, li_252645135, li_858993459, li_1000000007, li_1013904223, li_1431655765, li_m1]
        rw [h26, if_pos rfl, bd_s]
        refine wp_ret ⟨?_, by rw [i31, htru], by rw [ij 28 (by decide), h28, htru], by rw [ij 29 (by decide), h29, htru], by rw [ij 30 (by decide), h30, htru], fun j hj => by rw [ij j (by omega)]; exact hj3 j hj, f4⟩
        rw [i124, htru]
        unfold oneS
        rw [if_neg (by decide)]
    rw [i124]
    refine wp_ite (fun q => ?_) (fun q => ?_)
    · exact note _ (fun _ => by rw [if_pos q])
    · exact note _ (fun _ => by rw [if_neg q])
  -- the hands are known
  have J154 : ∀ m3, m3 124 = w4S LN tru w d → m3 123 28 = nI (clpS LN tru w d).1 → m3 123 29 = nI (clpS LN tru w d).2 → (∀ j, j < 28 ∨ 31 < j → m3 123 j = m 123 j) → Fr [(123, 124), (132, 134)] m m3 →
      Wp (f_X12_claps_J154 N (nI d) (b2i (cgS LN tru w d)) (hanS LN tru w d) m3) (fun _ m' => m' 124 = oneS LN tru w d ∧ m' 123 31 = b2i (gonS LN tru w d) ∧ m' 123 28 = nI (clpS LN tru w d).1 ∧ m' 123 29 = nI (clpS LN tru w d).2 ∧ m' 123 30 = hanS LN tru w d ∧ (∀ j, j < 28 ∨ 31 < j → m' 123 j = m 123 j) ∧ Fr [(123, 124), (132, 134)] m m') := by
    intro m3 h124 h28 h29 hj3 f3
    unfold f_X12_claps_J154 f_X12_claps_J203
    simp only [li_0, li_1, li_2, li_3, li_4, li_5, li_6, li_7, li_8, li_9, li_10, li_11, li_12, li_13, li_14, li_15, li_16, li_17, li_18, li_19, li_20, li_21, li_22, li_23, li_24, li_25, li_26, li_27, li_28, li_29, li_30, li_31, li_32, li_37, li_38, li_39, li_40, li_41, li_42, li_43, li_44, li_45, li_46, li_47, li_48, li_49, li_50, li_57, li_59, li_60, li_61, li_62, li_63, li_64, li_65, li_69, li_81, li_89, li_90, li_92, li_97, li_99, li_100, li_101, li_103, li_104, li_105, li_106, li_108, li_111, li_112, li_113, li_114, li_115, li_116, li_117, li_119, li_122, li_123, li_124, li_125, li_126, li_127, li_128, li_129, li_130, li_131, li_132, li_133, li_134, li_135, li_136, li_137, li_140, li_141, li_142, li_143, li_145, li_147, li_150, li_153, li_159, li_160, li_161, li_162, li_185, li_197, li_213, li_222, li_223, li_255, li_256, li_257, li_258, li_259, li_260, li_261, li_262, li_263, li_264, li_271, li_272, li_273, li_274, li_275, li_276, li_277, li_278, li_300, li_400, li_420, li_500, li_802, li_820, li_823, li_839, li_855, li_871, li_887, li_999, li_1000, li_1001, li_1002, li_1003, li_1004, li_1005, li_1006, li_1007, li_1008, li_1009, li_1010, li_1011, li_1012, li_1013, li_1014, li_1015, li_1016, li_1017, li_1018, li_1019, li_1020, li_1021, li_1022, li_1023, li_1707, li_4096, li_9999, li_65536, li_100000, li_1000000, li_1664525, li_100000000, li_252645135, li_858993459, li_1000000007, li_1013904223, li_1431655765, li_m1]
    rw [bnd_s]
    generalize hm4 : mset m3 123 30 (hanS LN tru w d) = m4
    have i124 : m4 124 = w4S LN tru w d := by rw [← hm4, mset_ne (by decide)]; exact h124
    have i30 : m4 123 30 = hanS LN tru w d := by rw [← hm4, mset_at]
    have ij : ∀ j, j ≠ 30 → m4 123 j = m3 123 j := fun j hj => by rw [← hm4, mset_j hj]
    have f4 : Fr [(123, 124), (132, 134)] m m4 := by rw [← hm4]; exact Fr.set f3 (by decide)
    have fin' := fun b hb => fin m4 b hb i124 (by rw [ij 28 (by decide)]; exact h28) (by rw [ij 29 (by decide)]; exact h29) i30 (fun j hj => by rw [ij j (by omega)]; exact hj3 j hj) f4
    have no := fin' false
    have ye := fin' true
    have W4' := W4
    cases hcg : cgS LN tru w d with
    | true =>
      rw [if_neg (by decide)]
      refine no ?_
      unfold gonS
      rw [hcg]; rfl
    | false =>
      have e43 : w4S LN tru w d = w3S LN tru w d := by
        unfold w4S
        rw [if_neg (by rw [hcg]; decide)]
      have hg : gonS LN tru w d = (decide (hndS (w3S LN tru w d) ≤ hanS LN tru w d) && mayS (w3S LN tru w d)) := by
        unfold gonS
        rw [hcg]; rfl
      rw [e43] at i124
      rw [if_pos (by decide), e_handsM hN i124 W3, bd_s, i30]
      refine wp_ite (fun q => ?_) (fun q => ?_)
      · exact no (by rw [hg, decide_eq_false (Int32.not_le.mpr q)]; rfl)
      · rw [decide_eq_true (Int32.not_lt.mp q), Bool.true_and] at hg
        unfold mayS at hg
        rw [e_mostM hN i124 W3, bd_s, i124]
        refine wp_ite (fun q => ?_) (fun q => ?_)
        · exact no (by rw [hg, decide_eq_false (Int32.not_lt.mpr q)]; rfl)
        · rw [decide_eq_true (Int32.not_le.mp q), Bool.true_and] at hg
          rw [e_endM hN i124 W3, bd_s]
          refine wp_ite (fun q => ?_) (fun q => ?_)
          · exact no (by rw [hg, decide_eq_false (Int32.not_lt.mpr q)])
          · exact ye (by rw [hg, decide_eq_true (Int32.not_le.mp q)])
  -- whether somebody coughs is known
  have J123 : ∀ m3, m3 124 = w3S LN tru w d → m3 123 28 = nI (clpS LN tru w d).1 → m3 123 29 = nI (clpS LN tru w d).2 → (∀ j, j < 28 ∨ 31 < j → m3 123 j = m 123 j) → Fr [(123, 124), (132, 134)] m m3 →
      Wp (f_X12_claps_J123 N (nI d) (b2i (cgS LN tru w d)) m3) (fun _ m' => m' 124 = oneS LN tru w d ∧ m' 123 31 = b2i (gonS LN tru w d) ∧ m' 123 28 = nI (clpS LN tru w d).1 ∧ m' 123 29 = nI (clpS LN tru w d).2 ∧ m' 123 30 = hanS LN tru w d ∧ (∀ j, j < 28 ∨ 31 < j → m' 123 j = m 123 j) ∧ Fr [(123, 124), (132, 134)] m m') := by
    intro m3 h124 h28 h29 hj3 f3
    unfold f_X12_claps_J123 f_X12_claps_J135
    simp only [li_0, li_1, li_2, li_3, li_4, li_5, li_6, li_7, li_8, li_9, li_10, li_11, li_12, li_13, li_14, li_15, li_16, li_17, li_18, li_19, li_20, li_21, li_22, li_23, li_24, li_25, li_26, li_27, li_28, li_29, li_30, li_31, li_32, li_37, li_38, li_39, li_40, li_41, li_42, li_43, li_44, li_45, li_46, li_47, li_48, li_49, li_50, li_57, li_59, li_60, li_61, li_62, li_63, li_64, li_65, li_69, li_81, li_89, li_90, li_92, li_97, li_99, li_100, li_101, li_103, li_104, li_105, li_106, li_108, li_111, li_112, li_113, li_114, li_115, li_116, li_117, li_119, li_122, li_123, li_124, li_125, li_126, li_127, li_128, li_129, li_130, li_131, li_132, li_133, li_134, li_135, li_136, li_137, li_140, li_141, li_142, li_143, li_145, li_147, li_150, li_153, li_159, li_160, li_161, li_162, li_185, li_197, li_213, li_222, li_223, li_255, li_256, li_257, li_258, li_259, li_260, li_261, li_262, li_263, li_264, li_271, li_272, li_273, li_274, li_275, li_276, li_277, li_278, li_300, li_400, li_420, li_500, li_802, li_820, li_823, li_839, li_855, li_871, li_887, li_999, li_1000, li_1001, li_1002, li_1003, li_1004, li_1005, li_1006, li_1007, li_1008, li_1009, li_1010, li_1011, li_1012, li_1013, li_1014, li_1015, li_1016, li_1017, li_1018, li_1019, li_1020, li_1021, li_1022, li_1023, li_1707, li_4096, li_9999, li_65536, li_100000, li_1000000, li_1664525, li_100000000, li_252645135, li_858993459, li_1000000007, li_1013904223, li_1431655765, li_m1]
    cases hcg : cgS LN tru w d with
    | true =>
      have htru : tru = true := by
        cases htru : tru with
        | true => rfl
        | false => rw [htru] at hcg; cases hcg
      rw [if_neg (by decide)]
      have h26 : m3 123 26 = nI 1 := by rw [hj3 26 (by decide), ht, htru]; rfl
      refine wp_bind (w_noteM (a := nI 2) (b := nI d) (c := nI 0) h124 W3 h26) ?_
      rintro _ m4 ⟨h4, f4⟩
      have e4 : m4 123 = m3 123 := f4.at 123 (by decide)
      rw [if_neg (by decide)]
      have hx : f_X12_claps_J154 N (nI d) (b2i true) (nI 0) m4 = f_X12_claps_J154 N (nI d) (b2i (cgS LN tru w d)) (hanS LN tru w d) m4 := by
        unfold hanS
        rw [hcg, if_pos rfl]
      rw [hx]
      refine J154 m4 ?_ (by rw [e4]; exact h28) (by rw [e4]; exact h29) (fun j hj => by rw [e4]; exact hj3 j hj) (f3.trans (f4.mono (by decide)))
      rw [h4]
      unfold w4S
      rw [if_pos hcg]
    | false =>
      rw [if_pos (by decide), if_pos (by decide)]
      refine wp_bind (w_loudM hN h124 (by omega) hw3 ho) ?_
      rintro _ m4 ⟨rfl, f4⟩
      have e4 : m4 123 = m3 123 := f4.at 123 (by decide)
      have e4' : m4 124 = w3S LN tru w d := (f4.at 124 (by decide)).trans h124
      rw [w_handsM hN e4' W3 (by rw [e4]; exact h28) hcl, bd_s, nI_add, Nat.add_comm]
      have hx : f_X12_claps_J154 N (nI d) (b2i false) (nI (sumS (w3S LN tru w d) (clpS LN tru w d).1 (zh (w3S LN tru w d)) + loudS LN (w3S LN tru w d) d)) m4 = f_X12_claps_J154 N (nI d) (b2i (cgS LN tru w d)) (hanS LN tru w d) m4 := by
        unfold hanS
        rw [hcg, if_neg (by decide)]
        rfl
      rw [hx]
      refine J154 m4 ?_ (by rw [e4]; exact h28) (by rw [e4]; exact h29) (fun j hj => by rw [e4]; exact hj3 j hj) (f3.trans (f4.mono (by decide)))
      rw [e4']
      unfold w4S
      rw [if_neg (by rw [hcg]; decide)]
  have J122 : cgS LN tru w d = false → ∀ m3, m3 124 = w3S LN tru w d → m3 123 28 = nI (clpS LN tru w d).1 → m3 123 29 = nI (clpS LN tru w d).2 → (∀ j, j < 28 ∨ 31 < j → m3 123 j = m 123 j) → Fr [(123, 124), (132, 134)] m m3 →
      Wp (f_X12_claps_J122 N (nI d) m3) (fun _ m' => m' 124 = oneS LN tru w d ∧ m' 123 31 = b2i (gonS LN tru w d) ∧ m' 123 28 = nI (clpS LN tru w d).1 ∧ m' 123 29 = nI (clpS LN tru w d).2 ∧ m' 123 30 = hanS LN tru w d ∧ (∀ j, j < 28 ∨ 31 < j → m' 123 j = m 123 j) ∧ Fr [(123, 124), (132, 134)] m m') := by
    intro hcg m3 h1 h2 h3 h4 h5
    have := J123 m3 h1 h2 h3 h4 h5
    rw [hcg] at this
    exact this
  rw [g123 26 (by decide), ht]
  cases htru : tru with
  | false =>
    rw [if_pos (by rfl)]
    rw [htru] at J122 g124 g28 g29
    exact J122 (show cgS LN false w d = false by unfold cgS cghB; rw [Bool.false_and, Bool.false_and]) m2 (by rw [g124]; unfold w3S cghW; rw [Bool.false_and, if_neg (by decide)]) g28 g29 g123 f12
  | true =>
    rw [htru] at J122 J123 g124 g28 g29
    rw [if_neg (by decide), g124]
    by_cases h39 : nI 0 < w2S LN true w d 39
    · rw [if_neg (Int32.not_le.mpr h39)]
      refine wp_bind (w_drawM g124) ?_
      rintro v m3 ⟨rfl, h3, f3⟩
      have e3 : m3 123 = m2 123 := f3.at 123 (by decide)
      have hw3' : m3 124 = w3S LN true w d := by
        rw [h3]
        unfold w3S cghW
        rw [if_pos (by rw [decide_eq_true h39]; rfl)]
      have hcg : cgS LN true w d = decide (valS (drwS (w2S LN true w d 5)) < w2S LN true w d 39) := by
        unfold cgS cghB
        rw [decide_eq_true h39]; rfl
      rw [h3, ud_n (by decide)]
      refine wp_ite (fun q => ?_) (fun q => ?_)
      · exact J122 (by rw [hcg, decide_eq_false (Int32.not_lt.mpr q)]) m3 hw3' (by rw [e3]; exact g28) (by rw [e3]; exact g29) (fun j hj => by rw [e3]; exact g123 j hj) (f12.trans (f3.mono (by decide)))
      · have := J123 m3 hw3' (by rw [e3]; exact g28) (by rw [e3]; exact g29) (fun j hj => by rw [e3]; exact g123 j hj) (f12.trans (f3.mono (by decide)))
        rw [hcg, decide_eq_true (Int32.not_le.mp q)] at this
        exact this
    · rw [if_pos (Int32.not_lt.mp h39)]
      refine J122 ?_ m2 ?_ g28 g29 g123 f12
      · unfold cgS cghB
        rw [decide_eq_false h39]; rfl
      · rw [g124]
        unfold w3S cghW
        rw [if_neg (by rw [decide_eq_false h39]; decide)]
end CLAPS
