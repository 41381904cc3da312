/-! thoughts: eager, price -/
section EAGER
variable {w w' v0 : Arr} {LN : List Lin} {m m' m2 : Mem} {N d : Nat}
def eagB (LN : List Lin) (w : Arr) (d : Nat) : Nat → Option Nat
  | 0 => none
  | n + 1 => if (rdyS w).testBit n = true then (match eagB LN w d n with
    | none => some n
    | some b => if clapS LN w n d 0 ≤ clapS LN w b d 0 then some b else some n) else eagB LN w d n
theorem eagB_lt {b : Nat} : ∀ {n : Nat}, eagB LN w d n = some b → b < n
  | 0, h => by cases h
  | n + 1, h => by
    unfold eagB at h
    split at h
    · cases hq : eagB LN w d n with
      | none =>
        rw [hq] at h
        cases h
        omega
      | some c =>
        rw [hq] at h
        simp only at h
        have := eagB_lt hq
        split at h <;> cases h <;> omega
    · have := eagB_lt h
      omega
def egV (LN : List Lin) (w : Arr) (d : Nat) (o : Option Nat) : Int32 := match o with
  | none => mo1
  | some b => nI (clapS LN w b d 0)
theorem clap_le {h b : Nat} : clapS LN w h d b ≤ 1000 := by
  unfold clapS clapF sayV
  split <;> exact clm_le _ _
theorem w_eagerC {b : Int32} (hN : 20000 ≤ N) (H : HRep 2 LN w m) (W0 : WFc w) (hd : d < zd w) :
    Wp (it3 (f_X11_eager_L54 N (nI d) b (nI (rdyS w))) N mo1 mo1 (nI 0) m) (fun v m' => v = (if b = nI 0 then oix (eagB LN w d (zh w)) else egV LN w d (eagB LN w d (zh w))) ∧ Fr [(111, 112)] m m') := by
  have lh := W0.lzh
  have p := pow_le31 lh
  have hr := rdyS_lt W0
  refine wp_it3 (fun n x y c m' => ∃ i, i ≤ zh w ∧ n = zh w - i ∧ x = oix (eagB LN w d i) ∧ y = egV LN w d (eagB LN w d i) ∧ c = nI i ∧ Fr [(111, 112)] m m') ?_ N (zh w) _ _ _ _ (by omega) ⟨0, by omega, rfl, rfl, rfl, rfl, Fr.rf⟩
  rintro n X x y c m' ⟨i, hi, rfl, rfl, rfl, rfl, f'⟩ hX
  have H' := H.fr W0.sml f' (by decide +kernel)
  unfold f_X11_eager_L54
  simp only [li_0, li_1, li_2, li_3, li_4, li_5, li_6, li_7, li_8, li_9, li_10, li_11, li_12, li_13, li_14, li_15, li_16, li_17, li_18, li_19, li_20, li_21, li_22, li_23, li_24, li_25, li_26, li_27, li_28, li_29, li_30, li_31, li_32, li_37, li_38, li_39, li_40, li_41, li_42, li_43, li_44, li_45, li_46, li_47, li_48, li_49, li_50, li_57, li_59, li_60, li_61, li_62, li_63, li_64, li_65, li_69, li_81, li_89, li_90, li_92, li_97, li_99, li_100, li_101, li_103, li_104, li_105, li_106, li_108, li_111, li_112, li_113, li_114, li_115, li_116, li_117, li_119, li_122, li_123, li_124, li_125, li_126, li_127, li_128, li_129, li_130, li_131, li_132, li_133, li_134, li_135, li_136, li_137, li_140, li_141, li_142, li_143, li_145, li_147, li_150, li_153, li_159, li_160, li_161, li_162, li_185, li_197, li_213, li_222, li_223, li_255, li_256, li_257, li_258, li_259, li_260, li_261, li_262, li_263, li_264, li_271, li_272, li_273, li_274, li_275, li_276, li_277, li_278, li_300, li_400, li_420, li_500, li_802, li_820, li_823, li_839, li_855, li_871, li_887, li_999, li_1000, li_1001, li_1002, li_1003, li_1004, li_1005, li_1006, li_1007, li_1008, li_1009, li_1010, li_1011, li_1012, li_1013, li_1014, li_1015, li_1016, li_1017, li_1018, li_1019, li_1020, li_1021, li_1022, li_1023, li_1707, li_4096, li_9999, li_65536, li_100000, li_1000000, li_1664525, li_100000000, li_252645135, li_858993459, li_1000000007, li_1013904223, li_1431655765, li_m1, nI_up]
  rw [H'.hea.1, W0.h37]
  refine wp_ite (fun q => ?_) (fun q => ?_)
  · rw [nI_leI (by omega) (by omega)] at q
    have : i = zh w := by omega
    subst this
    refine wp_ite (fun q => ?_) (fun q => ?_)
    · rw [if_pos q]; exact wp_ret ⟨rfl, f'⟩
    · rw [if_neg q]; exact wp_ret ⟨rfl, f'⟩
  · rw [nI_leI (by omega) (by omega)] at q
    have hi' : i < zh w := by omega
    have hB : eagB LN w d (i + 1) = if (rdyS w).testBit i = true then (match eagB LN w d i with
      | none => some i
      | some b => if clapS LN w i d 0 ≤ clapS LN w b d 0 then some b else some i) else eagB LN w d i := rfl
    rw [e_isInX m' (by omega) (by omega), bd_s]
    cases hb : (rdyS w).testBit i with
    | false =>
      rw [if_pos (by decide)]
      rw [hb, if_neg (by decide)] at hB
      exact hX (zh w - (i + 1)) _ _ _ _ (by omega) ⟨i + 1, by omega, rfl, by rw [hB], by rw [hB], rfl, f'⟩
    | true =>
      rw [if_neg (by decide)]
      rw [hb, if_pos rfl] at hB
      refine wp_bind (w_clap hN H' W0 hi' hd) ?_
      rintro _ m3 ⟨rfl, f3⟩
      have ff := f'.trans f3
      have lc := clap_le (LN := LN) (w := w) (d := d) (h := i) (b := 0)
      cases hq : eagB LN w d i with
      | none =>
        rw [hq] at hB
        refine wp_ite (fun q => ?_) (fun q => ?_)
        · exact absurd q (nI_gtm (by omega))
        · exact hX (zh w - (i + 1)) _ _ _ _ (by omega) ⟨i + 1, by omega, rfl, by rw [hB]; rfl, by rw [hB]; rfl, rfl, ff⟩
      | some c =>
        rw [hq] at hB
        simp only at hB
        have lc2 := clap_le (LN := LN) (w := w) (d := d) (h := c) (b := 0)
        refine wp_ite (fun q => ?_) (fun q => ?_)
        · have q : nI (clapS LN w i d 0) ≤ nI (clapS LN w c d 0) := q
          rw [nI_leI (by omega) (by omega)] at q
          rw [if_pos q] at hB
          exact hX (zh w - (i + 1)) _ _ _ _ (by omega) ⟨i + 1, by omega, rfl, by rw [hB], by rw [hB], rfl, ff⟩
        · have q : ¬ nI (clapS LN w i d 0) ≤ nI (clapS LN w c d 0) := q
          rw [nI_leI (by omega) (by omega)] at q
          rw [if_neg q] at hB
          exact hX (zh w - (i + 1)) _ _ _ _ (by omega) ⟨i + 1, by omega, rfl, by rw [hB]; rfl, by rw [hB]; rfl, rfl, ff⟩
theorem w_eagerM {b : Int32} {K : Int32 → Mem → Ans} (hN : 20000 ≤ N) (hm : m 124 = w) (W0 : WFc w) (hw : lawW w LN) (ho : lawOk LN) (hd : d < zd w) {Q : Int32 → Mem → Prop}
    (hK : ∀ m', Fr [(132, 133)] m m' → Wp (K (oix (eagB LN w d (zh w))) m') Q) :
    Wp (it2 (f_X12_eager_L24 N (nI d) b K) N mo1 (nI 0) m) Q := by
  have lh := W0.lzh
  have ld := W0.lzd
  refine wp_it2 (fun n x c m' => ∃ i, i ≤ zh w ∧ n = zh w - i ∧ x = oix (eagB LN w d i) ∧ c = nI i ∧ Fr [(132, 133)] m m') ?_ N (zh w) _ _ _ (by omega) ⟨0, by omega, rfl, rfl, rfl, Fr.rf⟩
  rintro n X x c m' ⟨i, hi, rfl, rfl, rfl, f'⟩ hX
  have hm' : m' 124 = w := (f'.at 124 (by decide)).trans hm
  unfold f_X12_eager_L24
  simp only [li_0, li_1, li_2, li_3, li_4, li_5, li_6, li_7, li_8, li_9, li_10, li_11, li_12, li_13, li_14, li_15, li_16, li_17, li_18, li_19, li_20, li_21, li_22, li_23, li_24, li_25, li_26, li_27, li_28, li_29, li_30, li_31, li_32, li_37, li_38, li_39, li_40, li_41, li_42, li_43, li_44, li_45, li_46, li_47, li_48, li_49, li_50, li_57, li_59, li_60, li_61, li_62, li_63, li_64, li_65, li_69, li_81, li_89, li_90, li_92, li_97, li_99, li_100, li_101, li_103, li_104, li_105, li_106, li_108, li_111, li_112, li_113, li_114, li_115, li_116, li_117, li_119, li_122, li_123, li_124, li_125, li_126, li_127, li_128, li_129, li_130, li_131, li_132, li_133, li_134, li_135, li_136, li_137, li_140, li_141, li_142, li_143, li_145, li_147, li_150, li_153, li_159, li_160, li_161, li_162, li_185, li_197, li_213, li_222, li_223, li_255, li_256, li_257, li_258, li_259, li_260, li_261, li_262, li_263, li_264, li_271, li_272, li_273, li_274, li_275, li_276, li_277, li_278, li_300, li_400, li_420, li_500, li_802, li_820, li_823, li_839, li_855, li_871, li_887, li_999, li_1000, li_1001, li_1002, li_1003, li_1004, li_1005, li_1006, li_1007, li_1008, li_1009, li_1010, li_1011, li_1012, li_1013, li_1014, li_1015, li_1016, li_1017, li_1018, li_1019, li_1020, li_1021, li_1022, li_1023, li_1707, li_4096, li_9999, li_65536, li_100000, li_1000000, li_1664525, li_100000000, li_252645135, li_858993459, li_1000000007, li_1013904223, li_1431655765, li_m1, nI_up]
  rw [hm', W0.h37]
  refine wp_ite (fun q => ?_) (fun q => ?_)
  · rw [nI_leI (by omega) (by omega)] at q
    have : i = zh w := by omega
    subst this
    exact hK m' f'
  · rw [nI_leI (by omega) (by omega)] at q
    have hB : eagB LN w d (i + 1) = if (rdyS w).testBit i = true then (match eagB LN w d i with
      | none => some i
      | some b => if clapS LN w i d 0 ≤ clapS LN w b d 0 then some b else some i) else eagB LN w d i := rfl
    have hbit : (rdyS w).testBit i = ((zt w).testBit i && !(zv w).testBit i) := sdf_bit _ _ _
    rw [e_there hm' W0 (by omega), bd_s]
    cases hb1 : (zt w).testBit i with
    | false =>
      rw [if_pos (by decide)]
      rw [hb1, Bool.false_and] at hbit
      rw [hbit, if_neg (by decide)] at hB
      exact hX (zh w - (i + 1)) _ _ _ (by omega) ⟨i + 1, by omega, rfl, by rw [hB], rfl, f'⟩
    | true =>
      rw [if_neg (by decide), e_gloved hm' W0 (by omega), bd_s]
      cases hb2 : (zv w).testBit i with
      | true =>
        rw [if_neg (by decide)]
        rw [hb1, hb2, show (true && !true) = false from rfl] at hbit
        rw [hbit, if_neg (by decide)] at hB
        exact hX (zh w - (i + 1)) _ _ _ (by omega) ⟨i + 1, by omega, rfl, by rw [hB], rfl, f'⟩
      | false =>
        rw [if_pos (by decide)]
        rw [hb1, hb2, show (true && !false) = true from rfl] at hbit
        rw [hbit, if_pos rfl] at hB
        cases hq : eagB LN w d i with
        | none =>
          rw [hq] at hB
          rw [if_pos (by rfl)]
          exact hX (zh w - (i + 1)) _ _ _ (by omega) ⟨i + 1, by omega, rfl, by rw [hB]; rfl, rfl, f'⟩
        | some c =>
          rw [hq] at hB
          simp only at hB
          have hc := eagB_lt hq
          rw [if_neg (show ¬ oix (some c) = mo1 from nI_no1 (by omega))]
          refine wp_bind (w_clapM (h := i) (b := 0) hN hm' (by omega) (by omega) hw ho) ?_
          rintro _ m3 ⟨rfl, f3⟩
          have hm3 : m3 124 = w := (f3.at 124 (by decide)).trans hm'
          refine wp_bind (w_clapM (h := c) (b := 0) hN hm3 (by omega) (by omega) hw ho) ?_
          rintro _ m4 ⟨rfl, f4⟩
          have ff := (f'.trans f3).trans f4
          have lc := clap_le (LN := LN) (w := w) (d := d) (h := i) (b := 0)
          have lc2 := clap_le (LN := LN) (w := w) (d := d) (h := c) (b := 0)
          refine wp_ite (fun q => ?_) (fun q => ?_)
          · rw [nI_leI (by omega) (by omega)] at q
            rw [if_pos q] at hB
            exact hX (zh w - (i + 1)) _ _ _ (by omega) ⟨i + 1, by omega, rfl, by rw [hB], rfl, ff⟩
          · rw [nI_leI (by omega) (by omega)] at q
            rw [if_neg q] at hB
            exact hX (zh w - (i + 1)) _ _ _ (by omega) ⟨i + 1, by omega, rfl, by rw [hB]; rfl, rfl, ff⟩
theorem pr_eager {a b : Int32} (hN : 20000 ≤ N) : Pr (f_X11_eager N a b) (f_X12_eager N a b) := by
  intro m hI
  obtain ⟨LN, H, G, -⟩ := id hI
  have ld := G.1.lzd
  have lh := G.1.lzh
  unfold f_X11_eager
  simp only [li_0, li_1, li_2, li_3, li_4, li_5, li_6, li_7, li_8, li_9, li_10, li_11, li_12, li_13, li_14, li_15, li_16, li_17, li_18, li_19, li_20, li_21, li_22, li_23, li_24, li_25, li_26, li_27, li_28, li_29, li_30, li_31, li_32, li_37, li_38, li_39, li_40, li_41, li_42, li_43, li_44, li_45, li_46, li_47, li_48, li_49, li_50, li_57, li_59, li_60, li_61, li_62, li_63, li_64, li_65, li_69, li_81, li_89, li_90, li_92, li_97, li_99, li_100, li_101, li_103, li_104, li_105, li_106, li_108, li_111, li_112, li_113, li_114, li_115, li_116, li_117, li_119, li_122, li_123, li_124, li_125, li_126, li_127, li_128, li_129, li_130, li_131, li_132, li_133, li_134, li_135, li_136, li_137, li_140, li_141, li_142, li_143, li_145, li_147, li_150, li_153, li_159, li_160, li_161, li_162, li_185, li_197, li_213, li_222, li_223, li_255, li_256, li_257, li_258, li_259, li_260, li_261, li_262, li_263, li_264, li_271, li_272, li_273, li_274, li_275, li_276, li_277, li_278, li_300, li_400, li_420, li_500, li_802, li_820, li_823, li_839, li_855, li_871, li_887, li_999, li_1000, li_1001, li_1002, li_1003, li_1004, li_1005, li_1006, li_1007, li_1008, li_1009, li_1010, li_1011, li_1012, li_1013, li_1014, li_1015, li_1016, li_1017, li_1018, li_1019, li_1020, li_1021, li_1022, li_1023, li_1707, li_4096, li_9999, li_65536, li_100000, li_1000000, li_1664525, li_100000000, li_252645135, li_858993459, li_1000000007, li_1013904223, li_1431655765, li_m1]
  rw [hr_hasD H G.1, bd_s]
  rcases inb_cases a (n := zd (m 124)) (by omega) with ⟨e, -⟩ | ⟨d, hd, rfl⟩
  · rw [e, if_pos (by decide)]
    refine wp_ret ?_
    unfold f_X12_eager
    simp only [li_0, li_1, li_2, li_3, li_4, li_5, li_6, li_7, li_8, li_9, li_10, li_11, li_12, li_13, li_14, li_15, li_16, li_17, li_18, li_19, li_20, li_21, li_22, li_23, li_24, li_25, li_26, li_27, li_28, li_29, li_30, li_31, li_32, li_37, li_38, li_39, li_40, li_41, li_42, li_43, li_44, li_45, li_46, li_47, li_48, li_49, li_50, li_57, li_59, li_60, li_61, li_62, li_63, li_64, li_65, li_69, li_81, li_89, li_90, li_92, li_97, li_99, li_100, li_101, li_103, li_104, li_105, li_106, li_108, li_111, li_112, li_113, li_114, li_115, li_116, li_117, li_119, li_122, li_123, li_124, li_125, li_126, li_127, li_128, li_129, li_130, li_131, li_132, li_133, li_134, li_135, li_136, li_137, li_140, li_141, li_142, li_143, li_145, li_147, li_150, li_153, li_159, li_160, li_161, li_162, li_185, li_197, li_213, li_222, li_223, li_255, li_256, li_257, li_258, li_259, li_260, li_261, li_262, li_263, li_264, li_271, li_272, li_273, li_274, li_275, li_276, li_277, li_278, li_300, li_400, li_420, li_500, li_802, li_820, li_823, li_839, li_855, li_871, li_887, li_999, li_1000, li_1001, li_1002, li_1003, li_1004, li_1005, li_1006, li_1007, li_1008, li_1009, li_1010, li_1011, li_1012, li_1013, li_1014, li_1015, li_1016, li_1017, li_1018, li_1019, li_1020, li_1021, li_1022, li_1023, li_1707, li_4096, li_9999, li_65536, li_100000, li_1000000, li_1664525, li_100000000, li_252645135, li_858993459, li_1000000007, li_1013904223, li_1431655765, li_m1]
    rw [e_isDeed rfl G.1, e, bd_s, if_pos (by decide)]
    exact wp_ret ⟨rfl, hI⟩
  · rw [inb_nI hd (by omega), if_neg (by decide), e_within, bd_s]
    cases hq : decide (nI 0 ≤ b ∧ b ≤ nI 1) with
    | false =>
      rw [if_pos (by decide)]
      refine wp_ret ?_
      unfold f_X12_eager
      simp only [li_0, li_1, li_2, li_3, li_4, li_5, li_6, li_7, li_8, li_9, li_10, li_11, li_12, li_13, li_14, li_15, li_16, li_17, li_18, li_19, li_20, li_21, li_22, li_23, li_24, li_25, li_26, li_27, li_28, li_29, li_30, li_31, li_32, li_37, li_38, li_39, li_40, li_41, li_42, li_43, li_44, li_45, li_46, li_47, li_48, li_49, li_50, li_57, li_59, li_60, li_61, li_62, li_63, li_64, li_65, li_69, li_81, li_89, li_90, li_92, li_97, li_99, li_100, li_101, li_103, li_104, li_105, li_106, li_108, li_111, li_112, li_113, li_114, li_115, li_116, li_117, li_119, li_122, li_123, li_124, li_125, li_126, li_127, li_128, li_129, li_130, li_131, li_132, li_133, li_134, li_135, li_136, li_137, li_140, li_141, li_142, li_143, li_145, li_147, li_150, li_153, li_159, li_160, li_161, li_162, li_185, li_197, li_213, li_222, li_223, li_255, li_256, li_257, li_258, li_259, li_260, li_261, li_262, li_263, li_264, li_271, li_272, li_273, li_274, li_275, li_276, li_277, li_278, li_300, li_400, li_420, li_500, li_802, li_820, li_823, li_839, li_855, li_871, li_887, li_999, li_1000, li_1001, li_1002, li_1003, li_1004, li_1005, li_1006, li_1007, li_1008, li_1009, li_1010, li_1011, li_1012, li_1013, li_1014, li_1015, li_1016, li_1017, li_1018, li_1019, li_1020, li_1021, li_1022, li_1023, li_1707, li_4096, li_9999, li_65536, li_100000, li_1000000, li_1664525, li_100000000, li_252645135, li_858993459, li_1000000007, li_1013904223, li_1431655765, li_m1]
      rw [e_isDeed rfl G.1, inb_nI hd (by omega), bd_s, if_neg (by decide), e_isIn, bd_s, hq, if_pos (by decide)]
      exact wp_ret ⟨rfl, hI⟩
    | true =>
      rw [if_neg (by decide), e_those3 hN H G.1, bd_s, e_those4 hN H G.1, bd_s, bnd_s, nz_diff]
      refine wp_mono (w_eagerC hN H G.1 hd) ?_
      rintro _ m1 ⟨rfl, f1⟩
      have e124 : m1 124 = m 124 := f1.at 124 (by decide)
      unfold f_X12_eager
      simp only [li_0, li_1, li_2, li_3, li_4, li_5, li_6, li_7, li_8, li_9, li_10, li_11, li_12, li_13, li_14, li_15, li_16, li_17, li_18, li_19, li_20, li_21, li_22, li_23, li_24, li_25, li_26, li_27, li_28, li_29, li_30, li_31, li_32, li_37, li_38, li_39, li_40, li_41, li_42, li_43, li_44, li_45, li_46, li_47, li_48, li_49, li_50, li_57, li_59, li_60, li_61, li_62, li_63, li_64, li_65, li_69, li_81, li_89, li_90, li_92, li_97, li_99, li_100, li_101, li_103, li_104, li_105, li_106, li_108, li_111, li_112, li_113, li_114, li_115, li_116, li_117, li_119, li_122, li_123, li_124, li_125, li_126, li_127, li_128, li_129, li_130, li_131, li_132, li_133, li_134, li_135, li_136, li_137, li_140, li_141, li_142, li_143, li_145, li_147, li_150, li_153, li_159, li_160, li_161, li_162, li_185, li_197, li_213, li_222, li_223, li_255, li_256, li_257, li_258, li_259, li_260, li_261, li_262, li_263, li_264, li_271, li_272, li_273, li_274, li_275, li_276, li_277, li_278, li_300, li_400, li_420, li_500, li_802, li_820, li_823, li_839, li_855, li_871, li_887, li_999, li_1000, li_1001, li_1002, li_1003, li_1004, li_1005, li_1006, li_1007, li_1008, li_1009, li_1010, li_1011, li_1012, li_1013, li_1014, li_1015, li_1016, li_1017, li_1018, li_1019, li_1020, li_1021, li_1022, li_1023, li_1707, li_4096, li_9999, li_65536, li_100000, li_1000000, li_1664525, li_100000000, li_252645135, li_858993459, li_1000000007, li_1013904223, li_1431655765, li_m1]
      rw [e_isDeed e124 G.1, inb_nI hd (by omega), bd_s, if_neg (by decide), e_isIn, bd_s, hq, if_neg (by decide)]
      refine w_eagerM hN e124 G.1 G.2.2 H.lawk hd ?_
      intro m2 f2
      have I2 : ∀ m3, Fr [(132, 133)] m2 m3 → Inv m3 := fun m3 f3 => hI.q1 (((f1.mono (T := [(111, 112), (132, 133)]) (by decide)).trans (f2.mono (by decide))).trans (f3.mono (by decide))) (by decide +kernel) (by decide) (by decide)
      cases ho : eagB LN (m 124) d (zh (m 124)) with
      | none =>
        rw [if_pos (by rfl)]
        refine wp_ret ⟨?_, I2 m2 Fr.rf⟩
        split <;> rfl
      | some c =>
        have hc := eagB_lt ho
        rw [if_neg (show ¬ oix (some c) = mo1 from nI_no1 (by omega))]
        refine wp_ite (fun q => ?_) (fun q => ?_)
        · rw [if_pos q]
          exact wp_ret ⟨rfl, I2 m2 Fr.rf⟩
        · rw [if_neg q]
          refine wp_bind (w_clapM (h := c) (b := 0) hN ((f2.at 124 (by decide)).trans e124) (by omega) (by omega) G.2.2 H.lawk) ?_
          rintro _ m3 ⟨rfl, f3⟩
          exact wp_ret ⟨rfl, I2 m3 f3⟩
/-! price -/
def PriV (p : Nat) (c : Nat → Nat) (v : Int32) : Prop := (∃ j, p + j ≤ 99 ∧ v = nI j ∧ 500 < c (p + j) ∧ ∀ j', j' < j → c (p + j') ≤ 500) ∨ (v = mo1 ∧ ∀ j, p + j ≤ 99 → c (p + j) ≤ 500)
theorem PriV.uni {p : Nat} {c : Nat → Nat} {x y : Int32} (h1 : PriV p c x) (h2 : PriV p c y) : x = y := by
  rcases h1 with ⟨i, hi, rfl, a, b⟩ | ⟨rfl, a⟩
  · rcases h2 with ⟨j, hj, rfl, c', e⟩ | ⟨rfl, c'⟩
    · have : i = j := by
        rcases Nat.lt_trichotomy i j with h | h | h
        · have := e i h
          omega
        · exact h
        · have := b j h
          omega
      rw [this]
    · have := c' i hi
      omega
  · rcases h2 with ⟨j, hj, rfl, c', e⟩ | ⟨rfl, c'⟩
    · have := a j hj
      omega
    · rfl
theorem clapP_le {h : Nat} {fa : Arr} : clapF LN w h fa ≤ 1000 := by
  unfold clapF sayV
  split <;> exact clm_le _ _
theorem fac_up {h d i : Nat} (hh : h < 12) (hd : d < 8) : facH (upd w (9 + h) (nI i)) h d 0 = facP w h d i := by
  funext k
  unfold facP facH facD
  rw [ud_n (by omega), ud_n (by omega), ud_n (by omega), ud_s, ud_n (by omega), ud_n (by omega), ud_n (by omega), ud_n (by omega)]
  by_cases h5 : k = 5
  · subst h5; rfl
  · simp only [if_neg h5]
theorem clap_up {h d i : Nat} (hh : h < 12) (hd : d < 8) : clapS LN (upd w (9 + h) (nI i)) h d 0 = clapF LN w h (facP w h d i) := by
  unfold clapS clapF
  rw [fac_up hh hd, ud_n (by omega)]
theorem pr_price {a b : Int32} (hN : 20000 ≤ N) : Pr (f_X11_price N a b) (f_X12_price N a b) := by
  intro m hI
  obtain ⟨LN, H, G, -, -, -, -, h4⟩ := id hI
  have ld := G.1.lzd
  have lh := G.1.lzh
  unfold f_X11_price
  simp only [li_0, li_1, li_2, li_3, li_4, li_5, li_6, li_7, li_8, li_9, li_10, li_11, li_12, li_13, li_14, li_15, li_16, li_17, li_18, li_19, li_20, li_21, li_22, li_23, li_24, li_25, li_26, li_27, li_28, li_29, li_30, li_31, li_32, li_37, li_38, li_39, li_40, li_41, li_42, li_43, li_44, li_45, li_46, li_47, li_48, li_49, li_50, li_57, li_59, li_60, li_61, li_62, li_63, li_64, li_65, li_69, li_81, li_89, li_90, li_92, li_97, li_99, li_100, li_101, li_103, li_104, li_105, li_106, li_108, li_111, li_112, li_113, li_114, li_115, li_116, li_117, li_119, li_122, li_123, li_124, li_125, li_126, li_127, li_128, li_129, li_130, li_131, li_132, li_133, li_134, li_135, li_136, li_137, li_140, li_141, li_142, li_143, li_145, li_147, li_150, li_153, li_159, li_160, li_161, li_162, li_185, li_197, li_213, li_222, li_223, li_255, li_256, li_257, li_258, li_259, li_260, li_261, li_262, li_263, li_264, li_271, li_272, li_273, li_274, li_275, li_276, li_277, li_278, li_300, li_400, li_420, li_500, li_802, li_820, li_823, li_839, li_855, li_871, li_887, li_999, li_1000, li_1001, li_1002, li_1003, li_1004, li_1005, li_1006, li_1007, li_1008, li_1009, li_1010, li_1011, li_1012, li_1013, li_1014, li_1015, li_1016, li_1017, li_1018, li_1019, li_1020, li_1021, li_1022, li_1023, li_1707, li_4096, li_9999, li_65536, li_100000, li_1000000, li_1664525, li_100000000, li_252645135, li_858993459, li_1000000007, li_1013904223, li_1431655765, li_m1]
  rw [hr_hasH H G.1, bd_s]
  rcases inb_cases a (n := zh (m 124)) (by omega) with ⟨e, -⟩ | ⟨h, hh, rfl⟩
  · rw [e, if_pos (by decide)]
    refine wp_ret ?_
    unfold f_X12_price
    simp only [li_0, li_1, li_2, li_3, li_4, li_5, li_6, li_7, li_8, li_9, li_10, li_11, li_12, li_13, li_14, li_15, li_16, li_17, li_18, li_19, li_20, li_21, li_22, li_23, li_24, li_25, li_26, li_27, li_28, li_29, li_30, li_31, li_32, li_37, li_38, li_39, li_40, li_41, li_42, li_43, li_44, li_45, li_46, li_47, li_48, li_49, li_50, li_57, li_59, li_60, li_61, li_62, li_63, li_64, li_65, li_69, li_81, li_89, li_90, li_92, li_97, li_99, li_100, li_101, li_103, li_104, li_105, li_106, li_108, li_111, li_112, li_113, li_114, li_115, li_116, li_117, li_119, li_122, li_123, li_124, li_125, li_126, li_127, li_128, li_129, li_130, li_131, li_132, li_133, li_134, li_135, li_136, li_137, li_140, li_141, li_142, li_143, li_145, li_147, li_150, li_153, li_159, li_160, li_161, li_162, li_185, li_197, li_213, li_222, li_223, li_255, li_256, li_257, li_258, li_259, li_260, li_261, li_262, li_263, li_264, li_271, li_272, li_273, li_274, li_275, li_276, li_277, li_278, li_300, li_400, li_420, li_500, li_802, li_820, li_823, li_839, li_855, li_871, li_887, li_999, li_1000, li_1001, li_1002, li_1003, li_1004, li_1005, li_1006, li_1007, li_1008, li_1009, li_1010, li_1011, li_1012, li_1013, li_1014, li_1015, li_1016, li_1017, li_1018, li_1019, li_1020, li_1021, li_1022, li_1023, li_1707, li_4096, li_9999, li_65536, li_100000, li_1000000, li_1664525, li_100000000, li_252645135, li_858993459, li_1000000007, li_1013904223, li_1431655765, li_m1]
    rw [e_isHearer rfl G.1, e, bd_s, if_pos (by decide)]
    exact wp_ret ⟨rfl, hI⟩
  · rw [inb_nI hh (by omega), if_neg (by decide), hr_hasD H G.1, bd_s]
    rcases inb_cases b (n := zd (m 124)) (by omega) with ⟨e, -⟩ | ⟨d, hd, rfl⟩
    · rw [e, if_pos (by decide)]
      refine wp_ret ?_
      unfold f_X12_price
      simp only [li_0, li_1, li_2, li_3, li_4, li_5, li_6, li_7, li_8, li_9, li_10, li_11, li_12, li_13, li_14, li_15, li_16, li_17, li_18, li_19, li_20, li_21, li_22, li_23, li_24, li_25, li_26, li_27, li_28, li_29, li_30, li_31, li_32, li_37, li_38, li_39, li_40, li_41, li_42, li_43, li_44, li_45, li_46, li_47, li_48, li_49, li_50, li_57, li_59, li_60, li_61, li_62, li_63, li_64, li_65, li_69, li_81, li_89, li_90, li_92, li_97, li_99, li_100, li_101, li_103, li_104, li_105, li_106, li_108, li_111, li_112, li_113, li_114, li_115, li_116, li_117, li_119, li_122, li_123, li_124, li_125, li_126, li_127, li_128, li_129, li_130, li_131, li_132, li_133, li_134, li_135, li_136, li_137, li_140, li_141, li_142, li_143, li_145, li_147, li_150, li_153, li_159, li_160, li_161, li_162, li_185, li_197, li_213, li_222, li_223, li_255, li_256, li_257, li_258, li_259, li_260, li_261, li_262, li_263, li_264, li_271, li_272, li_273, li_274, li_275, li_276, li_277, li_278, li_300, li_400, li_420, li_500, li_802, li_820, li_823, li_839, li_855, li_871, li_887, li_999, li_1000, li_1001, li_1002, li_1003, li_1004, li_1005, li_1006, li_1007, li_1008, li_1009, li_1010, li_1011, li_1012, li_1013, li_1014, li_1015, li_1016, li_1017, li_1018, li_1019, li_1020, li_1021, li_1022, li_1023, li_1707, li_4096, li_9999, li_65536, li_100000, li_1000000, li_1664525, li_100000000, li_252645135, li_858993459, li_1000000007, li_1013904223, li_1431655765, li_m1]
      rw [e_isHearer rfl G.1, inb_nI hh (by omega), bd_s, if_neg (by decide), e_isDeed rfl G.1, e, bd_s, if_pos (by decide)]
      exact wp_ret ⟨rfl, hI⟩
    · rw [inb_nI hd (by omega), if_neg (by decide), hr_hea H G.1 hh (by decide), bd_s, show heaV (m 124) h 5 = m 124 (9 + h) from rfl]
      obtain ⟨p, hp, ep⟩ := (G.1.hea hh).2.2.2.1
      rw [ep]
      refine wp_mono (Q := fun v m' => PriV p (fun i => clapF LN (m 124) h (facP (m 124) h d i)) v ∧ Fr [(111, 112)] m m') (wp_it1 (fun n x m' => ∃ j, j ≤ 100 ∧ n = 100 - j ∧ x = nI j ∧ p + j ≤ 100 ∧ Fr [(111, 112)] m m' ∧ ∀ j', j' < j → clapF LN (m 124) h (facP (m 124) h d (p + j')) ≤ 500) ?_ N 100 _ _ (by omega)
        ⟨0, by omega, rfl, rfl, by omega, Fr.rf, fun j hj => absurd hj (by omega)⟩) ?_
      · rintro n X x m' ⟨j, hj, rfl, rfl, hpj, f', hl⟩ hX
        have H' := H.fr G.1.sml f' (by decide +kernel)
        unfold f_X11_price_L46
        simp only [li_0, li_1, li_2, li_3, li_4, li_5, li_6, li_7, li_8, li_9, li_10, li_11, li_12, li_13, li_14, li_15, li_16, li_17, li_18, li_19, li_20, li_21, li_22, li_23, li_24, li_25, li_26, li_27, li_28, li_29, li_30, li_31, li_32, li_37, li_38, li_39, li_40, li_41, li_42, li_43, li_44, li_45, li_46, li_47, li_48, li_49, li_50, li_57, li_59, li_60, li_61, li_62, li_63, li_64, li_65, li_69, li_81, li_89, li_90, li_92, li_97, li_99, li_100, li_101, li_103, li_104, li_105, li_106, li_108, li_111, li_112, li_113, li_114, li_115, li_116, li_117, li_119, li_122, li_123, li_124, li_125, li_126, li_127, li_128, li_129, li_130, li_131, li_132, li_133, li_134, li_135, li_136, li_137, li_140, li_141, li_142, li_143, li_145, li_147, li_150, li_153, li_159, li_160, li_161, li_162, li_185, li_197, li_213, li_222, li_223, li_255, li_256, li_257, li_258, li_259, li_260, li_261, li_262, li_263, li_264, li_271, li_272, li_273, li_274, li_275, li_276, li_277, li_278, li_300, li_400, li_420, li_500, li_802, li_820, li_823, li_839, li_855, li_871, li_887, li_999, li_1000, li_1001, li_1002, li_1003, li_1004, li_1005, li_1006, li_1007, li_1008, li_1009, li_1010, li_1011, li_1012, li_1013, li_1014, li_1015, li_1016, li_1017, li_1018, li_1019, li_1020, li_1021, li_1022, li_1023, li_1707, li_4096, li_9999, li_65536, li_100000, li_1000000, li_1664525, li_100000000, li_252645135, li_858993459, li_1000000007, li_1013904223, li_1431655765, li_m1, nI_up, nI_add]
        rw [pk_sub (by omega)]
        refine wp_ite (fun q => ?_) (fun q => ?_)
        · rw [nI_ltI (by omega) (by omega)] at q
          exact wp_ret ⟨Or.inr ⟨rfl, fun j' hj' => hl j' (by omega)⟩, f'⟩
        · rw [nI_ltI (by omega) (by omega)] at q
          refine wp_bind (w_clapP hN H' G.1 hh hd) ?_
          rintro _ m3 ⟨rfl, f3⟩
          have lc := clapP_le (LN := LN) (w := m 124) (h := h) (fa := facP (m 124) h d (p + j))
          refine wp_ite (fun q2 => ?_) (fun q2 => ?_)
          · rw [nI_leI (by omega) (by decide)] at q2
            refine hX (100 - (j + 1)) _ _ (by omega) ⟨j + 1, by omega, rfl, rfl, by omega, f'.trans f3, fun j' hj' => ?_⟩
            by_cases e : j' = j
            · subst e; exact q2
            · exact hl j' (by omega)
          · rw [nI_leI (by omega) (by decide)] at q2
            exact wp_ret ⟨Or.inl ⟨j, by omega, rfl, Nat.lt_of_not_le q2, hl⟩, f'.trans f3⟩
      · rintro v m1 ⟨hv, f1⟩
        have e124 : m1 124 = m 124 := f1.at 124 (by decide)
        unfold f_X12_price
        simp only [li_0, li_1, li_2, li_3, li_4, li_5, li_6, li_7, li_8, li_9, li_10, li_11, li_12, li_13, li_14, li_15, li_16, li_17, li_18, li_19, li_20, li_21, li_22, li_23, li_24, li_25, li_26, li_27, li_28, li_29, li_30, li_31, li_32, li_37, li_38, li_39, li_40, li_41, li_42, li_43, li_44, li_45, li_46, li_47, li_48, li_49, li_50, li_57, li_59, li_60, li_61, li_62, li_63, li_64, li_65, li_69, li_81, li_89, li_90, li_92, li_97, li_99, li_100, li_101, li_103, li_104, li_105, li_106, li_108, li_111, li_112, li_113, li_114, li_115, li_116, li_117, li_119, li_122, li_123, li_124, li_125, li_126, li_127, li_128, li_129, li_130, li_131, li_132, li_133, li_134, li_135, li_136, li_137, li_140, li_141, li_142, li_143, li_145, li_147, li_150, li_153, li_159, li_160, li_161, li_162, li_185, li_197, li_213, li_222, li_223, li_255, li_256, li_257, li_258, li_259, li_260, li_261, li_262, li_263, li_264, li_271, li_272, li_273, li_274, li_275, li_276, li_277, li_278, li_300, li_400, li_420, li_500, li_802, li_820, li_823, li_839, li_855, li_871, li_887, li_999, li_1000, li_1001, li_1002, li_1003, li_1004, li_1005, li_1006, li_1007, li_1008, li_1009, li_1010, li_1011, li_1012, li_1013, li_1014, li_1015, li_1016, li_1017, li_1018, li_1019, li_1020, li_1021, li_1022, li_1023, li_1707, li_4096, li_9999, li_65536, li_100000, li_1000000, li_1664525, li_100000000, li_252645135, li_858993459, li_1000000007, li_1013904223, li_1431655765, li_m1, nI_add]
        rw [e_isHearer e124 G.1, inb_nI hh (by omega), bd_s, if_neg (by decide), e_isDeed e124 G.1, inb_nI hd (by omega), bd_s, if_neg (by decide), inb_nI (by omega) (by omega), chk_t, nI_clamp (by omega), bnd_s, e124, ep]
        refine wp_mono (Q := fun v m' => PriV p (fun i => clapF LN (m 124) h (facP (m 124) h d i)) v ∧ m' 124 = m 124 ∧ Fr [(124, 124), (132, 133)] m1 m') (wp_it2 (fun n s x m' => ∃ i, p ≤ i ∧ i ≤ 100 ∧ n = 100 - i ∧ x = nI i ∧ (∃ z, m' 124 = upd (m 124) (9 + h) z) ∧ Fr [(124, 124), (132, 133)] m1 m' ∧ ((s = mo1 ∧ ∀ j, p + j < i → clapF LN (m 124) h (facP (m 124) h d (p + j)) ≤ 500) ∨
            ∃ j, p + j < i ∧ s = nI j ∧ 500 < clapF LN (m 124) h (facP (m 124) h d (p + j)) ∧ ∀ j', j' < j → clapF LN (m 124) h (facP (m 124) h d (p + j')) ≤ 500)) ?_ N (100 - p) _ _ _ (by omega)
          ⟨p, Nat.le_refl _, by omega, rfl, rfl, ⟨m 124 (9 + h), by rw [upd_self, e124]⟩, Fr.rf, Or.inl ⟨rfl, fun j hj => absurd hj (by omega)⟩⟩) ?_
        · rintro n X s x m' ⟨i, hpi, hi, rfl, rfl, ⟨z, hz⟩, f', hs⟩ hX
          have fin : ∀ v, PriV p (fun i => clapF LN (m 124) h (facP (m 124) h d i)) v → Wp (chk (inb (nI (9 + h)) 1707) <| bnd (mset m' 124 (nI (9 + h)).toNatClampNeg (nI p)) fun m_96 => some (v, m_96)) (fun v m' => PriV p (fun i => clapF LN (m 124) h (facP (m 124) h d i)) v ∧ m' 124 = m 124 ∧ Fr [(124, 124), (132, 133)] m1 m') := by
            intro v hv
            rw [inb_nI (by omega) (by omega), chk_t, nI_clamp (by omega), bnd_s]
            exact wp_ret ⟨hv, by rw [mset_eq, hz, upd_twice, ← ep, upd_self], Fr.set f' (by decide)⟩
          unfold f_X12_price_L34
          simp only [li_0, li_1, li_2, li_3, li_4, li_5, li_6, li_7, li_8, li_9, li_10, li_11, li_12, li_13, li_14, li_15, li_16, li_17, li_18, li_19, li_20, li_21, li_22, li_23, li_24, li_25, li_26, li_27, li_28, li_29, li_30, li_31, li_32, li_37, li_38, li_39, li_40, li_41, li_42, li_43, li_44, li_45, li_46, li_47, li_48, li_49, li_50, li_57, li_59, li_60, li_61, li_62, li_63, li_64, li_65, li_69, li_81, li_89, li_90, li_92, li_97, li_99, li_100, li_101, li_103, li_104, li_105, li_106, li_108, li_111, li_112, li_113, li_114, li_115, li_116, li_117, li_119, li_122, li_123, li_124, li_125, li_126, li_127, li_128, li_129, li_130, li_131, li_132, li_133, li_134, li_135, li_136, li_137, li_140, li_141, li_142, li_143, li_145, li_147, li_150, li_153, li_159, li_160, li_161, li_162, li_185, li_197, li_213, li_222, li_223, li_255, li_256, li_257, li_258, li_259, li_260, li_261, li_262, li_263, li_264, li_271, li_272, li_273, li_274, li_275, li_276, li_277, li_278, li_300, li_400, li_420, li_500, li_802, li_820, li_823, li_839, li_855, li_871, li_887, li_999, li_1000, li_1001, li_1002, li_1003, li_1004, li_1005, li_1006, li_1007, li_1008, li_1009, li_1010, li_1011, li_1012, li_1013, li_1014, li_1015, li_1016, li_1017, li_1018, li_1019, li_1020, li_1021, li_1022, li_1023, li_1707, li_4096, li_9999, li_65536, li_100000, li_1000000, li_1664525, li_100000000, li_252645135, li_858993459, li_1000000007, li_1013904223, li_1431655765, li_m1, nI_up, nI_add]
          refine wp_ite (fun q => ?_) (fun q => ?_)
          · rw [nI_ltI (by omega) (by omega)] at q
            refine fin s ?_
            rcases hs with ⟨rfl, hs⟩ | ⟨j, h1, rfl, h2, h3⟩
            · exact Or.inr ⟨rfl, fun j hj => hs j (by omega)⟩
            · exact Or.inl ⟨j, by omega, rfl, h2, h3⟩
          · rw [nI_ltI (by omega) (by omega)] at q
            rcases hs with ⟨rfl, hs⟩ | ⟨j, h1, rfl, h2, h3⟩
            · rw [if_pos rfl, inb_nI (by omega) (by omega), chk_t, nI_clamp (by omega), bnd_s]
              have hz2 : mset m' 124 (9 + h) (nI i) 124 = upd (m 124) (9 + h) (nI i) := by rw [mset_eq, hz, upd_twice]
              refine wp_bind (w_clapM (h := h) (b := 0) hN hz2 (by omega) (by omega) (G.2.2.up (by omega) (by omega)) H.lawk) ?_
              rintro _ m3 ⟨rfl, f3⟩
              rw [clap_up (by omega) (by omega)]
              have lc := clapP_le (LN := LN) (w := m 124) (h := h) (fa := facP (m 124) h d i)
              have z3 : m3 124 = upd (m 124) (9 + h) (nI i) := (f3.at 124 (by decide)).trans hz2
              have ff : Fr [(124, 124), (132, 133)] m1 m3 := (Fr.set f' (by decide)).trans (f3.mono (by decide))
              obtain ⟨j, rfl⟩ : ∃ j, i = p + j := ⟨i - p, by omega⟩
              refine wp_ite (fun q2 => ?_) (fun q2 => ?_)
              · rw [nI_leI (by omega) (by decide)] at q2
                refine hX (100 - (p + j + 1)) _ _ _ (by omega) ⟨p + j + 1, by omega, by omega, rfl, rfl, ⟨_, z3⟩, ff, Or.inl ⟨rfl, fun j' hj' => ?_⟩⟩
                by_cases e : j' = j
                · subst e; exact q2
                · exact hs j' (by omega)
              · rw [nI_leI (by omega) (by decide)] at q2
                rw [pk_sub (by omega), Nat.add_sub_cancel_left, bnd_s]
                exact hX (100 - (p + j + 1)) _ _ _ (by omega) ⟨p + j + 1, by omega, by omega, rfl, rfl, ⟨_, z3⟩, ff, Or.inr ⟨j, by omega, rfl, Nat.lt_of_not_le q2, fun j' hj' => hs j' (by omega)⟩⟩
            · rw [if_neg (nI_no1 (by omega))]
              exact fin _ (Or.inl ⟨j, by omega, rfl, h2, h3⟩)
        · rintro v' m2 ⟨hv', h2, f2⟩
          refine ⟨hv.uni hv', hI.th (LN := LN) ((H.fr G.1.sml f1 (by decide +kernel)).fr G.1.sml f2 (by decide +kernel)) G ((f1.mono (by decide)).trans (f2.mono (by decide))) h2 ?_ (fun j hj => ?_)⟩
          · rw [f2.at 113 (by decide), f1.at 113 (by decide)]
          · rw [f2.at 123 (by decide), f1.at 123 (by decide)]
end EAGER
