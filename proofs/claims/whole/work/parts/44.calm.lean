/-! thoughts: calm, tires, eager, price -/
section CALM
variable {w w' v0 : Arr} {LN : List Lin} {m m' m2 : Mem} {N d : Nat}
def oix (o : Option Nat) : Int32 := match o with
  | none => mo1
  | some b => nI b
theorem nI_gtm {k : Nat} (h : k < 2 ^ 31) : ¬ nI k ≤ mo1 := fun q => nI_no0 h (Int32.lt_of_le_of_lt q (by decide))
def clmB (w : Arr) : Nat → Option Nat
  | 0 => none
  | n + 1 => if (zt w).testBit n = true then (match clmB w n with
    | none => some n
    | some b => if w (69 + n) ≤ w (69 + b) then some b else some n) else clmB w n
def clmN (w : Arr) : Nat → Nat
  | 0 => 0
  | n + 1 => clmN w n + if (zt w).testBit n = true then nv (w (69 + n)) else 0
theorem clmB_lt {b : Nat} : ∀ {n : Nat}, clmB w n = some b → b < n
  | 0, h => by cases h
  | n + 1, h => by
    unfold clmB at h
    split at h
    · cases hq : clmB w n with
      | none =>
        rw [hq] at h
        cases h
        omega
      | some c =>
        rw [hq] at h
        simp only at h
        have := clmB_lt hq
        split at h <;> cases h <;> omega
    · have := clmB_lt h
      omega
def cmV (w : Arr) (o : Option Nat) : Int32 := match o with
  | none => mo1
  | some b => w (69 + b)
theorem w_calmC {a : Int32} (hN : 20000 ≤ N) (H : HRep 2 LN w m) (W0 : WFc w) : Wp (f_X11_calm_J65 N a m) (fun v m' => v = (if a = nI 0 then oix (clmB w (zh w)) else nI (clmN w (zh w))) ∧ m' = m) := by
  have lh := W0.lzh
  unfold f_X11_calm_J65
  simp only [li_0, li_1, li_2, li_3, li_4, li_5, li_6, li_7, li_8, li_9, li_10, li_11, li_12, li_13, li_14, li_15, li_16, li_17, li_18, li_19, li_20, li_21, li_22, li_23, li_24, li_25, li_26, li_27, li_28, li_29, li_30, li_31, li_32, li_37, li_38, li_39, li_40, li_41, li_42, li_43, li_44, li_45, li_46, li_47, li_48, li_49, li_50, li_57, li_59, li_60, li_61, li_62, li_63, li_64, li_65, li_69, li_81, li_89, li_90, li_92, li_97, li_99, li_100, li_101, li_103, li_104, li_105, li_106, li_108, li_111, li_112, li_113, li_114, li_115, li_116, li_117, li_119, li_122, li_123, li_124, li_125, li_126, li_127, li_128, li_129, li_130, li_131, li_132, li_133, li_134, li_135, li_136, li_137, li_140, li_141, li_142, li_143, li_145, li_147, li_150, li_153, li_159, li_160, li_161, li_162, li_185, li_197, li_213, li_222, li_223, li_255, li_256, li_257, li_258, li_259, li_260, li_261, li_262, li_263, li_264, li_271, li_272, li_273, li_274, li_275, li_276, li_277, li_278, li_300, li_400, li_420, li_500, li_802, li_820, li_823, li_839, li_855, li_871, li_887, li_999, li_1000, li_1001, li_1002, li_1003, li_1004, li_1005, li_1006, li_1007, li_1008, li_1009, li_1010, li_1011, li_1012, li_1013, li_1014, li_1015, li_1016, li_1017, li_1018, li_1019, li_1020, li_1021, li_1022, li_1023, li_1707, li_4096, li_9999, li_65536, li_100000, li_1000000, li_1664525, li_100000000, li_252645135, li_858993459, li_1000000007, li_1013904223, li_1431655765, li_m1]
  refine wp_it4 (fun n x y z c m' => ∃ i, i ≤ zh w ∧ n = zh w - i ∧ x = oix (clmB w i) ∧ y = cmV w (clmB w i) ∧ z = nI (clmN w i) ∧ c = nI i ∧ m' = m) ?_ N (zh w) _ _ _ _ _ (by omega) ⟨0, by omega, rfl, rfl, rfl, rfl, rfl, rfl⟩
  rintro n X x y z c m' ⟨i, hi, rfl, rfl, rfl, rfl, rfl, rfl⟩ hX
  unfold f_X11_calm_L75
  simp only [li_0, li_1, li_2, li_3, li_4, li_5, li_6, li_7, li_8, li_9, li_10, li_11, li_12, li_13, li_14, li_15, li_16, li_17, li_18, li_19, li_20, li_21, li_22, li_23, li_24, li_25, li_26, li_27, li_28, li_29, li_30, li_31, li_32, li_37, li_38, li_39, li_40, li_41, li_42, li_43, li_44, li_45, li_46, li_47, li_48, li_49, li_50, li_57, li_59, li_60, li_61, li_62, li_63, li_64, li_65, li_69, li_81, li_89, li_90, li_92, li_97, li_99, li_100, li_101, li_103, li_104, li_105, li_106, li_108, li_111, li_112, li_113, li_114, li_115, li_116, li_117, li_119, li_122, li_123, li_124, li_125, li_126, li_127, li_128, li_129, li_130, li_131, li_132, li_133, li_134, li_135, li_136, li_137, li_140, li_141, li_142, li_143, li_145, li_147, li_150, li_153, li_159, li_160, li_161, li_162, li_185, li_197, li_213, li_222, li_223, li_255, li_256, li_257, li_258, li_259, li_260, li_261, li_262, li_263, li_264, li_271, li_272, li_273, li_274, li_275, li_276, li_277, li_278, li_300, li_400, li_420, li_500, li_802, li_820, li_823, li_839, li_855, li_871, li_887, li_999, li_1000, li_1001, li_1002, li_1003, li_1004, li_1005, li_1006, li_1007, li_1008, li_1009, li_1010, li_1011, li_1012, li_1013, li_1014, li_1015, li_1016, li_1017, li_1018, li_1019, li_1020, li_1021, li_1022, li_1023, li_1707, li_4096, li_9999, li_65536, li_100000, li_1000000, li_1664525, li_100000000, li_252645135, li_858993459, li_1000000007, li_1013904223, li_1431655765, li_m1, nI_up]
  rw [H.hea.1, W0.h37]
  refine wp_ite (fun q => ?_) (fun q => ?_)
  · rw [nI_leI (by omega) (by omega)] at q
    have : i = zh w := by omega
    subst this
    refine wp_ite (fun q => ?_) (fun q => ?_)
    · rw [if_pos q]; exact wp_ret ⟨rfl, rfl⟩
    · rw [if_neg q]; exact wp_ret ⟨rfl, rfl⟩
  · rw [nI_leI (by omega) (by omega)] at q
    have hi' : i < zh w := by omega
    have hv := (W0.hea hi').2.2.1
    have ev : w (69 + i) = nI (nv (w (69 + i))) := hv.eq (by decide)
    have hB : clmB w (i + 1) = if (zt w).testBit i = true then (match clmB w i with
      | none => some i
      | some b => if w (69 + i) ≤ w (69 + b) then some b else some i) else clmB w i := rfl
    have hS : clmN w (i + 1) = clmN w i + if (zt w).testBit i = true then nv (w (69 + i)) else 0 := rfl
    rw [hr_hea H W0 hi' (by decide), bd_s, show heaV w i 3 = b2i ((zt w).testBit i) from rfl]
    cases hb : (zt w).testBit i with
    | false =>
      rw [if_neg (by decide)]
      rw [hb, if_neg (by decide)] at hB hS
      exact hX (zh w - (i + 1)) _ _ _ _ _ (by omega) ⟨i + 1, by omega, rfl, by rw [hB], by rw [hB], by rw [hS]; rfl, rfl, rfl⟩
    | true =>
      rw [if_pos (by rfl), hr_hea H W0 hi' (by decide), bd_s, show heaV w i 2 = w (69 + i) from rfl, bnd_s]
      rw [hb, if_pos rfl] at hB hS
      have ea : nI (clmN w i) + w (69 + i) = nI (clmN w (i + 1)) := by rw [hS, ev, nI_add, nv_nI (by have := hv.le (by decide); omega)]
      rw [ea]
      cases hq : clmB w i with
      | none =>
        rw [hq] at hB
        refine wp_ite (fun q => ?_) (fun q => ?_)
        · have : w (69 + i) ≤ mo1 := q
          rw [ev] at this
          exact absurd this (nI_gtm (by have := hv.le (by decide); omega))
        · exact hX (zh w - (i + 1)) _ _ _ _ _ (by omega) ⟨i + 1, by omega, rfl, by rw [hB]; rfl, by rw [hB]; rfl, rfl, rfl, rfl⟩
      | some b =>
        rw [hq] at hB
        simp only at hB
        refine wp_ite (fun q => ?_) (fun q => ?_)
        · have q : w (69 + i) ≤ w (69 + b) := q
          rw [if_pos q] at hB
          exact hX (zh w - (i + 1)) _ _ _ _ _ (by omega) ⟨i + 1, by omega, rfl, by rw [hB], by rw [hB], rfl, rfl, rfl⟩
        · have q : ¬ w (69 + i) ≤ w (69 + b) := q
          rw [if_neg q] at hB
          exact hX (zh w - (i + 1)) _ _ _ _ _ (by omega) ⟨i + 1, by omega, rfl, by rw [hB]; rfl, by rw [hB]; rfl, rfl, rfl, rfl⟩
theorem w_calmM {a : Int32} (hN : 20000 ≤ N) (hm : m 124 = w) (W0 : WFc w) : Wp (it3 (f_X12_calm_L52 N a) N mo1 (nI 0) (nI 0) m) (fun v m' => v = (if a = nI 0 then oix (clmB w (zh w)) else nI (clmN w (zh w))) ∧ m' = m) := by
  have lh := W0.lzh
  refine wp_it3 (fun n x z c m' => ∃ i, i ≤ zh w ∧ n = zh w - i ∧ x = oix (clmB w i) ∧ z = nI (clmN w i) ∧ c = nI i ∧ m' = m) ?_ N (zh w) _ _ _ _ (by omega) ⟨0, by omega, rfl, rfl, rfl, rfl, rfl⟩
  rintro n X x z c m' ⟨i, hi, rfl, rfl, rfl, rfl, rfl⟩ hX
  unfold f_X12_calm_L52
  simp only [li_0, li_1, li_2, li_3, li_4, li_5, li_6, li_7, li_8, li_9, li_10, li_11, li_12, li_13, li_14, li_15, li_16, li_17, li_18, li_19, li_20, li_21, li_22, li_23, li_24, li_25, li_26, li_27, li_28, li_29, li_30, li_31, li_32, li_37, li_38, li_39, li_40, li_41, li_42, li_43, li_44, li_45, li_46, li_47, li_48, li_49, li_50, li_57, li_59, li_60, li_61, li_62, li_63, li_64, li_65, li_69, li_81, li_89, li_90, li_92, li_97, li_99, li_100, li_101, li_103, li_104, li_105, li_106, li_108, li_111, li_112, li_113, li_114, li_115, li_116, li_117, li_119, li_122, li_123, li_124, li_125, li_126, li_127, li_128, li_129, li_130, li_131, li_132, li_133, li_134, li_135, li_136, li_137, li_140, li_141, li_142, li_143, li_145, li_147, li_150, li_153, li_159, li_160, li_161, li_162, li_185, li_197, li_213, li_222, li_223, li_255, li_256, li_257, li_258, li_259, li_260, li_261, li_262, li_263, li_264, li_271, li_272, li_273, li_274, li_275, li_276, li_277, li_278, li_300, li_400, li_420, li_500, li_802, li_820, li_823, li_839, li_855, li_871, li_887, li_999, li_1000, li_1001, li_1002, li_1003, li_1004, li_1005, li_1006, li_1007, li_1008, li_1009, li_1010, li_1011, li_1012, li_1013, li_1014, li_1015, li_1016, li_1017, li_1018, li_1019, li_1020, li_1021, li_1022, li_1023, li_1707, li_4096, li_9999, li_65536, li_100000, li_1000000, li_1664525, li_100000000, li_252645135, li_858993459, li_1000000007, li_1013904223, li_1431655765, li_m1, nI_add]
  rw [hm, W0.h37]
  refine wp_ite (fun q => ?_) (fun q => ?_)
  · rw [nI_leI (by omega) (by omega)] at q
    have : i = zh w := by omega
    subst this
    refine wp_ite (fun q => ?_) (fun q => ?_)
    · rw [if_pos q]; exact wp_ret ⟨rfl, rfl⟩
    · rw [if_neg q]; exact wp_ret ⟨rfl, rfl⟩
  · rw [nI_leI (by omega) (by omega)] at q
    have hi' : i < zh w := by omega
    have hv := (W0.hea hi').2.2.1
    have ev : w (69 + i) = nI (nv (w (69 + i))) := hv.eq (by decide)
    have hB : clmB w (i + 1) = if (zt w).testBit i = true then (match clmB w i with
      | none => some i
      | some b => if w (69 + i) ≤ w (69 + b) then some b else some i) else clmB w i := rfl
    have hS : clmN w (i + 1) = clmN w i + if (zt w).testBit i = true then nv (w (69 + i)) else 0 := rfl
    rw [e_there hm W0 (by omega), bd_s]
    cases hb : (zt w).testBit i with
    | false =>
      rw [if_pos (by decide)]
      rw [hb, if_neg (by decide)] at hB hS
      exact hX (zh w - (i + 1)) _ _ _ _ (by omega) ⟨i + 1, by omega, rfl, by rw [hB], by rw [hS]; rfl, rfl, rfl⟩
    | true =>
      rw [if_neg (by decide), inb_nI (by omega) (by omega), chk_t, nI_clamp (by omega), bnd_s, hm]
      rw [hb, if_pos rfl] at hB hS
      have ea : nI (clmN w i) + w (69 + i) = nI (clmN w (i + 1)) := by rw [hS, ev, nI_add, nv_nI (by have := hv.le (by decide); omega)]
      rw [ea]
      cases hq : clmB w i with
      | none =>
        rw [hq] at hB
        rw [if_pos (by rfl)]
        exact hX (zh w - (i + 1)) _ _ _ _ (by omega) ⟨i + 1, by omega, rfl, by rw [hB]; rfl, rfl, rfl, rfl⟩
      | some b =>
        rw [hq] at hB
        simp only at hB
        have hb2 := clmB_lt hq
        rw [if_neg (show ¬ oix (some b) = mo1 from nI_no1 (by omega)), chk_t, show nI 69 + oix (some b) = nI (69 + b) from nI_add _ _, inb_nI (by omega) (by omega), chk_t, nI_clamp (by omega)]
        refine wp_ite (fun q => ?_) (fun q => ?_)
        · rw [if_pos q] at hB
          exact hX (zh w - (i + 1)) _ _ _ _ (by omega) ⟨i + 1, by omega, rfl, by rw [hB], rfl, rfl, rfl⟩
        · rw [if_neg q] at hB
          exact hX (zh w - (i + 1)) _ _ _ _ (by omega) ⟨i + 1, by omega, rfl, by rw [hB]; rfl, rfl, rfl, rfl⟩
theorem pr_calm {a : Int32} (hN : 20000 ≤ N) : Pr (f_X11_calm N a) (f_X12_calm N a) := by
  intro m hI
  obtain ⟨LN, H, G, -⟩ := id hI
  have ld := G.1.lzd
  have lh := G.1.lzh
  have p := pow_le31 lh
  rcases sub10 a (n := zd (m 124)) (by omega) with ⟨e, hne⟩ | ⟨d, hd, rfl⟩
  · have key : f_X11_calm N a m = f_X11_calm_J54 N a m := by
      unfold f_X11_calm
      simp only [li_0, li_1, li_2, li_3, li_4, li_5, li_6, li_7, li_8, li_9, li_10, li_11, li_12, li_13, li_14, li_15, li_16, li_17, li_18, li_19, li_20, li_21, li_22, li_23, li_24, li_25, li_26, li_27, li_28, li_29, li_30, li_31, li_32, li_37, li_38, li_39, li_40, li_41, li_42, li_43, li_44, li_45, li_46, li_47, li_48, li_49, li_50, li_57, li_59, li_60, li_61, li_62, li_63, li_64, li_65, li_69, li_81, li_89, li_90, li_92, li_97, li_99, li_100, li_101, li_103, li_104, li_105, li_106, li_108, li_111, li_112, li_113, li_114, li_115, li_116, li_117, li_119, li_122, li_123, li_124, li_125, li_126, li_127, li_128, li_129, li_130, li_131, li_132, li_133, li_134, li_135, li_136, li_137, li_140, li_141, li_142, li_143, li_145, li_147, li_150, li_153, li_159, li_160, li_161, li_162, li_185, li_197, li_213, li_222, li_223, li_255, li_256, li_257, li_258, li_259, li_260, li_261, li_262, li_263, li_264, li_271, li_272, li_273, li_274, li_275, li_276, li_277, li_278, li_300, li_400, li_420, li_500, li_802, li_820, li_823, li_839, li_855, li_871, li_887, li_999, li_1000, li_1001, li_1002, li_1003, li_1004, li_1005, li_1006, li_1007, li_1008, li_1009, li_1010, li_1011, li_1012, li_1013, li_1014, li_1015, li_1016, li_1017, li_1018, li_1019, li_1020, li_1021, li_1022, li_1023, li_1707, li_4096, li_9999, li_65536, li_100000, li_1000000, li_1664525, li_100000000, li_252645135, li_858993459, li_1000000007, li_1013904223, li_1431655765, li_m1]
      by_cases h : a < nI 10
      · rw [if_pos h]
      · rw [if_neg h, hr_hasD H G.1, e, bd_s, if_pos (by decide)]
    rw [key]
    have hM : ∀ m1 : Mem, m1 124 = m 124 → f_X12_calm N a m1 = if b2i (decide (nI 0 ≤ a ∧ a ≤ nI 1)) = nI 0 then some (mo1, m1) else it3 (f_X12_calm_L52 N a) N mo1 (nI 0) (nI 0) m1 := by
      intro m1 h1
      unfold f_X12_calm
      simp only [li_0, li_1, li_2, li_3, li_4, li_5, li_6, li_7, li_8, li_9, li_10, li_11, li_12, li_13, li_14, li_15, li_16, li_17, li_18, li_19, li_20, li_21, li_22, li_23, li_24, li_25, li_26, li_27, li_28, li_29, li_30, li_31, li_32, li_37, li_38, li_39, li_40, li_41, li_42, li_43, li_44, li_45, li_46, li_47, li_48, li_49, li_50, li_57, li_59, li_60, li_61, li_62, li_63, li_64, li_65, li_69, li_81, li_89, li_90, li_92, li_97, li_99, li_100, li_101, li_103, li_104, li_105, li_106, li_108, li_111, li_112, li_113, li_114, li_115, li_116, li_117, li_119, li_122, li_123, li_124, li_125, li_126, li_127, li_128, li_129, li_130, li_131, li_132, li_133, li_134, li_135, li_136, li_137, li_140, li_141, li_142, li_143, li_145, li_147, li_150, li_153, li_159, li_160, li_161, li_162, li_185, li_197, li_213, li_222, li_223, li_255, li_256, li_257, li_258, li_259, li_260, li_261, li_262, li_263, li_264, li_271, li_272, li_273, li_274, li_275, li_276, li_277, li_278, li_300, li_400, li_420, li_500, li_802, li_820, li_823, li_839, li_855, li_871, li_887, li_999, li_1000, li_1001, li_1002, li_1003, li_1004, li_1005, li_1006, li_1007, li_1008, li_1009, li_1010, li_1011, li_1012, li_1013, li_1014, li_1015, li_1016, li_1017, li_1018, li_1019, li_1020, li_1021, li_1022, li_1023, li_1707, li_4096, li_9999, li_65536, li_100000, li_1000000, li_1664525, li_100000000, li_252645135, li_858993459, li_1000000007, li_1013904223, li_1431655765, li_m1]
      rw [e_isDeed h1 G.1, e, bd_s, if_pos (by decide), e_isIn, bd_s]
    have go : decide (nI 0 ≤ a ∧ a ≤ nI 1) = true → Wp (f_X11_calm_J65 N a m) (fun v1 m1 => Wp (f_X12_calm N a m1) (fun v2 m2 => v1 = v2 ∧ Inv m2)) := by
      intro hq
      refine wp_mono (w_calmC hN H G.1) ?_
      rintro _ m1 ⟨rfl, rfl⟩
      rw [hM m1 rfl, hq, if_neg (by decide)]
      refine wp_mono (w_calmM hN rfl G.1) ?_
      rintro _ m2 ⟨rfl, rfl⟩
      exact ⟨rfl, hI⟩
    unfold f_X11_calm_J54
    simp only [li_0, li_1, li_2, li_3, li_4, li_5, li_6, li_7, li_8, li_9, li_10, li_11, li_12, li_13, li_14, li_15, li_16, li_17, li_18, li_19, li_20, li_21, li_22, li_23, li_24, li_25, li_26, li_27, li_28, li_29, li_30, li_31, li_32, li_37, li_38, li_39, li_40, li_41, li_42, li_43, li_44, li_45, li_46, li_47, li_48, li_49, li_50, li_57, li_59, li_60, li_61, li_62, li_63, li_64, li_65, li_69, li_81, li_89, li_90, li_92, li_97, li_99, li_100, li_101, li_103, li_104, li_105, li_106, li_108, li_111, li_112, li_113, li_114, li_115, li_116, li_117, li_119, li_122, li_123, li_124, li_125, li_126, li_127, li_128, li_129, li_130, li_131, li_132, li_133, li_134, li_135, li_136, li_137, li_140, li_141, li_142, li_143, li_145, li_147, li_150, li_153, li_159, li_160, li_161, li_162, li_185, li_197, li_213, li_222, li_223, li_255, li_256, li_257, li_258, li_259, li_260, li_261, li_262, li_263, li_264, li_271, li_272, li_273, li_274, li_275, li_276, li_277, li_278, li_300, li_400, li_420, li_500, li_802, li_820, li_823, li_839, li_855, li_871, li_887, li_999, li_1000, li_1001, li_1002, li_1003, li_1004, li_1005, li_1006, li_1007, li_1008, li_1009, li_1010, li_1011, li_1012, li_1013, li_1014, li_1015, li_1016, li_1017, li_1018, li_1019, li_1020, li_1021, li_1022, li_1023, li_1707, li_4096, li_9999, li_65536, li_100000, li_1000000, li_1664525, li_100000000, li_252645135, li_858993459, li_1000000007, li_1013904223, li_1431655765, li_m1]
    refine wp_ite (fun q => ?_) (fun q => ?_)
    · exact go (by rw [q]; decide)
    · refine wp_ite (fun q1 => ?_) (fun q1 => ?_)
      · exact go (by rw [q1]; decide)
      · refine wp_ret ?_
        rw [hM m rfl, decide_eq_false, if_pos (by decide)]
        · exact wp_ret ⟨rfl, hI⟩
        · rintro ⟨r1, r2⟩
          obtain ⟨k, hk, rfl⟩ := nI_of (x := a) (Int32.not_lt.mpr r1)
          rw [nI_leI hk (by decide)] at r2
          rcases (show k = 0 ∨ k = 1 by omega) with rfl | rfl
          · exact q rfl
          · exact q1 rfl
  · unfold f_X11_calm
    simp only [li_0, li_1, li_2, li_3, li_4, li_5, li_6, li_7, li_8, li_9, li_10, li_11, li_12, li_13, li_14, li_15, li_16, li_17, li_18, li_19, li_20, li_21, li_22, li_23, li_24, li_25, li_26, li_27, li_28, li_29, li_30, li_31, li_32, li_37, li_38, li_39, li_40, li_41, li_42, li_43, li_44, li_45, li_46, li_47, li_48, li_49, li_50, li_57, li_59, li_60, li_61, li_62, li_63, li_64, li_65, li_69, li_81, li_89, li_90, li_92, li_97, li_99, li_100, li_101, li_103, li_104, li_105, li_106, li_108, li_111, li_112, li_113, li_114, li_115, li_116, li_117, li_119, li_122, li_123, li_124, li_125, li_126, li_127, li_128, li_129, li_130, li_131, li_132, li_133, li_134, li_135, li_136, li_137, li_140, li_141, li_142, li_143, li_145, li_147, li_150, li_153, li_159, li_160, li_161, li_162, li_185, li_197, li_213, li_222, li_223, li_255, li_256, li_257, li_258, li_259, li_260, li_261, li_262, li_263, li_264, li_271, li_272, li_273, li_274, li_275, li_276, li_277, li_278, li_300, li_400, li_420, li_500, li_802, li_820, li_823, li_839, li_855, li_871, li_887, li_999, li_1000, li_1001, li_1002, li_1003, li_1004, li_1005, li_1006, li_1007, li_1008, li_1009, li_1010, li_1011, li_1012, li_1013, li_1014, li_1015, li_1016, li_1017, li_1018, li_1019, li_1020, li_1021, li_1022, li_1023, li_1707, li_4096, li_9999, li_65536, li_100000, li_1000000, li_1664525, li_100000000, li_252645135, li_858993459, li_1000000007, li_1013904223, li_1431655765, li_m1]
    rw [if_neg (nI_nlt (by omega) (by omega)), pk_sub (by omega), Nat.add_sub_cancel_left, hr_hasD H G.1, inb_nI hd (by omega), bd_s, if_neg (by decide)]
    refine wp_bind (w_settleC hN H G.1 hd) ?_
    rintro _ m1 ⟨-, H1, c5, c6, t1, f1⟩
    have hcl := clpF_lt (LN := LN) (w := m 124) (d := d) (by omega)
    have hz : zt (m 124) < 4096 := by have := G.1.h7.2; omega
    rw [e_those3 hN H1 G.1, bd_s, c5, nz_diff, e_bitCount _ (Nat.lt_of_le_of_lt (sdf_le _ _) hz), bd_s]
    refine wp_ret ?_
    have e124 : m1 124 = m 124 := f1.at 124 (by decide)
    unfold f_X12_calm
    simp only [li_0, li_1, li_2, li_3, li_4, li_5, li_6, li_7, li_8, li_9, li_10, li_11, li_12, li_13, li_14, li_15, li_16, li_17, li_18, li_19, li_20, li_21, li_22, li_23, li_24, li_25, li_26, li_27, li_28, li_29, li_30, li_31, li_32, li_37, li_38, li_39, li_40, li_41, li_42, li_43, li_44, li_45, li_46, li_47, li_48, li_49, li_50, li_57, li_59, li_60, li_61, li_62, li_63, li_64, li_65, li_69, li_81, li_89, li_90, li_92, li_97, li_99, li_100, li_101, li_103, li_104, li_105, li_106, li_108, li_111, li_112, li_113, li_114, li_115, li_116, li_117, li_119, li_122, li_123, li_124, li_125, li_126, li_127, li_128, li_129, li_130, li_131, li_132, li_133, li_134, li_135, li_136, li_137, li_140, li_141, li_142, li_143, li_145, li_147, li_150, li_153, li_159, li_160, li_161, li_162, li_185, li_197, li_213, li_222, li_223, li_255, li_256, li_257, li_258, li_259, li_260, li_261, li_262, li_263, li_264, li_271, li_272, li_273, li_274, li_275, li_276, li_277, li_278, li_300, li_400, li_420, li_500, li_802, li_820, li_823, li_839, li_855, li_871, li_887, li_999, li_1000, li_1001, li_1002, li_1003, li_1004, li_1005, li_1006, li_1007, li_1008, li_1009, li_1010, li_1011, li_1012, li_1013, li_1014, li_1015, li_1016, li_1017, li_1018, li_1019, li_1020, li_1021, li_1022, li_1023, li_1707, li_4096, li_9999, li_65536, li_100000, li_1000000, li_1664525, li_100000000, li_252645135, li_858993459, li_1000000007, li_1013904223, li_1431655765, li_m1]
    rw [pk_sub (by omega), Nat.add_sub_cancel_left, e_isDeed e124 G.1, inb_nI hd (by omega), bd_s, if_neg (by decide)]
    refine wp_bind (w_settlesM (c := 0) hN e124 G H.lawk hd (by decide)) ?_
    rintro _ m2 ⟨rfl, h2, j2, f2⟩
    rw [if_pos rfl, e124, G.1.h7.1, nz_diff, e_count _ hN (Nat.lt_of_le_of_lt (sdf_le _ _) (by omega)), bd_s]
    exact wp_ret ⟨rfl, hI.th2 H1 G f1 t1 h2 j2 f2⟩
/-! tires -/
def tirS (LN : List Lin) (d : Nat) (w : Arr) : Nat → Arr
  | 0 => w
  | n + 1 => begS LN (tirS LN d w n) d
def TirV (LN : List Lin) (d : Nat) (w : Arr) (v : Int32) : Prop := (∃ i, i ≤ 99 ∧ v = nI i ∧ nI 99 ≤ tirS LN d w i (21 + d) ∧ ∀ j, j < i → ¬ nI 99 ≤ tirS LN d w j (21 + d)) ∨ (v = mo1 ∧ ∀ j, j ≤ 99 → ¬ nI 99 ≤ tirS LN d w j (21 + d))
theorem TirV.uni {x y : Int32} (h1 : TirV LN d w x) (h2 : TirV LN d w y) : x = y := by
  rcases h1 with ⟨i, hi, rfl, a, b⟩ | ⟨rfl, a⟩
  · rcases h2 with ⟨j, hj, rfl, c, e⟩ | ⟨rfl, c⟩
    · have : i = j := by
        rcases Nat.lt_trichotomy i j with h | h | h
        · exact absurd a (e i h)
        · exact h
        · exact absurd c (b j h)
      rw [this]
    · exact absurd a (c i hi)
  · rcases h2 with ⟨j, hj, rfl, c, e⟩ | ⟨rfl, c⟩
    · exact absurd c (a j hj)
    · rfl
theorem tirS_ok (W0 : WFc w) (hw : lawW w LN) (hd : d < zd w) : ∀ n, WFc (tirS LN d w n) ∧ lawW (tirS LN d w n) LN ∧ zd (tirS LN d w n) = zd w ∧ ∀ i, 37 ≤ i → tirS LN d w n i = w i
  | 0 => ⟨W0, hw, rfl, fun _ _ => rfl⟩
  | n + 1 => by
    obtain ⟨a, b, c, e⟩ := tirS_ok W0 hw hd n
    have l := W0.lzd
    have o : ∀ i, 37 ≤ i → begS LN (tirS LN d w n) d i = w i := fun i hi => (begS_o (by omega)).trans (e i hi)
    refine ⟨a.beg (by rw [c]; exact hd), b.beg (by omega), ?_, o⟩
    show zd (begS LN (tirS LN d w n) d) = _
    unfold zd
    rw [o 38 (by decide)]
theorem pr_tires {a : Int32} (hN : 20000 ≤ N) : Pr (f_X11_tires N a) (f_X12_tires N a) := by
  intro m hI
  obtain ⟨LN, H, G, -, -, -, -, h4⟩ := id hI
  have ld := G.1.lzd
  unfold f_X11_tires
  simp only [li_0, li_1, li_2, li_3, li_4, li_5, li_6, li_7, li_8, li_9, li_10, li_11, li_12, li_13, li_14, li_15, li_16, li_17, li_18, li_19, li_20, li_21, li_22, li_23, li_24, li_25, li_26, li_27, li_28, li_29, li_30, li_31, li_32, li_37, li_38, li_39, li_40, li_41, li_42, li_43, li_44, li_45, li_46, li_47, li_48, li_49, li_50, li_57, li_59, li_60, li_61, li_62, li_63, li_64, li_65, li_69, li_81, li_89, li_90, li_92, li_97, li_99, li_100, li_101, li_103, li_104, li_105, li_106, li_108, li_111, li_112, li_113, li_114, li_115, li_116, li_117, li_119, li_122, li_123, li_124, li_125, li_126, li_127, li_128, li_129, li_130, li_131, li_132, li_133, li_134, li_135, li_136, li_137, li_140, li_141, li_142, li_143, li_145, li_147, li_150, li_153, li_159, li_160, li_161, li_162, li_185, li_197, li_213, li_222, li_223, li_255, li_256, li_257, li_258, li_259, li_260, li_261, li_262, li_263, li_264, li_271, li_272, li_273, li_274, li_275, li_276, li_277, li_278, li_300, li_400, li_420, li_500, li_802, li_820, li_823, li_839, li_855, li_871, li_887, li_999, li_1000, li_1001, li_1002, li_1003, li_1004, li_1005, li_1006, li_1007, li_1008, li_1009, li_1010, li_1011, li_1012, li_1013, li_1014, li_1015, li_1016, li_1017, li_1018, li_1019, li_1020, li_1021, li_1022, li_1023, li_1707, li_4096, li_9999, li_65536, li_100000, li_1000000, li_1664525, li_100000000, li_252645135, li_858993459, li_1000000007, li_1013904223, li_1431655765, li_m1]
  rw [hr_hasD H G.1, bd_s]
  rcases inb_cases a (n := zd (m 124)) (by omega) with ⟨e, -⟩ | ⟨d, hd, rfl⟩
  · rw [e, if_pos (by decide)]
    refine wp_ret ?_
    unfold f_X12_tires
    simp only [li_0, li_1, li_2, li_3, li_4, li_5, li_6, li_7, li_8, li_9, li_10, li_11, li_12, li_13, li_14, li_15, li_16, li_17, li_18, li_19, li_20, li_21, li_22, li_23, li_24, li_25, li_26, li_27, li_28, li_29, li_30, li_31, li_32, li_37, li_38, li_39, li_40, li_41, li_42, li_43, li_44, li_45, li_46, li_47, li_48, li_49, li_50, li_57, li_59, li_60, li_61, li_62, li_63, li_64, li_65, li_69, li_81, li_89, li_90, li_92, li_97, li_99, li_100, li_101, li_103, li_104, li_105, li_106, li_108, li_111, li_112, li_113, li_114, li_115, li_116, li_117, li_119, li_122, li_123, li_124, li_125, li_126, li_127, li_128, li_129, li_130, li_131, li_132, li_133, li_134, li_135, li_136, li_137, li_140, li_141, li_142, li_143, li_145, li_147, li_150, li_153, li_159, li_160, li_161, li_162, li_185, li_197, li_213, li_222, li_223, li_255, li_256, li_257, li_258, li_259, li_260, li_261, li_262, li_263, li_264, li_271, li_272, li_273, li_274, li_275, li_276, li_277, li_278, li_300, li_400, li_420, li_500, li_802, li_820, li_823, li_839, li_855, li_871, li_887, li_999, li_1000, li_1001, li_1002, li_1003, li_1004, li_1005, li_1006, li_1007, li_1008, li_1009, li_1010, li_1011, li_1012, li_1013, li_1014, li_1015, li_1016, li_1017, li_1018, li_1019, li_1020, li_1021, li_1022, li_1023, li_1707, li_4096, li_9999, li_65536, li_100000, li_1000000, li_1664525, li_100000000, li_252645135, li_858993459, li_1000000007, li_1013904223, li_1431655765, li_m1]
    rw [e_isDeed rfl G.1, e, bd_s, if_pos (by decide)]
    exact wp_ret ⟨rfl, hI⟩
  · rw [inb_nI hd (by omega), if_neg (by decide)]
    refine wp_bind (thk_in H G.1) ?_
    rintro _ m1 ⟨H1, hM1, f1⟩
    have ok := tirS_ok (LN := LN) G.1 G.2.2 hd
    refine wp_mono (Q := fun v m' => TirV LN d (m 124) v ∧ HRep 2 LN (m 124) m' ∧ Fr [(3, 9), (111, 112)] m1 m') (wp_it1 (fun n x m' => ∃ i, i ≤ 99 ∧ n = 99 - i ∧ x = nI i ∧ HRep 2 LN (tirS LN d (m 124) i) m' ∧ Fr [(3, 9), (111, 112)] m1 m' ∧ ∀ j, j < i → ¬ nI 99 ≤ tirS LN d (m 124) j (21 + d)) ?_ N 99 _ _ (by omega)
      ⟨0, by omega, rfl, rfl, H1, Fr.rf, fun j hj => absurd hj (by omega)⟩) ?_
    · rintro n X x m' ⟨i, hi, rfl, rfl, H', f', hj⟩ hX
      obtain ⟨W', w', z', o'⟩ := ok i
      have hd' : d < zd (tirS LN d (m 124) i) := by rw [z']; exact hd
      have ex : Wp (f_X11_tires_J66 N (nI d) (nI i) m') (fun v m' => TirV LN d (m 124) v ∧ HRep 2 LN (m 124) m' ∧ Fr [(3, 9), (111, 112)] m1 m') ∨ (i < 99 ∧ ¬ nI 99 ≤ tirS LN d (m 124) i (21 + d)) := by
        by_cases hx : i < 99 ∧ ¬ nI 99 ≤ tirS LN d (m 124) i (21 + d)
        · exact Or.inr hx
        refine Or.inl ?_
        unfold f_X11_tires_J66 f_X11_tires_J88
        simp only [li_0, li_1, li_2, li_3, li_4, li_5, li_6, li_7, li_8, li_9, li_10, li_11, li_12, li_13, li_14, li_15, li_16, li_17, li_18, li_19, li_20, li_21, li_22, li_23, li_24, li_25, li_26, li_27, li_28, li_29, li_30, li_31, li_32, li_37, li_38, li_39, li_40, li_41, li_42, li_43, li_44, li_45, li_46, li_47, li_48, li_49, li_50, li_57, li_59, li_60, li_61, li_62, li_63, li_64, li_65, li_69, li_81, li_89, li_90, li_92, li_97, li_99, li_100, li_101, li_103, li_104, li_105, li_106, li_108, li_111, li_112, li_113, li_114, li_115, li_116, li_117, li_119, li_122, li_123, li_124, li_125, li_126, li_127, li_128, li_129, li_130, li_131, li_132, li_133, li_134, li_135, li_136, li_137, li_140, li_141, li_142, li_143, li_145, li_147, li_150, li_153, li_159, li_160, li_161, li_162, li_185, li_197, li_213, li_222, li_223, li_255, li_256, li_257, li_258, li_259, li_260, li_261, li_262, li_263, li_264, li_271, li_272, li_273, li_274, li_275, li_276, li_277, li_278, li_300, li_400, li_420, li_500, li_802, li_820, li_823, li_839, li_855, li_871, li_887, li_999, li_1000, li_1001, li_1002, li_1003, li_1004, li_1005, li_1006, li_1007, li_1008, li_1009, li_1010, li_1011, li_1012, li_1013, li_1014, li_1015, li_1016, li_1017, li_1018, li_1019, li_1020, li_1021, li_1022, li_1023, li_1707, li_4096, li_9999, li_65536, li_100000, li_1000000, li_1664525, li_100000000, li_252645135, li_858993459, li_1000000007, li_1013904223, li_1431655765, li_m1]
        rw [hr_dee H' W' hd' (by decide), bd_s, show deeV (tirS LN d (m 124) i) d 3 = tirS LN d (m 124) i (21 + d) from rfl]
        have back := thk_out (N := N) H' W'.sml G.1 (hM1.fr G.1.sml f' (by decide)) (fun j hj => o' j hj)
        refine wp_ite (fun q => ?_) (fun q => ?_)
        · refine wp_bind back ?_
          rintro _ m3 ⟨H3, f3⟩
          rw [if_pos trivial]
          have h99 : ¬ nI 99 ≤ tirS LN d (m 124) i (21 + d) := Int32.not_le.mpr q
          have : i = 99 := by
            have : ¬ i < 99 := fun z => hx ⟨z, h99⟩
            omega
          subst this
          refine wp_ret ⟨Or.inr ⟨rfl, fun j hj2 => ?_⟩, H3, f'.trans (f3.mono (by decide))⟩
          by_cases e : j = 99
          · subst e; exact h99
          · exact hj j (by omega)
        · refine wp_bind back ?_
          rintro _ m3 ⟨H3, f3⟩
          rw [if_neg (by decide)]
          exact wp_ret ⟨Or.inl ⟨i, hi, rfl, Int32.not_lt.mp q, hj⟩, H3, f'.trans (f3.mono (by decide))⟩
      unfold f_X11_tires_L29
      simp only [li_0, li_1, li_2, li_3, li_4, li_5, li_6, li_7, li_8, li_9, li_10, li_11, li_12, li_13, li_14, li_15, li_16, li_17, li_18, li_19, li_20, li_21, li_22, li_23, li_24, li_25, li_26, li_27, li_28, li_29, li_30, li_31, li_32, li_37, li_38, li_39, li_40, li_41, li_42, li_43, li_44, li_45, li_46, li_47, li_48, li_49, li_50, li_57, li_59, li_60, li_61, li_62, li_63, li_64, li_65, li_69, li_81, li_89, li_90, li_92, li_97, li_99, li_100, li_101, li_103, li_104, li_105, li_106, li_108, li_111, li_112, li_113, li_114, li_115, li_116, li_117, li_119, li_122, li_123, li_124, li_125, li_126, li_127, li_128, li_129, li_130, li_131, li_132, li_133, li_134, li_135, li_136, li_137, li_140, li_141, li_142, li_143, li_145, li_147, li_150, li_153, li_159, li_160, li_161, li_162, li_185, li_197, li_213, li_222, li_223, li_255, li_256, li_257, li_258, li_259, li_260, li_261, li_262, li_263, li_264, li_271, li_272, li_273, li_274, li_275, li_276, li_277, li_278, li_300, li_400, li_420, li_500, li_802, li_820, li_823, li_839, li_855, li_871, li_887, li_999, li_1000, li_1001, li_1002, li_1003, li_1004, li_1005, li_1006, li_1007, li_1008, li_1009, li_1010, li_1011, li_1012, li_1013, li_1014, li_1015, li_1016, li_1017, li_1018, li_1019, li_1020, li_1021, li_1022, li_1023, li_1707, li_4096, li_9999, li_65536, li_100000, li_1000000, li_1664525, li_100000000, li_252645135, li_858993459, li_1000000007, li_1013904223, li_1431655765, li_m1, nI_up]
      refine wp_ite (fun q => ?_) (fun q => ?_)
      · rcases ex with ex | ⟨ex, -⟩
        · exact ex
        · rw [nI_leI (by decide) (by omega)] at q
          omega
      · rw [nI_leI (by decide) (by omega)] at q
        rw [hr_dee H' W' hd' (by decide), bd_s, show deeV (tirS LN d (m 124) i) d 3 = tirS LN d (m 124) i (21 + d) from rfl]
        refine wp_ite (fun q2 => ?_) (fun q2 => ?_)
        · rcases ex with ex | ⟨-, ex⟩
          · exact ex
          · exact absurd q2 ex
        · refine wp_bind (w_begin hN H' W' hd') ?_
          rintro _ m3 ⟨H3, f3⟩
          refine hX (99 - (i + 1)) _ _ (by omega) ⟨i + 1, by omega, rfl, rfl, H3, f'.trans (f3.mono (by decide)), fun j hj2 => ?_⟩
          by_cases e : j = i
          · subst e; exact q2
          · exact hj j (by omega)
    · rintro v m2 ⟨hv, H2, f2⟩
      have f12 : Fr [(3, 9), (92, 98), (111, 112)] m m2 := (f1.mono (by decide)).trans (f2.mono (by decide))
      have e124 : m2 124 = m 124 := f12.at 124 (by decide)
      unfold f_X12_tires
      simp only [li_0, li_1, li_2, li_3, li_4, li_5, li_6, li_7, li_8, li_9, li_10, li_11, li_12, li_13, li_14, li_15, li_16, li_17, li_18, li_19, li_20, li_21, li_22, li_23, li_24, li_25, li_26, li_27, li_28, li_29, li_30, li_31, li_32, li_37, li_38, li_39, li_40, li_41, li_42, li_43, li_44, li_45, li_46, li_47, li_48, li_49, li_50, li_57, li_59, li_60, li_61, li_62, li_63, li_64, li_65, li_69, li_81, li_89, li_90, li_92, li_97, li_99, li_100, li_101, li_103, li_104, li_105, li_106, li_108, li_111, li_112, li_113, li_114, li_115, li_116, li_117, li_119, li_122, li_123, li_124, li_125, li_126, li_127, li_128, li_129, li_130, li_131, li_132, li_133, li_134, li_135, li_136, li_137, li_140, li_141, li_142, li_143, li_145, li_147, li_150, li_153, li_159, li_160, li_161, li_162, li_185, li_197, li_213, li_222, li_223, li_255, li_256, li_257, li_258, li_259, li_260, li_261, li_262, li_263, li_264, li_271, li_272, li_273, li_274, li_275, li_276, li_277, li_278, li_300, li_400, li_420, li_500, li_802, li_820, li_823, li_839, li_855, li_871, li_887, li_999, li_1000, li_1001, li_1002, li_1003, li_1004, li_1005, li_1006, li_1007, li_1008, li_1009, li_1010, li_1011, li_1012, li_1013, li_1014, li_1015, li_1016, li_1017, li_1018, li_1019, li_1020, li_1021, li_1022, li_1023, li_1707, li_4096, li_9999, li_65536, li_100000, li_1000000, li_1664525, li_100000000, li_252645135, li_858993459, li_1000000007, li_1013904223, li_1431655765, li_m1]
      rw [e_isDeed e124 G.1, inb_nI hd (by omega), bd_s, if_neg (by decide)]
      refine wp_bind (w_layM hN) ?_
      rintro _ m3 ⟨h7, h26, j3, f3⟩
      have e3 : m3 124 = m 124 := (f3.at 124 (by decide)).trans e124
      refine wp_mono (Q := fun v m' => TirV LN d (m 124) v ∧ m' 124 = m 124 ∧ Fr [(124, 124), (132, 133)] m3 m') (wp_it1 (fun n x m' => ∃ i, i ≤ 100 ∧ n = 100 - i ∧ x = nI i ∧ m' 124 = tirS LN d (m 124) i ∧ Fr [(124, 124), (132, 133)] m3 m' ∧ ∀ j, j < i → ¬ nI 99 ≤ tirS LN d (m 124) j (21 + d)) ?_ N 100 _ _ (by omega)
        ⟨0, by omega, rfl, rfl, e3, Fr.rf, fun j hj => absurd hj (by omega)⟩) ?_
      · rintro n X x m' ⟨i, hi, rfl, rfl, h', f', hj⟩ hX
        obtain ⟨W', w', z', o'⟩ := ok i
        have back := w_pbM (N := N) (w := m 124) (m := m') hN (fun j hj => by rw [f'.at 127 (by decide), h7 j hj, e124]) (fun j hj => by rw [h']; exact o' j hj)
        unfold f_X12_tires_L16
        simp only [li_0, li_1, li_2, li_3, li_4, li_5, li_6, li_7, li_8, li_9, li_10, li_11, li_12, li_13, li_14, li_15, li_16, li_17, li_18, li_19, li_20, li_21, li_22, li_23, li_24, li_25, li_26, li_27, li_28, li_29, li_30, li_31, li_32, li_37, li_38, li_39, li_40, li_41, li_42, li_43, li_44, li_45, li_46, li_47, li_48, li_49, li_50, li_57, li_59, li_60, li_61, li_62, li_63, li_64, li_65, li_69, li_81, li_89, li_90, li_92, li_97, li_99, li_100, li_101, li_103, li_104, li_105, li_106, li_108, li_111, li_112, li_113, li_114, li_115, li_116, li_117, li_119, li_122, li_123, li_124, li_125, li_126, li_127, li_128, li_129, li_130, li_131, li_132, li_133, li_134, li_135, li_136, li_137, li_140, li_141, li_142, li_143, li_145, li_147, li_150, li_153, li_159, li_160, li_161, li_162, li_185, li_197, li_213, li_222, li_223, li_255, li_256, li_257, li_258, li_259, li_260, li_261, li_262, li_263, li_264, li_271, li_272, li_273, li_274, li_275, li_276, li_277, li_278, li_300, li_400, li_420, li_500, li_802, li_820, li_823, li_839, li_855, li_871, li_887, li_999, li_1000, li_1001, li_1002, li_1003, li_1004, li_1005, li_1006, li_1007, li_1008, li_1009, li_1010, li_1011, li_1012, li_1013, li_1014, li_1015, li_1016, li_1017, li_1018, li_1019, li_1020, li_1021, li_1022, li_1023, li_1707, li_4096, li_9999, li_65536, li_100000, li_1000000, li_1664525, li_100000000, li_252645135, li_858993459, li_1000000007, li_1013904223, li_1431655765, li_m1, nI_up, nI_add]
        refine wp_ite (fun q => ?_) (fun q => ?_)
        · rw [nI_ltI (by decide) (by omega)] at q
          refine wp_bind back ?_
          rintro _ m4 ⟨h5, f4⟩
          rw [if_neg (nI_ge (show 99 < i by omega) (by omega))]
          exact wp_ret ⟨Or.inr ⟨rfl, fun j hj2 => hj j (by omega)⟩, h5, f'.trans (f4.mono (by decide))⟩
        · rw [nI_ltI (by decide) (by omega)] at q
          rw [inb_nI (by omega) (by omega), chk_t, nI_clamp (by omega), h']
          refine wp_ite (fun q2 => ?_) (fun q2 => ?_)
          · refine wp_bind back ?_
            rintro _ m4 ⟨h5, f4⟩
            rw [if_pos (nI_le (by omega) (by omega))]
            exact wp_ret ⟨Or.inl ⟨i, by omega, rfl, q2, hj⟩, h5, f'.trans (f4.mono (by decide))⟩
          · refine wp_bind (w_beginM hN h' (by omega) w' H.lawk) ?_
            rintro _ m4 ⟨h5, f4⟩
            refine hX (100 - (i + 1)) _ _ (by omega) ⟨i + 1, by omega, rfl, rfl, h5, f'.trans f4, fun j hj2 => ?_⟩
            by_cases e : j = i
            · subst e; exact q2
            · exact hj j (by omega)
      · rintro v' m4 ⟨hv', h5, f4⟩
        refine ⟨hv.uni hv', hI.th (LN := LN) ?_ G ?_ h5 ?_ (fun j hj => ?_)⟩
        · exact (H2.fr G.1.sml f3 (by decide +kernel)).fr G.1.sml f4 (by decide +kernel)
        · exact (f12.mono (by decide)).trans ((f3.mono (by decide)).trans (f4.mono (by decide)))
        · rw [f4.at 113 (by decide), f3.at 113 (by decide), f12.at 113 (by decide)]
        · rw [f4.at 123 (by decide), j3 j (by omega), f12.at 123 (by decide)]
end CALM
