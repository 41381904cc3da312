/-! all tokens are taken -/
section SCAN
variable {N : Nat} {m m1 m' : Mem} {B : Nat → Nat} {n : Nat}
theorem BT.cg (h : BT m B n) (h1 : m' 99 = m 99) (h2 : m' 100 = m 100) : BT m' B n := by
  unfold BT at h ⊢
  rw [h1, h2]
  exact h
theorem BT.out (h : BT m B n) {i : Nat} (hi : chr B n i ≠ 256) : i < n := Nat.lt_of_not_le fun q => hi (chr_out q)
theorem isD_ne {c : Nat} (h : isD c = true) : c ≠ 256 := by
  rintro rfl
  exact absurd h (by decide)
theorem isL_ne {c : Nat} (h : isL c = true) : c ≠ 256 := by
  rintro rfl
  exact absurd h (by decide)
theorem isK_ne {c : Nat} (h : isK c = true) : c ≠ 256 := by
  rintro rfl
  exact absurd h (by decide)
theorem kT_dig {s : Nat} (h : isD (chr B n s) = true) : kT B n s = (if enT B n s - s ≤ 4 then 1 else 2) ∧ enT B n s = goo (fun i => isD (chr B n i)) s := by
  unfold kT
  rw [if_neg (isD_ne h), if_pos h]
  refine ⟨rfl, ?_⟩
  unfold enT
  rw [if_neg (isD_ne h), if_pos h]
theorem kT_let {s : Nat} (h0 : isD (chr B n s) = false) (h : isL (chr B n s) = true) : kT B n s = kwd (txt B n s (enT B n s)) ∧ enT B n s = goo (fun i => isL (chr B n i)) s := by
  unfold kT
  rw [if_neg (isL_ne h), if_neg (by rw [h0]; decide), if_pos h]
  refine ⟨rfl, ?_⟩
  unfold enT
  rw [if_neg (isL_ne h), if_neg (by rw [h0]; decide), if_pos h]
theorem kT_oth {s : Nat} (hc : chr B n s ≠ 256) (h0 : isD (chr B n s) = false) (h : isL (chr B n s) = false) : kT B n s = (if isS (chr B n s) = true then chr B n s else 2) ∧ enT B n s = s + 1 := by
  unfold kT
  rw [if_neg hc, if_neg (by rw [h0]; decide), if_neg (by rw [h]; decide)]
  refine ⟨rfl, ?_⟩
  unfold enT
  rw [if_neg hc, if_neg (by rw [h0]; decide), if_neg (by rw [h]; decide)]
/-- a row of tokens -/
def tkv (B : Nat → Nat) (n s : Nat) (m : Mem) (j : Nat) : Mem := madd m 101 3 j (nI (kT B n s)) (nI s) (vT B n s) (nI 0)
theorem w_takeNumber {s j : Nat} (hN : 20000 ≤ N) (hF : Fx m) (h : BT m B n) (hB : ∀ i, i < n → B i < 256) (hd : isD (chr B n s) = true) (hj : m 101 3 = nI j) (hj4 : j < 401) :
    Wp (f_X10_takeNumber N (nI s) m) (fun v m' => v = nI (enT B n s) ∧ m' = tkv B n s m j) := by
  have hs := h.out (isD_ne hd)
  have hn := h.2.1
  obtain ⟨hk, hE⟩ := kT_dig hd
  have hEn : enT B n s ≤ n := enT_le (by omega)
  have hEg : s ≤ enT B n s := by rw [hE]; exact goo_ge
  unfold f_X10_takeNumber
  simp only [li_0, li_1, li_2, li_3, li_4, li_5, li_6, li_7, li_8, li_9, li_10, li_11, li_12, li_13, li_14, li_15, li_16, li_17, li_18, li_19, li_20, li_21, li_22, li_23, li_24, li_25, li_26, li_27, li_28, li_29, li_30, li_31, li_32, li_37, li_38, li_39, li_40, li_41, li_42, li_43, li_44, li_45, li_46, li_47, li_48, li_49, li_50, li_57, li_59, li_60, li_61, li_62, li_63, li_64, li_65, li_69, li_81, li_89, li_90, li_92, li_97, li_99, li_100, li_101, li_103, li_104, li_105, li_106, li_108, li_111, li_112, li_113, li_114, li_115, li_116, li_117, li_119, li_122, li_123, li_124, li_125, li_126, li_127, li_128, li_129, li_130, li_131, li_132, li_133, li_134, li_135, li_136, li_137, li_140, li_141, li_142, li_143, li_145, li_147, li_150, li_153, li_159, li_160, li_161, li_162, li_185, li_197, li_213, li_222, li_223, li_255, li_256, li_257, li_258, li_259, li_260, li_261, li_262, li_263, li_264, li_271, li_272, li_273, li_274, li_275, li_276, li_277, li_278, li_300, li_400, li_420, li_500, li_802, li_820, li_823, li_839, li_855, li_871, li_887, li_999, li_1000, li_1001, li_1002, li_1003, li_1004, li_1005, li_1006, li_1007, li_1008, li_1009, li_1010, li_1011, li_1012, li_1013, li_1014, li_1015, li_1016, li_1017, li_1018, li_1019, li_1020, li_1021, li_1022, li_1023, li_1707, li_4096, li_9999, li_65536, li_100000, li_1000000, li_1664525, li_100000000, li_252645135, li_858993459, li_1000000007, li_1013904223, li_1431655765, li_m1]
  refine wp_it2 (fun k a c m' => ∃ t, k = n - (s + t) ∧ s + t ≤ n ∧ a = vIn B n s t ∧ c = nI (s + t) ∧ m' = m ∧ goo (fun i => isD (chr B n i)) (s + t) = enT B n s) ?_ N (n - s) _ _ _ (by omega) ⟨0, rfl, by omega, rfl, rfl, rfl, hE.symm⟩
  rintro k X a c m' ⟨t, rfl, ht, rfl, rfl, rfl, hG⟩ hX
  have fin : enT B n s = s + t → Wp (f_X10_takeNumber_J43 N (nI s) (vIn B n s t) (nI (s + t)) m') (fun v m'' => v = nI (enT B n s) ∧ m'' = tkv B n s m' j) := by
    intro e
    have ev : vT B n s = vIn B n s t := by
      unfold vT
      rw [if_pos hd, e, show s + t - s = t by omega]
    unfold f_X10_takeNumber_J43
    simp only [li_0, li_1, li_2, li_3, li_4, li_5, li_6, li_7, li_8, li_9, li_10, li_11, li_12, li_13, li_14, li_15, li_16, li_17, li_18, li_19, li_20, li_21, li_22, li_23, li_24, li_25, li_26, li_27, li_28, li_29, li_30, li_31, li_32, li_37, li_38, li_39, li_40, li_41, li_42, li_43, li_44, li_45, li_46, li_47, li_48, li_49, li_50, li_57, li_59, li_60, li_61, li_62, li_63, li_64, li_65, li_69, li_81, li_89, li_90, li_92, li_97, li_99, li_100, li_101, li_103, li_104, li_105, li_106, li_108, li_111, li_112, li_113, li_114, li_115, li_116, li_117, li_119, li_122, li_123, li_124, li_125, li_126, li_127, li_128, li_129, li_130, li_131, li_132, li_133, li_134, li_135, li_136, li_137, li_140, li_141, li_142, li_143, li_145, li_147, li_150, li_153, li_159, li_160, li_161, li_162, li_185, li_197, li_213, li_222, li_223, li_255, li_256, li_257, li_258, li_259, li_260, li_261, li_262, li_263, li_264, li_271, li_272, li_273, li_274, li_275, li_276, li_277, li_278, li_300, li_400, li_420, li_500, li_802, li_820, li_823, li_839, li_855, li_871, li_887, li_999, li_1000, li_1001, li_1002, li_1003, li_1004, li_1005, li_1006, li_1007, li_1008, li_1009, li_1010, li_1011, li_1012, li_1013, li_1014, li_1015, li_1016, li_1017, li_1018, li_1019, li_1020, li_1021, li_1022, li_1023, li_1707, li_4096, li_9999, li_65536, li_100000, li_1000000, li_1664525, li_100000000, li_252645135, li_858993459, li_1000000007, li_1013904223, li_1431655765, li_m1]
    rw [pk_sub (by omega), show s + t - s = t by omega]
    by_cases z : t ≤ 4
    · rw [if_neg (nI_nlt (by omega) (by omega)), e_add hN hF (t := 101) (most := 401) (wide := 3) (by decide) hj hj4, bd_s]
      refine wp_ret ⟨by rw [e], ?_⟩
      unfold tkv
      rw [hk, ev, e, show s + t - s = t by omega, if_pos z]
    · rw [if_pos (nI_lt (by omega) (by omega)), e_add hN hF (t := 101) (most := 401) (wide := 3) (by decide) hj hj4, bd_s]
      refine wp_ret ⟨by rw [e], ?_⟩
      unfold tkv
      rw [hk, ev, e, show s + t - s = t by omega, if_neg z]
  unfold f_X10_takeNumber_L4
  simp only [li_0, li_1, li_2, li_3, li_4, li_5, li_6, li_7, li_8, li_9, li_10, li_11, li_12, li_13, li_14, li_15, li_16, li_17, li_18, li_19, li_20, li_21, li_22, li_23, li_24, li_25, li_26, li_27, li_28, li_29, li_30, li_31, li_32, li_37, li_38, li_39, li_40, li_41, li_42, li_43, li_44, li_45, li_46, li_47, li_48, li_49, li_50, li_57, li_59, li_60, li_61, li_62, li_63, li_64, li_65, li_69, li_81, li_89, li_90, li_92, li_97, li_99, li_100, li_101, li_103, li_104, li_105, li_106, li_108, li_111, li_112, li_113, li_114, li_115, li_116, li_117, li_119, li_122, li_123, li_124, li_125, li_126, li_127, li_128, li_129, li_130, li_131, li_132, li_133, li_134, li_135, li_136, li_137, li_140, li_141, li_142, li_143, li_145, li_147, li_150, li_153, li_159, li_160, li_161, li_162, li_185, li_197, li_213, li_222, li_223, li_255, li_256, li_257, li_258, li_259, li_260, li_261, li_262, li_263, li_264, li_271, li_272, li_273, li_274, li_275, li_276, li_277, li_278, li_300, li_400, li_420, li_500, li_802, li_820, li_823, li_839, li_855, li_871, li_887, li_999, li_1000, li_1001, li_1002, li_1003, li_1004, li_1005, li_1006, li_1007, li_1008, li_1009, li_1010, li_1011, li_1012, li_1013, li_1014, li_1015, li_1016, li_1017, li_1018, li_1019, li_1020, li_1021, li_1022, li_1023, li_1707, li_4096, li_9999, li_65536, li_100000, li_1000000, li_1664525, li_100000000, li_252645135, li_858993459, li_1000000007, li_1013904223, li_1431655765, li_m1]
  rw [h.1]
  refine wp_ite (fun z => ?_) (fun z => ?_) <;> rw [nI_leI (by omega) (by omega)] at z
  · refine fin ?_
    rw [← hG, goo_n]
    rw [chr_out (by omega)]
    rfl
  · rw [e_byteAt h (by omega), bd_s, e_digit (chr_le hB), bd_s, if_b2i]
    cases q : isD (chr B n (s + t)) with
    | false =>
      rw [if_neg (by decide)]
      exact fin (by rw [← hG, goo_n (p := fun i => isD (chr B n i)) q])
    | true =>
      rw [if_pos rfl, e_byteAt h (by omega), bd_s, bnd_s, nI_up]
      refine hX (n - (s + (t + 1))) _ _ _ (by omega) ⟨t + 1, rfl, by omega, ?_, rfl, rfl, ?_⟩
      · show _ = vIn B n s t * nI 10 + nI (chr B n (s + t)) - nI 48
        rw [cI, if_neg (isD_ne q)]
      · rw [← hG, goo_s (p := fun i => isD (chr B n i)) q (by omega)]
        rfl
theorem w_takeT {s j : Nat} (hN : 20000 ≤ N) (hF : Fx m) (h : BT m B n) (hB : ∀ i, i < n → B i < 256) (hs : s < n) (hj : m 101 3 = nI j) (hj4 : j < 401) :
    Wp (f_X10_take N (nI s) m) (fun v m' => v = nI (enT B n s) ∧ m' = tkv B n s m j) := by
  have hn := h.2.1
  have hc : chr B n s ≠ 256 := by rw [chr_in hs]; have := hB s hs; omega
  unfold f_X10_take
  rw [e_byteAt h (by omega), bd_s, e_digit (chr_le hB), bd_s]
  simp only [li_0, li_1, li_2, li_3, li_4, li_5, li_6, li_7, li_8, li_9, li_10, li_11, li_12, li_13, li_14, li_15, li_16, li_17, li_18, li_19, li_20, li_21, li_22, li_23, li_24, li_25, li_26, li_27, li_28, li_29, li_30, li_31, li_32, li_37, li_38, li_39, li_40, li_41, li_42, li_43, li_44, li_45, li_46, li_47, li_48, li_49, li_50, li_57, li_59, li_60, li_61, li_62, li_63, li_64, li_65, li_69, li_81, li_89, li_90, li_92, li_97, li_99, li_100, li_101, li_103, li_104, li_105, li_106, li_108, li_111, li_112, li_113, li_114, li_115, li_116, li_117, li_119, li_122, li_123, li_124, li_125, li_126, li_127, li_128, li_129, li_130, li_131, li_132, li_133, li_134, li_135, li_136, li_137, li_140, li_141, li_142, li_143, li_145, li_147, li_150, li_153, li_159, li_160, li_161, li_162, li_185, li_197, li_213, li_222, li_223, li_255, li_256, li_257, li_258, li_259, li_260, li_261, li_262, li_263, li_264, li_271, li_272, li_273, li_274, li_275, li_276, li_277, li_278, li_300, li_400, li_420, li_500, li_802, li_820, li_823, li_839, li_855, li_871, li_887, li_999, li_1000, li_1001, li_1002, li_1003, li_1004, li_1005, li_1006, li_1007, li_1008, li_1009, li_1010, li_1011, li_1012, li_1013, li_1014, li_1015, li_1016, li_1017, li_1018, li_1019, li_1020, li_1021, li_1022, li_1023, li_1707, li_4096, li_9999, li_65536, li_100000, li_1000000, li_1664525, li_100000000, li_252645135, li_858993459, li_1000000007, li_1013904223, li_1431655765, li_m1]
  rw [if_b2i]
  cases q : isD (chr B n s) with
  | true =>
    rw [if_pos rfl]
    refine wp_bind (w_takeNumber hN hF h hB q hj hj4) ?_
    rintro _ m2 ⟨rfl, rfl⟩
    exact wp_ret ⟨rfl, rfl⟩
  | false =>
    have hv : vT B n s = nI 0 := by
      unfold vT
      rw [q, if_neg (by decide)]
    rw [if_neg (by decide), e_letter (chr_le hB), bd_s, if_b2i]
    cases q2 : isL (chr B n s) with
    | false =>
      obtain ⟨hk, hE⟩ := kT_oth hc q q2
      rw [if_neg (by decide), e_sign (chr_le hB), bd_s, if_b2i, cI, if_neg hc, nI_up]
      cases q3 : isS (chr B n s) with
      | false =>
        rw [if_neg (by decide), e_add hN hF (t := 101) (most := 401) (wide := 3) (by decide) hj hj4, bd_s]
        refine wp_ret ⟨by rw [hE], ?_⟩
        unfold tkv
        rw [hk, q3, if_neg (by decide), hv]
      | true =>
        rw [if_pos rfl, e_add hN hF (t := 101) (most := 401) (wide := 3) (by decide) hj hj4, bd_s]
        refine wp_ret ⟨by rw [hE], ?_⟩
        unfold tkv
        rw [hk, q3, if_pos rfl, hv]
    | true =>
      obtain ⟨hk, hE⟩ := kT_let q q2
      have hEn : enT B n s ≤ n := enT_le (by omega)
      rw [if_pos rfl]
      refine wp_it1 (fun k a m' => ∃ t, k = n - (s + t) ∧ s + t ≤ n ∧ a = nI (s + t) ∧ m' = m ∧ goo (fun i => isL (chr B n i)) (s + t) = enT B n s) ?_ N (n - s) _ _ (by omega) ⟨0, rfl, by omega, rfl, rfl, hE.symm⟩
      rintro k X a m' ⟨t, rfl, ht, rfl, rfl, hG⟩ hX
      have fin : enT B n s = s + t → Wp (f_X10_take_J80 N (nI s) (nI (s + t)) m') (fun v m'' => v = nI (enT B n s) ∧ m'' = tkv B n s m' j) := by
        intro e
        unfold f_X10_take_J80
        simp only [li_0, li_1, li_2, li_3, li_4, li_5, li_6, li_7, li_8, li_9, li_10, li_11, li_12, li_13, li_14, li_15, li_16, li_17, li_18, li_19, li_20, li_21, li_22, li_23, li_24, li_25, li_26, li_27, li_28, li_29, li_30, li_31, li_32, li_37, li_38, li_39, li_40, li_41, li_42, li_43, li_44, li_45, li_46, li_47, li_48, li_49, li_50, li_57, li_59, li_60, li_61, li_62, li_63, li_64, li_65, li_69, li_81, li_89, li_90, li_92, li_97, li_99, li_100, li_101, li_103, li_104, li_105, li_106, li_108, li_111, li_112, li_113, li_114, li_115, li_116, li_117, li_119, li_122, li_123, li_124, li_125, li_126, li_127, li_128, li_129, li_130, li_131, li_132, li_133, li_134, li_135, li_136, li_137, li_140, li_141, li_142, li_143, li_145, li_147, li_150, li_153, li_159, li_160, li_161, li_162, li_185, li_197, li_213, li_222, li_223, li_255, li_256, li_257, li_258, li_259, li_260, li_261, li_262, li_263, li_264, li_271, li_272, li_273, li_274, li_275, li_276, li_277, li_278, li_300, li_400, li_420, li_500, li_802, li_820, li_823, li_839, li_855, li_871, li_887, li_999, li_1000, li_1001, li_1002, li_1003, li_1004, li_1005, li_1006, li_1007, li_1008, li_1009, li_1010, li_1011, li_1012, li_1013, li_1014, li_1015, li_1016, li_1017, li_1018, li_1019, li_1020, li_1021, li_1022, li_1023, li_1707, li_4096, li_9999, li_65536, li_100000, li_1000000, li_1664525, li_100000000, li_252645135, li_858993459, li_1000000007, li_1013904223, li_1431655765, li_m1]
        rw [e_wordAt hN h hB (by omega) (by omega), bd_s, e_add hN hF (t := 101) (most := 401) (wide := 3) (by decide) hj hj4, bd_s]
        refine wp_ret ⟨by rw [e], ?_⟩
        unfold tkv
        rw [hk, hv, e]
      unfold f_X10_take_L55
      simp only [li_0, li_1, li_2, li_3, li_4, li_5, li_6, li_7, li_8, li_9, li_10, li_11, li_12, li_13, li_14, li_15, li_16, li_17, li_18, li_19, li_20, li_21, li_22, li_23, li_24, li_25, li_26, li_27, li_28, li_29, li_30, li_31, li_32, li_37, li_38, li_39, li_40, li_41, li_42, li_43, li_44, li_45, li_46, li_47, li_48, li_49, li_50, li_57, li_59, li_60, li_61, li_62, li_63, li_64, li_65, li_69, li_81, li_89, li_90, li_92, li_97, li_99, li_100, li_101, li_103, li_104, li_105, li_106, li_108, li_111, li_112, li_113, li_114, li_115, li_116, li_117, li_119, li_122, li_123, li_124, li_125, li_126, li_127, li_128, li_129, li_130, li_131, li_132, li_133, li_134, li_135, li_136, li_137, li_140, li_141, li_142, li_143, li_145, li_147, li_150, li_153, li_159, li_160, li_161, li_162, li_185, li_197, li_213, li_222, li_223, li_255, li_256, li_257, li_258, li_259, li_260, li_261, li_262, li_263, li_264, li_271, li_272, li_273, li_274, li_275, li_276, li_277, li_278, li_300, li_400, li_420, li_500, li_802, li_820, li_823, li_839, li_855, li_871, li_887, li_999, li_1000, li_1001, li_1002, li_1003, li_1004, li_1005, li_1006, li_1007, li_1008, li_1009, li_1010, li_1011, li_1012, li_1013, li_1014, li_1015, li_1016, li_1017, li_1018, li_1019, li_1020, li_1021, li_1022, li_1023, li_1707, li_4096, li_9999, li_65536, li_100000, li_1000000, li_1664525, li_100000000, li_252645135, li_858993459, li_1000000007, li_1013904223, li_1431655765, li_m1]
      rw [h.1]
      refine wp_ite (fun z => ?_) (fun z => ?_) <;> rw [nI_leI (by omega) (by omega)] at z
      · refine fin ?_
        rw [← hG, goo_n]
        rw [chr_out (by omega)]
        rfl
      · rw [e_byteAt h (by omega), bd_s, e_letter (chr_le hB), bd_s, if_b2i]
        cases q4 : isL (chr B n (s + t)) with
        | false =>
          rw [if_neg (by decide)]
          exact fin (by rw [← hG, goo_n (p := fun i => isL (chr B n i)) q4])
        | true =>
          rw [if_pos rfl, nI_up]
          refine hX (n - (s + (t + 1))) _ _ (by omega) ⟨t + 1, rfl, by omega, rfl, rfl, ?_⟩
          rw [← hG, goo_s (p := fun i => isL (chr B n i)) q4 (by omega)]
          rfl
/-- the class's tokens: rows 0 to k - 1 -/
def TkR (B : Nat → Nat) (n : Nat) (m : Mem) (k : Nat) : Prop := m 101 3 = nI k ∧ ∀ r, r < k → m 102 (r * 3 + 0) = nI (kT B n (psT B n r)) ∧ m 102 (r * 3 + 1) = nI (psT B n r) ∧ m 102 (r * 3 + 2) = vT B n (psT B n r)
theorem mrow_in {t p k j : Nat} {a b c d : Int32} (h : p ≤ j ∧ j < p + k) : mrow m t p k a b c d (t + 1) j = rowv a b c d (j - p) := if_pos ⟨rfl, h⟩
theorem mrow_n {t p k j : Nat} {a b c d : Int32} (h : ¬ (p ≤ j ∧ j < p + k)) : mrow m t p k a b c d (t + 1) j = m (t + 1) j := if_neg (fun q => h q.2)
theorem TkR.add {k : Nat} (h : TkR B n m k) : TkR B n (tkv B n (psT B n k) m k) (k + 1) := by
  obtain ⟨h1, h2⟩ := h
  refine ⟨(by unfold tkv madd; exact mset_at _ _ _ _), fun r hr => ?_⟩
  unfold tkv madd
  rw [mset_k (by decide), mset_k (by decide), mset_k (by decide)]
  by_cases e : r = k
  · subst e
    rw [mrow_in (t := 101) (by omega), mrow_in (t := 101) (by omega), mrow_in (t := 101) (by omega), show r * 3 + 0 - r * 3 = 0 by omega, show r * 3 + 1 - r * 3 = 1 by omega, show r * 3 + 2 - r * 3 = 2 by omega]
    exact ⟨rfl, rfl, rfl⟩
  · rw [mrow_n (t := 101) (by omega), mrow_n (t := 101) (by omega), mrow_n (t := 101) (by omega)]
    exact h2 r (by omega)
theorem tkv_fr {s j : Nat} : Fr [(101, 102)] m (tkv B n s m j) := by
  intro k hk
  have := hk (101, 102) (by simp)
  simp only at this
  unfold tkv madd
  rw [mset_ne (by omega)]
  funext i
  exact mrow_o (by omega)
/-- the token looked at is the j-th -/
def CT (B : Nat → Nat) (n M : Nat) (j : Nat) (m : Mem) : Prop := BT m B n ∧ TkR B n m (M + 1) ∧ m 99 6 = nI j ∧ m 99 3 = nI (kT B n (psT B n j)) ∧ m 99 4 = nI (psT B n j) ∧ m 99 5 = vT B n (psT B n j)
theorem w_nextC {M j : Nat} {x : Int32} (hF : Fx m) (hM : M ≤ 400) (h : BT m B n) (hT : TkR B n m (M + 1)) (h6 : m 99 6 + nI 1 = nI j) (hj : j ≤ M) : Wp (f_X10_next N m) (fun _ m' => CT B n M j m' ∧ Fr [(99, 99)] m m' ∧ Fx m') := by
  obtain ⟨h1, h2⟩ := hT
  have hF1 : ∀ {m0 : Mem} {i : Nat} {v : Int32}, Fx m0 → Fx (mset m0 99 i v) := fun hx => hx.out (by decide)
  unfold f_X10_next
  simp only [li_0, li_1, li_2, li_3, li_4, li_5, li_6, li_7, li_8, li_9, li_10, li_11, li_12, li_13, li_14, li_15, li_16, li_17, li_18, li_19, li_20, li_21, li_22, li_23, li_24, li_25, li_26, li_27, li_28, li_29, li_30, li_31, li_32, li_37, li_38, li_39, li_40, li_41, li_42, li_43, li_44, li_45, li_46, li_47, li_48, li_49, li_50, li_57, li_59, li_60, li_61, li_62, li_63, li_64, li_65, li_69, li_81, li_89, li_90, li_92, li_97, li_99, li_100, li_101, li_103, li_104, li_105, li_106, li_108, li_111, li_112, li_113, li_114, li_115, li_116, li_117, li_119, li_122, li_123, li_124, li_125, li_126, li_127, li_128, li_129, li_130, li_131, li_132, li_133, li_134, li_135, li_136, li_137, li_140, li_141, li_142, li_143, li_145, li_147, li_150, li_153, li_159, li_160, li_161, li_162, li_185, li_197, li_213, li_222, li_223, li_255, li_256, li_257, li_258, li_259, li_260, li_261, li_262, li_263, li_264, li_271, li_272, li_273, li_274, li_275, li_276, li_277, li_278, li_300, li_400, li_420, li_500, li_802, li_820, li_823, li_839, li_855, li_871, li_887, li_999, li_1000, li_1001, li_1002, li_1003, li_1004, li_1005, li_1006, li_1007, li_1008, li_1009, li_1010, li_1011, li_1012, li_1013, li_1014, li_1015, li_1016, li_1017, li_1018, li_1019, li_1020, li_1021, li_1022, li_1023, li_1707, li_4096, li_9999, li_65536, li_100000, li_1000000, li_1664525, li_100000000, li_252645135, li_858993459, li_1000000007, li_1013904223, li_1431655765, li_m1]
  rw [h6, bnd_s, mset_at, e_at (hF1 hF) (t := 101) (most := 401) (wide := 3) (by decide) (by rw [mset_k (by decide)]; exact h1) (by omega) (by omega) (by omega), bd_s, bnd_s]
  rw [mset_j (by decide), mset_at, e_at (hF1 (hF1 hF)) (t := 101) (most := 401) (wide := 3) (by decide) (by rw [mset_k (by decide), mset_k (by decide)]; exact h1) (by omega) (by omega) (by omega), bd_s, bnd_s]
  rw [mset_j (by decide), mset_j (by decide), mset_at, e_at (hF1 (hF1 (hF1 hF))) (t := 101) (most := 401) (wide := 3) (by decide) (by rw [mset_k (by decide), mset_k (by decide), mset_k (by decide)]; exact h1) (by omega) (by omega) (by omega), bd_s, bnd_s]
  obtain ⟨g1, g2, g3⟩ := h2 j (by omega)
  refine wp_ret ⟨⟨?_, ⟨?_, fun r hr => ?_⟩, ?_, ?_, ?_, ?_⟩, ?_, hF1 (hF1 (hF1 (hF1 hF)))⟩
  · obtain ⟨b1, b2, b3, b4⟩ := h
    refine ⟨?_, b2, fun i hi => ?_, b4⟩
    · rw [mset_j (by decide), mset_j (by decide), mset_j (by decide), mset_j (by decide)]; exact b1
    · rw [mset_k (by decide), mset_k (by decide), mset_k (by decide), mset_k (by decide)]; exact b3 i hi
  · rw [mset_k (by decide), mset_k (by decide), mset_k (by decide), mset_k (by decide)]; exact h1
  · rw [mset_ne (by decide), mset_ne (by decide), mset_ne (by decide), mset_ne (by decide)]; exact h2 r hr
  · rw [mset_j (by decide), mset_j (by decide), mset_j (by decide), mset_at]
  · rw [mset_j (by decide), mset_j (by decide), mset_at, mset_k (by decide), g1]
  · rw [mset_j (by decide), mset_at, mset_k (by decide), mset_k (by decide), g2]
  · rw [mset_at, mset_k (by decide), mset_k (by decide), mset_k (by decide), g3]
  · exact Fr.set (Fr.set (Fr.set (Fr.set Fr.rf (by decide)) (by decide)) (by decide)) (by decide)
theorem CT.nx {M j : Nat} (h : CT B n M j m) (hM : M ≤ 400) (hF : Fx m) (hj : j < M) : Wp (f_X10_next N m) (fun _ m' => CT B n M (j + 1) m' ∧ Fr [(99, 99)] m m' ∧ Fx m') := by
  obtain ⟨h1, h2, h3, h4, h5⟩ := h
  exact w_nextC (x := 0) hF hM h1 h2 (by rw [h3, nI_up]) (by omega)
/-- how many tokens there are -/
def Mt (B : Nat → Nat) (n M : Nat) : Prop := M ≤ 400 ∧ kT B n (psT B n M) = 0 ∧ (∀ i, i < M → kT B n (psT B n i) ≠ 0) ∧ psT B n M = n
theorem w_scan (hN : 20000 ≤ N) (hF : Fx m) (h : BT m B n) : Wp (f_X10_scan N m) (fun _ m' => ∃ M, Mt B n M ∧ CT B n M 0 m' ∧ Fr [(99, 99), (101, 102)] m m' ∧ Fx m') := by
  have hB := h.2.2.2
  have hn := h.2.1
  unfold f_X10_scan
  simp only [li_0, li_1, li_2, li_3, li_4, li_5, li_6, li_7, li_8, li_9, li_10, li_11, li_12, li_13, li_14, li_15, li_16, li_17, li_18, li_19, li_20, li_21, li_22, li_23, li_24, li_25, li_26, li_27, li_28, li_29, li_30, li_31, li_32, li_37, li_38, li_39, li_40, li_41, li_42, li_43, li_44, li_45, li_46, li_47, li_48, li_49, li_50, li_57, li_59, li_60, li_61, li_62, li_63, li_64, li_65, li_69, li_81, li_89, li_90, li_92, li_97, li_99, li_100, li_101, li_103, li_104, li_105, li_106, li_108, li_111, li_112, li_113, li_114, li_115, li_116, li_117, li_119, li_122, li_123, li_124, li_125, li_126, li_127, li_128, li_129, li_130, li_131, li_132, li_133, li_134, li_135, li_136, li_137, li_140, li_141, li_142, li_143, li_145, li_147, li_150, li_153, li_159, li_160, li_161, li_162, li_185, li_197, li_213, li_222, li_223, li_255, li_256, li_257, li_258, li_259, li_260, li_261, li_262, li_263, li_264, li_271, li_272, li_273, li_274, li_275, li_276, li_277, li_278, li_300, li_400, li_420, li_500, li_802, li_820, li_823, li_839, li_855, li_871, li_887, li_999, li_1000, li_1001, li_1002, li_1003, li_1004, li_1005, li_1006, li_1007, li_1008, li_1009, li_1010, li_1011, li_1012, li_1013, li_1014, li_1015, li_1016, li_1017, li_1018, li_1019, li_1020, li_1021, li_1022, li_1023, li_1707, li_4096, li_9999, li_65536, li_100000, li_1000000, li_1664525, li_100000000, li_252645135, li_858993459, li_1000000007, li_1013904223, li_1431655765, li_m1]
  rw [bnd_s]
  have hF0 : Fx (mset m 101 3 (nI 0)) := hF.set (by decide)
  refine wp_it2 (fun k a c m' => ∃ p j q, k = n - p ∧ p ≤ n ∧ a = nI p ∧ c = nI q ∧ q ≤ p ∧ stT B n p = psT B n j ∧ (∀ i, i < j → kT B n (psT B n i) ≠ 0) ∧ TkR B n m' j ∧ Fr [(101, 102)] m m' ∧ Fx m') ?_ N n _ _ _ (by omega)
    ⟨0, 0, 0, rfl, by omega, rfl, rfl, by omega, rfl, fun i hi => absurd hi (by omega), ⟨mset_at _ _ _ _, fun r hr => absurd hr (by omega)⟩, Fr.set Fr.rf (by decide), hF0⟩
  rintro k X a c m1 ⟨p, j, q, rfl, hp, rfl, rfl, hq, hst, hK, hT, hf, hF1⟩ hX
  have hj : j ≤ psT B n j := psT_ge hn j hK
  have hjn : psT B n j ≤ n := psT_le j
  have h1 : BT m1 B n := h.cg (hf.at 99 (by decide)) (hf.at 100 (by decide))
  unfold f_X10_scan_L12
  simp only [li_0, li_1, li_2, li_3, li_4, li_5, li_6, li_7, li_8, li_9, li_10, li_11, li_12, li_13, li_14, li_15, li_16, li_17, li_18, li_19, li_20, li_21, li_22, li_23, li_24, li_25, li_26, li_27, li_28, li_29, li_30, li_31, li_32, li_37, li_38, li_39, li_40, li_41, li_42, li_43, li_44, li_45, li_46, li_47, li_48, li_49, li_50, li_57, li_59, li_60, li_61, li_62, li_63, li_64, li_65, li_69, li_81, li_89, li_90, li_92, li_97, li_99, li_100, li_101, li_103, li_104, li_105, li_106, li_108, li_111, li_112, li_113, li_114, li_115, li_116, li_117, li_119, li_122, li_123, li_124, li_125, li_126, li_127, li_128, li_129, li_130, li_131, li_132, li_133, li_134, li_135, li_136, li_137, li_140, li_141, li_142, li_143, li_145, li_147, li_150, li_153, li_159, li_160, li_161, li_162, li_185, li_197, li_213, li_222, li_223, li_255, li_256, li_257, li_258, li_259, li_260, li_261, li_262, li_263, li_264, li_271, li_272, li_273, li_274, li_275, li_276, li_277, li_278, li_300, li_400, li_420, li_500, li_802, li_820, li_823, li_839, li_855, li_871, li_887, li_999, li_1000, li_1001, li_1002, li_1003, li_1004, li_1005, li_1006, li_1007, li_1008, li_1009, li_1010, li_1011, li_1012, li_1013, li_1014, li_1015, li_1016, li_1017, li_1018, li_1019, li_1020, li_1021, li_1022, li_1023, li_1707, li_4096, li_9999, li_65536, li_100000, li_1000000, li_1664525, li_100000000, li_252645135, li_858993459, li_1000000007, li_1013904223, li_1431655765, li_m1]
  rw [h1.1]
  by_cases hpn : p = n
  · subst hpn
    have e0 : psT B p j = p := by
      rw [← hst]
      exact goo_n (by rw [chr_out (Nat.le_refl _)]; rfl)
    have fin : Wp (f_X10_scan_J56 N m1) (fun _ m' => ∃ M, Mt B p M ∧ CT B p M 0 m' ∧ Fr [(99, 99), (101, 102)] m m' ∧ Fx m') := by
      have k0 : kT B p (psT B p j) = 0 := kT_end (by rw [e0]; exact chr_out (Nat.le_refl _))
      have v0 : vT B p (psT B p j) = nI 0 := by
        unfold vT
        rw [e0, chr_out (Nat.le_refl _)]
        rfl
      unfold f_X10_scan_J56
      simp only [li_0, li_1, li_2, li_3, li_4, li_5, li_6, li_7, li_8, li_9, li_10, li_11, li_12, li_13, li_14, li_15, li_16, li_17, li_18, li_19, li_20, li_21, li_22, li_23, li_24, li_25, li_26, li_27, li_28, li_29, li_30, li_31, li_32, li_37, li_38, li_39, li_40, li_41, li_42, li_43, li_44, li_45, li_46, li_47, li_48, li_49, li_50, li_57, li_59, li_60, li_61, li_62, li_63, li_64, li_65, li_69, li_81, li_89, li_90, li_92, li_97, li_99, li_100, li_101, li_103, li_104, li_105, li_106, li_108, li_111, li_112, li_113, li_114, li_115, li_116, li_117, li_119, li_122, li_123, li_124, li_125, li_126, li_127, li_128, li_129, li_130, li_131, li_132, li_133, li_134, li_135, li_136, li_137, li_140, li_141, li_142, li_143, li_145, li_147, li_150, li_153, li_159, li_160, li_161, li_162, li_185, li_197, li_213, li_222, li_223, li_255, li_256, li_257, li_258, li_259, li_260, li_261, li_262, li_263, li_264, li_271, li_272, li_273, li_274, li_275, li_276, li_277, li_278, li_300, li_400, li_420, li_500, li_802, li_820, li_823, li_839, li_855, li_871, li_887, li_999, li_1000, li_1001, li_1002, li_1003, li_1004, li_1005, li_1006, li_1007, li_1008, li_1009, li_1010, li_1011, li_1012, li_1013, li_1014, li_1015, li_1016, li_1017, li_1018, li_1019, li_1020, li_1021, li_1022, li_1023, li_1707, li_4096, li_9999, li_65536, li_100000, li_1000000, li_1664525, li_100000000, li_252645135, li_858993459, li_1000000007, li_1013904223, li_1431655765, li_m1]
      rw [h1.1, e_add hN hF1 (t := 101) (most := 401) (wide := 3) (by decide) hT.1 (by omega), bd_s, bnd_s]
      have e1 : madd m1 101 3 j (nI 0) (nI p) (nI 0) (nI 0) = tkv B p (psT B p j) m1 j := by
        unfold tkv
        rw [k0, v0, e0]
      rw [e1]
      have hT2 := hT.add
      have hf2 : Fr [(101, 102)] m1 (tkv B p (psT B p j) m1 j) := tkv_fr
      have hF2 : Fx (tkv B p (psT B p j) m1 j) := hF1.add (t := 101) (most := 401) (by decide)
      refine wp_bind (w_nextC (x := 0) (B := B) (n := p) (M := j) (j := 0) (hF2.out (by decide)) (by omega) ?_ ?_ ?_ (by omega)) ?_
      · refine (h1.cg (hf2.at 99 (by decide)) (hf2.at 100 (by decide))).imp ?_ (fun z => z)
        intro z
        rw [mset_j (by decide)]
        exact z
      · obtain ⟨t1, t2⟩ := hT2
        exact ⟨by rw [mset_k (by decide)]; exact t1, fun r hr => by rw [mset_ne (by decide)]; exact t2 r hr⟩
      · rw [mset_at]; decide
      · rintro v m3 ⟨c1, c2, c3⟩
        exact wp_ret ⟨j, ⟨by omega, k0, hK, e0⟩, c1, (hf.trans hf2).mono (by decide) |>.trans ((Fr.set Fr.rf (by decide)).trans (c2.mono (by decide))), c3⟩
    by_cases h400 : 400 ≤ q
    · rw [if_pos (nI_le (by omega) (by omega))]; exact fin
    · rw [if_neg (nI_ge (by omega) (by omega)), if_pos (nI_le (by omega) (by omega))]; exact fin
  · rw [if_neg (nI_ge (by omega) (by omega)), if_neg (nI_ge (by omega) (by omega)), e_byteAt h1 (by omega), bd_s, e_blank (chr_le hB), bd_s, if_b2i]
    cases qk : isK (chr B n p) with
    | true =>
      rw [if_pos rfl, nI_up, bnd_s, nI_up]
      refine hX (n - (p + 1)) _ _ _ (by omega) ⟨p + 1, j, q + 1, rfl, by omega, rfl, rfl, by omega, ?_, hK, hT, hf, hF1⟩
      rw [← hst]
      unfold stT
      exact (goo_s (p := fun i => isK (chr B n i)) qk (by omega)).symm
    | false =>
      have ep : psT B n j = p := by
        rw [← hst]
        exact goo_n qk
      have hc : chr B n p ≠ 256 := by rw [chr_in (by omega)]; have := hB p (by omega); omega
      have hg := enT_gt hn hc
      have hl : enT B n p ≤ n := enT_le (by omega)
      rw [if_neg (by decide)]
      refine wp_bind (w_takeT hN hF1 h1 hB (by omega) hT.1 (by omega)) ?_
      rintro _ m2 ⟨rfl, rfl⟩
      rw [nI_up]
      refine hX (n - enT B n p) _ _ _ (by omega) ⟨enT B n p, j + 1, q + 1, rfl, hl, rfl, rfl, by omega, ?_, ?_, ?_, hf.trans tkv_fr, hF1.add (t := 101) (most := 401) (by decide)⟩
      · show _ = stT B n (enT B n (psT B n j))
        rw [ep]
      · intro i hi
        by_cases e : i = j
        · subst e
          rw [ep]
          exact fun z => hc (kT_0 z)
        · exact hK i (by omega)
      · have := hT.add
        rw [ep] at this
        exact this
end SCAN
