/-! THE STATUTE now, who is there, hands: on both sides -/
theorem modpow_on {x i : Nat} (h : x.testBit i = true) : x % 2 ^ i ||| 2 ^ i = x % 2 ^ (i + 1) := by
  apply Nat.eq_of_testBit_eq
  intro j
  rw [Nat.testBit_or, Nat.testBit_mod_two_pow, Nat.testBit_mod_two_pow, Nat.testBit_two_pow]
  by_cases e : i = j
  · subst e; simp [h]
  · by_cases h2 : j < i
    · simp [h2, e, show j < i + 1 by omega]
    · simp [h2, e, show ¬ j < i + 1 by omega]
theorem modpow_off {x i : Nat} (h : x.testBit i = false) : x % 2 ^ i = x % 2 ^ (i + 1) := by
  apply Nat.eq_of_testBit_eq
  intro j
  rw [Nat.testBit_mod_two_pow, Nat.testBit_mod_two_pow]
  by_cases e : j = i
  · subst e; simp [h]
  · by_cases h2 : j < i
    · simp [h2, show j < i + 1 by omega]
    · simp [h2, show ¬ j < i + 1 by omega]
section WFX
variable {w : Arr} {LN : List Lin} {m : Mem} {N : Nat}
theorem WFc.h37 (W0 : WFc w) : w 37 = nI (zh w) := W0.1.eq (by decide)
theorem WFc.h38 (W0 : WFc w) : w 38 = nI (zd w) := W0.2.1.eq (by decide)
theorem WFc.h6 (W0 : WFc w) : w 6 = nI (zb w) := W0.2.2.1.eq (by decide)
theorem WFc.h41 (W0 : WFc w) : w 41 = nI (zs w) := W0.2.2.2.1.eq (by decide)
theorem WFc.h42 (W0 : WFc w) : w 42 = nI (zp w) := W0.2.2.2.2.1.eq (by decide)
theorem WFc.h44 (W0 : WFc w) : w 44 = nI (zq w) := W0.2.2.2.2.2.2.1.eq (by decide)
theorem pow_pos' (n : Nat) : 0 < 2 ^ n := Nat.pow_pos (by decide)
theorem WFc.p12 (W0 : WFc w) : 2 ^ zh w ≤ 4096 := pow_le31 W0.sml.1
theorem WFc.lzh (W0 : WFc w) : zh w ≤ 12 := W0.sml.1
theorem WFc.lzd (W0 : WFc w) : zd w ≤ 8 := W0.sml.2.1
theorem WFc.lzb (W0 : WFc w) : zb w ≤ 150 := W0.sml.2.2.1
theorem WFc.lzs (W0 : WFc w) : zs w ≤ 16 := W0.sml.2.2.2.1
theorem WFc.lzp (W0 : WFc w) : zp w ≤ 16 := W0.sml.2.2.2.2.1
theorem WFc.lzq (W0 : WFc w) : zq w ≤ 8 := W0.sml.2.2.2.2.2
theorem WFc.h7 (W0 : WFc w) : w 7 = nI (zt w) ∧ zt w < 2 ^ zh w := by
  have := W0.p12
  have p := pow_pos' (zh w)
  have h := W0.2.2.2.2.2.2.2.1
  exact ⟨h.eq (by omega), by have := h.le (by omega); unfold zt; omega⟩
theorem WFc.h8 (W0 : WFc w) : w 8 = nI (zv w) ∧ zv w < 2 ^ zh w := by
  have := W0.p12
  have p := pow_pos' (zh w)
  have h := W0.2.2.2.2.2.2.2.2.1
  exact ⟨h.eq (by omega), by have := h.le (by omega); unfold zv; omega⟩
theorem WFc.hea (W0 : WFc w) {h : Nat} (hh : h < zh w) : isn (w (45 + h)) 9 ∧ isn (w (57 + h)) 9 ∧ isn (w (69 + h)) 9 ∧ isn (w (9 + h)) 99 ∧ isn (w (185 + h)) (2 ^ zh w - 1) := W0.2.2.2.2.2.2.2.2.2.1 h hh
theorem WFc.be0 (W0 : WFc w) {h : Nat} (hh : h < 12) (h2 : zh w ≤ h) : w (185 + h) = nI 0 := W0.2.2.2.2.2.2.2.2.2.2.1 h hh h2
theorem WFc.dee (W0 : WFc w) {d : Nat} (hd : d < zd w) : isn (w (81 + d)) 9 ∧ ∃ k, 1 ≤ k ∧ k ≤ 60 ∧ w (89 + d) = nI k := W0.2.2.2.2.2.2.2.2.2.2.2.1 d hd
theorem WFc.sta (W0 : WFc w) {i : Nat} (hi : i < zs w) : (∃ k, 7 ≤ k ∧ k ≤ 10 ∧ w (105 + 3 * i) = nI k ∧ (k = 7 → ∃ a, 1 ≤ a ∧ a ≤ 99 ∧ w (105 + 3 * i + 1) = nI a) ∧ (k = 8 → isn (w (105 + 3 * i + 1)) 20) ∧ (k = 9 → ∃ a, a < zh w ∧ w (105 + 3 * i + 1) = nI a) ∧ (k = 10 → isn (w (105 + 3 * i + 1)) 9999)) ∧ isn (w (105 + 3 * i + 2)) 9999 := W0.2.2.2.2.2.2.2.2.2.2.2.2.1 i hi
theorem WFc.pro (W0 : WFc w) {i : Nat} (hi : i < zp w) : isn (w (153 + 2 * i)) 9999 ∧ ∃ d, d < zd w ∧ w (153 + 2 * i + 1) = nI d := W0.2.2.2.2.2.2.2.2.2.2.2.2.2.1 i hi
theorem WFc.mea (W0 : WFc w) {v : Nat} (hv : v < 10) : isn (w (213 + v)) 9 := W0.2.2.2.2.2.2.2.2.2.2.2.2.2.2.1 v hv
theorem WFc.cla (W0 : WFc w) {i : Nat} (hi : i < zq w) : isn (w (197 + 2 * i)) (2 ^ zh w - 1) ∧ isn (w (197 + 2 * i + 1)) 12 := W0.2.2.2.2.2.2.2.2.2.2.2.2.2.2.2 i hi
/-- the seats beside a HEARER, as a set -/
def zn (w : Arr) (h : Nat) : Nat := nv (w (185 + h))
theorem WFc.zn (W0 : WFc w) {h : Nat} (hh : h < zh w) : w (185 + h) = nI (zn w h) ∧ zn w h < 2 ^ zh w := by
  have := W0.p12
  have p := pow_pos' (zh w)
  have q := (W0.hea hh).2.2.2.2
  exact ⟨q.eq (by omega), by have := q.le (by omega); unfold Jvm.Pilot.CEncoresLaw_law_r7064_45588f.zn; omega⟩
theorem mod_all {x n : Nat} (h : x < 2 ^ n) : x % 2 ^ n = x := Nat.mod_eq_of_lt h
theorem e_those3 (hN : 20000 ≤ N) (H : HRep 2 LN w m) (W0 : WFc w) : f_X1_those N (nI 3) m = some (nI (zt w), m) := by
  have s := W0.lzh
  have p := W0.p12
  have q := W0.h7.2
  refine Wp.toEq ?_
  unfold f_X1_those
  refine wp_it2 (fun n a c m' => ∃ i, i ≤ zh w ∧ n = zh w - i ∧ a = nI (zt w % 2 ^ i) ∧ c = nI i ∧ m' = m) ?_ N (zh w) _ _ _ (by omega) ⟨0, by omega, rfl, by rw [Nat.pow_zero, Nat.mod_one]; rfl, rfl, rfl⟩
  rintro n X a c m' ⟨i, hi, rfl, rfl, rfl, rfl⟩ hX
  unfold f_X1_those_L4
  simp only [li_0, li_1, li_2, li_3, li_4, li_5, li_6, li_7, li_8, li_9, li_10, li_11, li_12, li_13, li_14, li_15, li_16, li_17, li_18, li_19, li_20, li_21, li_22, li_23, li_24, li_25, li_26, li_27, li_28, li_29, li_30, li_31, li_32, li_37, li_38, li_39, li_40, li_41, li_42, li_43, li_44, li_45, li_46, li_47, li_48, li_49, li_50, li_57, li_59, li_60, li_61, li_62, li_63, li_64, li_65, li_69, li_81, li_89, li_90, li_92, li_97, li_99, li_100, li_101, li_103, li_104, li_105, li_106, li_108, li_111, li_112, li_113, li_114, li_115, li_116, li_117, li_119, li_122, li_123, li_124, li_125, li_126, li_127, li_128, li_129, li_130, li_131, li_132, li_133, li_134, li_135, li_136, li_137, li_140, li_141, li_142, li_143, li_145, li_147, li_150, li_153, li_159, li_160, li_161, li_162, li_185, li_197, li_213, li_222, li_223, li_255, li_256, li_257, li_258, li_259, li_260, li_261, li_262, li_263, li_264, li_271, li_272, li_273, li_274, li_275, li_276, li_277, li_278, li_300, li_400, li_420, li_500, li_802, li_820, li_823, li_839, li_855, li_871, li_887, li_999, li_1000, li_1001, li_1002, li_1003, li_1004, li_1005, li_1006, li_1007, li_1008, li_1009, li_1010, li_1011, li_1012, li_1013, li_1014, li_1015, li_1016, li_1017, li_1018, li_1019, li_1020, li_1021, li_1022, li_1023, li_1707, li_4096, li_9999, li_65536, li_100000, li_1000000, li_1664525, li_100000000, li_252645135, li_858993459, li_1000000007, li_1013904223, li_1431655765, li_m1]
  rw [H.hea.1, W0.h37]
  refine wp_ite (fun q => ?_) (fun q => ?_)
  · rw [nI_leI (by omega) (by omega)] at q
    have : i = zh w := by omega
    subst this
    exact wp_ret ⟨by rw [mod_all W0.h7.2], rfl⟩
  · rw [nI_leI (by omega) (by omega)] at q
    rw [hr_hea H W0 (by omega) (by decide), bd_s, show heaV w i 3 = b2i ((zt w).testBit i) from rfl]
    cases hb : (zt w).testBit i with
    | true =>
      rw [if_pos (by decide), bnd_s, nz_one (by omega), nz_or, nI_up, modpow_on hb]
      exact hX (zh w - (i + 1)) _ _ _ (by omega) ⟨i + 1, by omega, rfl, rfl, rfl, rfl⟩
    | false =>
      rw [if_neg (by decide), nI_up, modpow_off hb]
      exact hX (zh w - (i + 1)) _ _ _ (by omega) ⟨i + 1, by omega, rfl, rfl, rfl, rfl⟩
theorem e_those4 (hN : 20000 ≤ N) (H : HRep 2 LN w m) (W0 : WFc w) : f_X1_those N (nI 4) m = some (nI (zv w), m) := by
  have s := W0.lzh
  have p := W0.p12
  have q := W0.h8.2
  refine Wp.toEq ?_
  unfold f_X1_those
  refine wp_it2 (fun n a c m' => ∃ i, i ≤ zh w ∧ n = zh w - i ∧ a = nI (zv w % 2 ^ i) ∧ c = nI i ∧ m' = m) ?_ N (zh w) _ _ _ (by omega) ⟨0, by omega, rfl, by rw [Nat.pow_zero, Nat.mod_one]; rfl, rfl, rfl⟩
  rintro n X a c m' ⟨i, hi, rfl, rfl, rfl, rfl⟩ hX
  unfold f_X1_those_L4
  simp only [li_0, li_1, li_2, li_3, li_4, li_5, li_6, li_7, li_8, li_9, li_10, li_11, li_12, li_13, li_14, li_15, li_16, li_17, li_18, li_19, li_20, li_21, li_22, li_23, li_24, li_25, li_26, li_27, li_28, li_29, li_30, li_31, li_32, li_37, li_38, li_39, li_40, li_41, li_42, li_43, li_44, li_45, li_46, li_47, li_48, li_49, li_50, li_57, li_59, li_60, li_61, li_62, li_63, li_64, li_65, li_69, li_81, li_89, li_90, li_92, li_97, li_99, li_100, li_101, li_103, li_104, li_105, li_106, li_108, li_111, li_112, li_113, li_114, li_115, li_116, li_117, li_119, li_122, li_123, li_124, li_125, li_126, li_127, li_128, li_129, li_130, li_131, li_132, li_133, li_134, li_135, li_136, li_137, li_140, li_141, li_142, li_143, li_145, li_147, li_150, li_153, li_159, li_160, li_161, li_162, li_185, li_197, li_213, li_222, li_223, li_255, li_256, li_257, li_258, li_259, li_260, li_261, li_262, li_263, li_264, li_271, li_272, li_273, li_274, li_275, li_276, li_277, li_278, li_300, li_400, li_420, li_500, li_802, li_820, li_823, li_839, li_855, li_871, li_887, li_999, li_1000, li_1001, li_1002, li_1003, li_1004, li_1005, li_1006, li_1007, li_1008, li_1009, li_1010, li_1011, li_1012, li_1013, li_1014, li_1015, li_1016, li_1017, li_1018, li_1019, li_1020, li_1021, li_1022, li_1023, li_1707, li_4096, li_9999, li_65536, li_100000, li_1000000, li_1664525, li_100000000, li_252645135, li_858993459, li_1000000007, li_1013904223, li_1431655765, li_m1]
  rw [H.hea.1, W0.h37]
  refine wp_ite (fun q => ?_) (fun q => ?_)
  · rw [nI_leI (by omega) (by omega)] at q
    have : i = zh w := by omega
    subst this
    exact wp_ret ⟨by rw [mod_all W0.h8.2], rfl⟩
  · rw [nI_leI (by omega) (by omega)] at q
    rw [hr_hea H W0 (by omega) (by decide), bd_s, show heaV w i 4 = b2i ((zv w).testBit i) from rfl]
    cases hb : (zv w).testBit i with
    | true =>
      rw [if_pos (by decide), bnd_s, nz_one (by omega), nz_or, nI_up, modpow_on hb]
      exact hX (zh w - (i + 1)) _ _ _ (by omega) ⟨i + 1, by omega, rfl, rfl, rfl, rfl⟩
    | false =>
      rw [if_neg (by decide), nI_up, modpow_off hb]
      exact hX (zh w - (i + 1)) _ _ _ (by omega) ⟨i + 1, by omega, rfl, rfl, rfl, rfl⟩
theorem e_there {h : Nat} (hm : m 124 = w) (W0 : WFc w) (hh : h < 31) : f_X12_isThere N (nI h) m = some (b2i ((zt w).testBit h), m) := by
  have p := W0.p12
  obtain ⟨e, q⟩ := W0.h7
  unfold f_X12_isThere
  simp only [li_0, li_1, li_2, li_3, li_4, li_5, li_6, li_7, li_8, li_9, li_10, li_11, li_12, li_13, li_14, li_15, li_16, li_17, li_18, li_19, li_20, li_21, li_22, li_23, li_24, li_25, li_26, li_27, li_28, li_29, li_30, li_31, li_32, li_37, li_38, li_39, li_40, li_41, li_42, li_43, li_44, li_45, li_46, li_47, li_48, li_49, li_50, li_57, li_59, li_60, li_61, li_62, li_63, li_64, li_65, li_69, li_81, li_89, li_90, li_92, li_97, li_99, li_100, li_101, li_103, li_104, li_105, li_106, li_108, li_111, li_112, li_113, li_114, li_115, li_116, li_117, li_119, li_122, li_123, li_124, li_125, li_126, li_127, li_128, li_129, li_130, li_131, li_132, li_133, li_134, li_135, li_136, li_137, li_140, li_141, li_142, li_143, li_145, li_147, li_150, li_153, li_159, li_160, li_161, li_162, li_185, li_197, li_213, li_222, li_223, li_255, li_256, li_257, li_258, li_259, li_260, li_261, li_262, li_263, li_264, li_271, li_272, li_273, li_274, li_275, li_276, li_277, li_278, li_300, li_400, li_420, li_500, li_802, li_820, li_823, li_839, li_855, li_871, li_887, li_999, li_1000, li_1001, li_1002, li_1003, li_1004, li_1005, li_1006, li_1007, li_1008, li_1009, li_1010, li_1011, li_1012, li_1013, li_1014, li_1015, li_1016, li_1017, li_1018, li_1019, li_1020, li_1021, li_1022, li_1023, li_1707, li_4096, li_9999, li_65536, li_100000, li_1000000, li_1664525, li_100000000, li_252645135, li_858993459, li_1000000007, li_1013904223, li_1431655765, li_m1]
  rw [hm, e]
  cases hb : (zt w).testBit h with
  | true => rw [if_pos ((nz_bit (by omega) hh).mpr hb)]; rfl
  | false => rw [if_neg (fun q => by rw [(nz_bit (by omega) hh).mp q] at hb; cases hb)]; rfl
theorem e_gloved {h : Nat} (hm : m 124 = w) (W0 : WFc w) (hh : h < 31) : f_X12_isGloved N (nI h) m = some (b2i ((zv w).testBit h), m) := by
  have p := W0.p12
  obtain ⟨e, q⟩ := W0.h8
  unfold f_X12_isGloved
  simp only [li_0, li_1, li_2, li_3, li_4, li_5, li_6, li_7, li_8, li_9, li_10, li_11, li_12, li_13, li_14, li_15, li_16, li_17, li_18, li_19, li_20, li_21, li_22, li_23, li_24, li_25, li_26, li_27, li_28, li_29, li_30, li_31, li_32, li_37, li_38, li_39, li_40, li_41, li_42, li_43, li_44, li_45, li_46, li_47, li_48, li_49, li_50, li_57, li_59, li_60, li_61, li_62, li_63, li_64, li_65, li_69, li_81, li_89, li_90, li_92, li_97, li_99, li_100, li_101, li_103, li_104, li_105, li_106, li_108, li_111, li_112, li_113, li_114, li_115, li_116, li_117, li_119, li_122, li_123, li_124, li_125, li_126, li_127, li_128, li_129, li_130, li_131, li_132, li_133, li_134, li_135, li_136, li_137, li_140, li_141, li_142, li_143, li_145, li_147, li_150, li_153, li_159, li_160, li_161, li_162, li_185, li_197, li_213, li_222, li_223, li_255, li_256, li_257, li_258, li_259, li_260, li_261, li_262, li_263, li_264, li_271, li_272, li_273, li_274, li_275, li_276, li_277, li_278, li_300, li_400, li_420, li_500, li_802, li_820, li_823, li_839, li_855, li_871, li_887, li_999, li_1000, li_1001, li_1002, li_1003, li_1004, li_1005, li_1006, li_1007, li_1008, li_1009, li_1010, li_1011, li_1012, li_1013, li_1014, li_1015, li_1016, li_1017, li_1018, li_1019, li_1020, li_1021, li_1022, li_1023, li_1707, li_4096, li_9999, li_65536, li_100000, li_1000000, li_1664525, li_100000000, li_252645135, li_858993459, li_1000000007, li_1013904223, li_1431655765, li_m1]
  rw [hm, e]
  cases hb : (zv w).testBit h with
  | true => rw [if_pos ((nz_bit (by omega) hh).mpr hb)]; rfl
  | false => rw [if_neg (fun q => by rw [(nz_bit (by omega) hh).mp q] at hb; cases hb)]; rfl
/-! the last line of a kind -/
def lstS (w : Arr) (k : Nat) (wo : Int32) : Nat → Int32
  | 0 => wo
  | i + 1 => if w (105 + 3 * i) = nI k then w (105 + 3 * i + 1) else lstS w k wo i
theorem hr_sta {i c : Nat} (H : HRep 2 LN w m) (W0 : WFc w) (hi : i < zs w) (hc : c < 4) : f_X9_at N 15 (nI i) (nI c) m = some (m 16 (i * 4 + c), m) :=
  e_at H.fx (show (15, 16, 4) ∈ tbs by decide) (H.sta.1.trans W0.h41) W0.lzs hi hc
theorem staK_is {k j : Nat} (hk : 7 ≤ k) (hk2 : k ≤ 10) (hj : 7 ≤ j) (hj2 : j ≤ 10) : (staK (nI k) = staK (nI j)) ↔ k = j := by
  have : ∀ k, 7 ≤ k → k ≤ 10 → ∀ j, 7 ≤ j → j ≤ 10 → ((staK (nI k) = staK (nI j)) ↔ k = j) := by
    intro k h1 h2 j h3 h4
    have hk : k = 7 ∨ k = 8 ∨ k = 9 ∨ k = 10 := by omega
    have hj : j = 7 ∨ j = 8 ∨ j = 9 ∨ j = 10 := by omega
    rcases hk with rfl | rfl | rfl | rfl <;> rcases hj with rfl | rfl | rfl | rfl <;> decide
  exact this k hk hk2 j hj hj2
theorem w_lastOf {k : Nat} {wo : Int32} (hN : 20000 ≤ N) (H : HRep 2 LN w m) (W0 : WFc w) (hk : 7 ≤ k) (hk2 : k ≤ 10) : f_X1_lastOf N (staK (nI k)) wo m = some (lstS w k wo (zs w), m) := by
  have s := W0.lzs
  refine Wp.toEq ?_
  unfold f_X1_lastOf
  refine wp_it2 (fun n a c m' => ∃ i, i ≤ zs w ∧ n = zs w - i ∧ a = lstS w k wo i ∧ c = nI i ∧ m' = m) ?_ N (zs w) _ _ _ (by omega) ⟨0, by omega, rfl, rfl, rfl, rfl⟩
  rintro n X a c m' ⟨i, hi, rfl, rfl, rfl, rfl⟩ hX
  unfold f_X1_lastOf_L5
  simp only [li_0, li_1, li_2, li_3, li_4, li_5, li_6, li_7, li_8, li_9, li_10, li_11, li_12, li_13, li_14, li_15, li_16, li_17, li_18, li_19, li_20, li_21, li_22, li_23, li_24, li_25, li_26, li_27, li_28, li_29, li_30, li_31, li_32, li_37, li_38, li_39, li_40, li_41, li_42, li_43, li_44, li_45, li_46, li_47, li_48, li_49, li_50, li_57, li_59, li_60, li_61, li_62, li_63, li_64, li_65, li_69, li_81, li_89, li_90, li_92, li_97, li_99, li_100, li_101, li_103, li_104, li_105, li_106, li_108, li_111, li_112, li_113, li_114, li_115, li_116, li_117, li_119, li_122, li_123, li_124, li_125, li_126, li_127, li_128, li_129, li_130, li_131, li_132, li_133, li_134, li_135, li_136, li_137, li_140, li_141, li_142, li_143, li_145, li_147, li_150, li_153, li_159, li_160, li_161, li_162, li_185, li_197, li_213, li_222, li_223, li_255, li_256, li_257, li_258, li_259, li_260, li_261, li_262, li_263, li_264, li_271, li_272, li_273, li_274, li_275, li_276, li_277, li_278, li_300, li_400, li_420, li_500, li_802, li_820, li_823, li_839, li_855, li_871, li_887, li_999, li_1000, li_1001, li_1002, li_1003, li_1004, li_1005, li_1006, li_1007, li_1008, li_1009, li_1010, li_1011, li_1012, li_1013, li_1014, li_1015, li_1016, li_1017, li_1018, li_1019, li_1020, li_1021, li_1022, li_1023, li_1707, li_4096, li_9999, li_65536, li_100000, li_1000000, li_1664525, li_100000000, li_252645135, li_858993459, li_1000000007, li_1013904223, li_1431655765, li_m1]
  rw [H.sta.1, W0.h41]
  refine wp_ite (fun q => ?_) (fun q => ?_)
  · rw [nI_leI (by omega) (by omega)] at q
    have : i = zs w := by omega
    subst this
    exact wp_ret ⟨rfl, rfl⟩
  · rw [nI_leI (by omega) (by omega)] at q
    obtain ⟨⟨j, hj1, hj2, hj3, -⟩, -⟩ := W0.sta (show i < zs w by omega)
    obtain ⟨r1, r2, r3⟩ := H.sta.2 i (by omega)
    rw [hr_sta H W0 (by omega) (by decide), bd_s, show m' 16 (i * 4 + 0) = _ from r1, hj3]
    refine wp_ite (fun q2 => ?_) (fun q2 => ?_)
    · have := (staK_is hj1 hj2 hk hk2).mp q2
      subst this
      rw [hr_sta H W0 (by omega) (by decide), bd_s, show m' 16 (i * 4 + 1) = _ from r2, nI_up]
      exact hX (zs w - (i + 1)) _ _ _ (by omega) ⟨i + 1, by omega, rfl, by show _ = (if _ then _ else _); rw [if_pos hj3], rfl, rfl⟩
    · rw [nI_up]
      refine hX (zs w - (i + 1)) _ _ _ (by omega) ⟨i + 1, by omega, rfl, ?_, rfl, rfl⟩
      show _ = (if _ then _ else _)
      rw [if_neg (by rw [hj3]; exact fun z => q2 (by rw [z]))]
theorem e_most (hN : 20000 ≤ N) (H : HRep 2 LN w m) (W0 : WFc w) : f_X1_mostAgains N m = some (lstS w 8 (nI 9) (zs w), m) := by
  unfold f_X1_mostAgains
  show bd (f_X1_lastOf N (staK (nI 8)) (nI 9) m) _ = _
  rw [w_lastOf hN H W0 (by decide) (by decide), bd_s]
theorem e_end (hN : 20000 ≤ N) (H : HRep 2 LN w m) (W0 : WFc w) : f_X1_endMinute N m = some (lstS w 10 (nI 300) (zs w), m) := by
  unfold f_X1_endMinute
  show bd (f_X1_lastOf N (staK (nI 10)) (nI 300) m) _ = _
  rw [w_lastOf hN H W0 (by decide) (by decide), bd_s]
def mayS (w : Arr) : Bool := decide (w 4 < lstS w 8 (nI 9) (zs w)) && decide (w 0 < lstS w 10 (nI 300) (zs w))
theorem e_may (hN : 20000 ≤ N) (H : HRep 2 LN w m) (W0 : WFc w) : f_X1_mayGoOn N m = some (b2i (mayS w), m) := by
  unfold f_X1_mayGoOn mayS
  simp only [li_0, li_1, li_2, li_3, li_4, li_5, li_6, li_7, li_8, li_9, li_10, li_11, li_12, li_13, li_14, li_15, li_16, li_17, li_18, li_19, li_20, li_21, li_22, li_23, li_24, li_25, li_26, li_27, li_28, li_29, li_30, li_31, li_32, li_37, li_38, li_39, li_40, li_41, li_42, li_43, li_44, li_45, li_46, li_47, li_48, li_49, li_50, li_57, li_59, li_60, li_61, li_62, li_63, li_64, li_65, li_69, li_81, li_89, li_90, li_92, li_97, li_99, li_100, li_101, li_103, li_104, li_105, li_106, li_108, li_111, li_112, li_113, li_114, li_115, li_116, li_117, li_119, li_122, li_123, li_124, li_125, li_126, li_127, li_128, li_129, li_130, li_131, li_132, li_133, li_134, li_135, li_136, li_137, li_140, li_141, li_142, li_143, li_145, li_147, li_150, li_153, li_159, li_160, li_161, li_162, li_185, li_197, li_213, li_222, li_223, li_255, li_256, li_257, li_258, li_259, li_260, li_261, li_262, li_263, li_264, li_271, li_272, li_273, li_274, li_275, li_276, li_277, li_278, li_300, li_400, li_420, li_500, li_802, li_820, li_823, li_839, li_855, li_871, li_887, li_999, li_1000, li_1001, li_1002, li_1003, li_1004, li_1005, li_1006, li_1007, li_1008, li_1009, li_1010, li_1011, li_1012, li_1013, li_1014, li_1015, li_1016, li_1017, li_1018, li_1019, li_1020, li_1021, li_1022, li_1023, li_1707, li_4096, li_9999, li_65536, li_100000, li_1000000, li_1664525, li_100000000, li_252645135, li_858993459, li_1000000007, li_1013904223, li_1431655765, li_m1]
  rw [hr_hou H (by decide), bd_s, e_most hN H W0, bd_s, hr_hou H (by decide), bd_s, e_end hN H W0, bd_s, show houI 5 = 4 from rfl, show houI 0 = 0 from rfl]
  by_cases h1 : w 4 < lstS w 8 (nI 9) (zs w)
  · rw [if_neg (Int32.not_le.mpr h1), decide_eq_true h1]
    by_cases h2 : w 0 < lstS w 10 (nI 300) (zs w)
    · rw [if_neg (Int32.not_le.mpr h2), decide_eq_true h2]; rfl
    · rw [if_pos (Int32.not_lt.mp h2), decide_eq_false h2]; rfl
  · rw [if_pos (Int32.not_lt.mp h1), decide_eq_false h1]; rfl
theorem w_lastM {k : Nat} {wo : Int32} (hN : 20000 ≤ N) (hm : m 124 = w) (W0 : WFc w) : f_X12_lastRule N (nI k) wo m = some (lstS w k wo (zs w), m) := by
  have s := W0.lzs
  refine Wp.toEq ?_
  unfold f_X12_lastRule
  refine wp_it2 (fun n a c m' => ∃ i, i ≤ zs w ∧ n = zs w - i ∧ a = lstS w k wo i ∧ c = nI i ∧ m' = m) ?_ N (zs w) _ _ _ (by omega) ⟨0, by omega, rfl, rfl, rfl, rfl⟩
  rintro n X a c m' ⟨i, hi, rfl, rfl, rfl, rfl⟩ hX
  unfold f_X12_lastRule_L5
  simp only [li_0, li_1, li_2, li_3, li_4, li_5, li_6, li_7, li_8, li_9, li_10, li_11, li_12, li_13, li_14, li_15, li_16, li_17, li_18, li_19, li_20, li_21, li_22, li_23, li_24, li_25, li_26, li_27, li_28, li_29, li_30, li_31, li_32, li_37, li_38, li_39, li_40, li_41, li_42, li_43, li_44, li_45, li_46, li_47, li_48, li_49, li_50, li_57, li_59, li_60, li_61, li_62, li_63, li_64, li_65, li_69, li_81, li_89, li_90, li_92, li_97, li_99, li_100, li_101, li_103, li_104, li_105, li_106, li_108, li_111, li_112, li_113, li_114, li_115, li_116, li_117, li_119, li_122, li_123, li_124, li_125, li_126, li_127, li_128, li_129, li_130, li_131, li_132, li_133, li_134, li_135, li_136, li_137, li_140, li_141, li_142, li_143, li_145, li_147, li_150, li_153, li_159, li_160, li_161, li_162, li_185, li_197, li_213, li_222, li_223, li_255, li_256, li_257, li_258, li_259, li_260, li_261, li_262, li_263, li_264, li_271, li_272, li_273, li_274, li_275, li_276, li_277, li_278, li_300, li_400, li_420, li_500, li_802, li_820, li_823, li_839, li_855, li_871, li_887, li_999, li_1000, li_1001, li_1002, li_1003, li_1004, li_1005, li_1006, li_1007, li_1008, li_1009, li_1010, li_1011, li_1012, li_1013, li_1014, li_1015, li_1016, li_1017, li_1018, li_1019, li_1020, li_1021, li_1022, li_1023, li_1707, li_4096, li_9999, li_65536, li_100000, li_1000000, li_1664525, li_100000000, li_252645135, li_858993459, li_1000000007, li_1013904223, li_1431655765, li_m1, pk_mul, nI_add]
  rw [hm, W0.h41]
  refine wp_ite (fun q => ?_) (fun q => ?_)
  · rw [nI_leI (by omega) (by omega)] at q
    have : i = zs w := by omega
    subst this
    exact wp_ret ⟨rfl, rfl⟩
  · rw [nI_leI (by omega) (by omega)] at q
    rw [inb_nI (by omega) (by omega), chk_t, nI_clamp (by omega), inb_nI (by omega) (by omega), chk_t, nI_clamp (by omega), bnd_s]
    refine wp_ite (fun q2 => ?_) (fun q2 => ?_)
    · exact hX (zs w - (i + 1)) _ _ _ (by omega) ⟨i + 1, by omega, rfl, by show _ = (if _ then _ else _); rw [if_pos q2], rfl, rfl⟩
    · exact hX (zs w - (i + 1)) _ _ _ (by omega) ⟨i + 1, by omega, rfl, by show _ = (if _ then _ else _); rw [if_neg q2], rfl, rfl⟩
theorem e_mostM (hN : 20000 ≤ N) (hm : m 124 = w) (W0 : WFc w) : f_X12_mostAgains N m = some (lstS w 8 (nI 9) (zs w), m) := by
  unfold f_X12_mostAgains
  show bd (f_X12_lastRule N (nI 8) (nI 9) m) _ = _
  rw [w_lastM hN hm W0, bd_s]
theorem e_endM (hN : 20000 ≤ N) (hm : m 124 = w) (W0 : WFc w) : f_X12_endsAt N m = some (lstS w 10 (nI 300) (zs w), m) := by
  unfold f_X12_endsAt
  show bd (f_X12_lastRule N (nI 10) (nI 300) m) _ = _
  rw [w_lastM hN hm W0, bd_s]
/-! hands that make an again -/
def lowB (w : Arr) (i : Nat) : Option Nat → Bool
  | none => true
  | some b => decide (w (105 + 3 * b + 2) ≤ w (105 + 3 * i + 2))
def bstS (w : Arr) : Nat → Option Nat
  | 0 => none
  | i + 1 => if w (105 + 3 * i) = nI 7 ∧ w (105 + 3 * i + 2) ≤ w 1 ∧ lowB w i (bstS w i) = true then some i else bstS w i
theorem bstS_lt {b : Nat} : ∀ {i : Nat}, bstS w i = some b → b < i
  | 0, h => by cases h
  | i + 1, h => by
    unfold bstS at h
    split at h
    · cases h
      exact Nat.lt_succ_self _
    · have := bstS_lt h; omega
def hndV (w : Arr) (o : Option Nat) : Int32 := match o with
  | none => nI 5
  | some b => w (105 + 3 * b + 1)
def hndS (w : Arr) : Int32 := hndV w (bstS w (zs w))
def frmV (w : Arr) (o : Option Nat) : Int32 := match o with
  | none => mo1
  | some b => w (105 + 3 * b + 2)
theorem e_hands (hN : 20000 ≤ N) (H : HRep 2 LN w m) (W0 : WFc w) : f_X1_handsDue N m = some (hndS w, m) := by
  have s := W0.lzs
  refine Wp.toEq ?_
  unfold f_X1_handsDue
  refine wp_it3 (fun n a b c m' => ∃ i, i ≤ zs w ∧ n = zs w - i ∧ a = hndV w (bstS w i) ∧ b = frmV w (bstS w i) ∧ c = nI i ∧ m' = m) ?_ N (zs w) _ _ _ _ (by omega) ⟨0, by omega, rfl, rfl, rfl, rfl, rfl⟩
  rintro n X a b c m' ⟨i, hi, rfl, rfl, rfl, rfl, rfl⟩ hX
  unfold f_X1_handsDue_L6
  simp only [li_0, li_1, li_2, li_3, li_4, li_5, li_6, li_7, li_8, li_9, li_10, li_11, li_12, li_13, li_14, li_15, li_16, li_17, li_18, li_19, li_20, li_21, li_22, li_23, li_24, li_25, li_26, li_27, li_28, li_29, li_30, li_31, li_32, li_37, li_38, li_39, li_40, li_41, li_42, li_43, li_44, li_45, li_46, li_47, li_48, li_49, li_50, li_57, li_59, li_60, li_61, li_62, li_63, li_64, li_65, li_69, li_81, li_89, li_90, li_92, li_97, li_99, li_100, li_101, li_103, li_104, li_105, li_106, li_108, li_111, li_112, li_113, li_114, li_115, li_116, li_117, li_119, li_122, li_123, li_124, li_125, li_126, li_127, li_128, li_129, li_130, li_131, li_132, li_133, li_134, li_135, li_136, li_137, li_140, li_141, li_142, li_143, li_145, li_147, li_150, li_153, li_159, li_160, li_161, li_162, li_185, li_197, li_213, li_222, li_223, li_255, li_256, li_257, li_258, li_259, li_260, li_261, li_262, li_263, li_264, li_271, li_272, li_273, li_274, li_275, li_276, li_277, li_278, li_300, li_400, li_420, li_500, li_802, li_820, li_823, li_839, li_855, li_871, li_887, li_999, li_1000, li_1001, li_1002, li_1003, li_1004, li_1005, li_1006, li_1007, li_1008, li_1009, li_1010, li_1011, li_1012, li_1013, li_1014, li_1015, li_1016, li_1017, li_1018, li_1019, li_1020, li_1021, li_1022, li_1023, li_1707, li_4096, li_9999, li_65536, li_100000, li_1000000, li_1664525, li_100000000, li_252645135, li_858993459, li_1000000007, li_1013904223, li_1431655765, li_m1]
  rw [H.sta.1, W0.h41]
  refine wp_ite (fun q => ?_) (fun q => ?_)
  · rw [nI_leI (by omega) (by omega)] at q
    have : i = zs w := by omega
    subst this
    exact wp_ret ⟨rfl, rfl⟩
  · rw [nI_leI (by omega) (by omega)] at q
    obtain ⟨⟨j, hj1, hj2, hj3, -⟩, hf⟩ := W0.sta (show i < zs w by omega)
    obtain ⟨r1, r2, r3⟩ := H.sta.2 i (by omega)
    rw [hr_sta H W0 (by omega) (by decide), bd_s, show m' 16 (i * 4 + 2) = _ from r3, hr_sta H W0 (by omega) (by decide), bd_s, show m' 16 (i * 4 + 0) = _ from r1, hj3]
    have stay : ∀ (hn : ¬ (w (105 + 3 * i) = nI 7 ∧ w (105 + 3 * i + 2) ≤ w 1 ∧ lowB w i (bstS w i) = true)), Wp (X (hndV w (bstS w i)) (frmV w (bstS w i)) (nI i + nI 1) m') (fun v m'' => v = hndS w ∧ m'' = m') := by
      intro hn
      have e : bstS w (i + 1) = bstS w i := by
        show (if _ then _ else _) = _
        rw [if_neg hn]
      rw [nI_up, ← e]
      exact hX (zs w - (i + 1)) _ _ _ _ (by omega) ⟨i + 1, by omega, rfl, rfl, rfl, rfl, rfl⟩
    have lowf : ¬ w (105 + 3 * i + 2) < frmV w (bstS w i) ↔ lowB w i (bstS w i) = true := by
      cases bstS w i with
      | none =>
        obtain ⟨k, hk, e⟩ := hf
        rw [e]
        refine ⟨fun _ => rfl, fun _ z => ?_⟩
        exact nI_no0 (k := k) (by omega) (Int32.lt_trans z (show mo1 < nI 0 by decide))
      | some b =>
        refine Iff.trans Int32.not_lt ?_
        show _ ↔ decide _ = true
        rw [decide_eq_true_iff]
        exact Iff.rfl
    refine wp_ite (fun q2 => ?_) (fun q2 => ?_)
    · have j7 : j = 7 := (staK_is hj1 hj2 (by decide) (by decide)).mp (show staK (nI j) = staK (nI 7) from q2)
      subst j7
      refine wp_ite (fun q3 => ?_) (fun q3 => ?_)
      · exact stay (fun z => lowf.mpr z.2.2 q3)
      · rw [hr_hou H (by decide), bd_s, show houI 1 = 1 from rfl]
        refine wp_ite (fun q4 => ?_) (fun q4 => ?_)
        · exact stay (fun z => Int32.not_lt.mpr z.2.1 q4)
        · rw [hr_sta H W0 (by omega) (by decide), bd_s, show m' 16 (i * 4 + 1) = _ from r2, nI_up]
          have e : bstS w (i + 1) = some i := by
            show (if _ then _ else _) = _
            rw [if_pos ⟨hj3, Int32.not_lt.mp q4, lowf.mp q3⟩]
          exact hX (zs w - (i + 1)) _ _ _ _ (by omega) ⟨i + 1, by omega, rfl, by rw [e]; rfl, by rw [e]; rfl, rfl, rfl⟩
    · exact stay (fun z => q2 (by rw [← hj3, z.1]; rfl))
def bixV (o : Option Nat) : Int32 := match o with
  | none => mo1
  | some b => nI (105 + 3 * b)
theorem e_handsM (hN : 20000 ≤ N) (hm : m 124 = w) (W0 : WFc w) : f_X12_handsAsked N m = some (hndS w, m) := by
  have s := W0.lzs
  refine Wp.toEq ?_
  unfold f_X12_handsAsked
  refine wp_it2 (fun n a c m' => ∃ i, i ≤ zs w ∧ n = zs w - i ∧ a = bixV (bstS w i) ∧ c = nI i ∧ m' = m) ?_ N (zs w) _ _ _ (by omega) ⟨0, by omega, rfl, rfl, rfl, rfl⟩
  rintro n X a c m' ⟨i, hi, rfl, rfl, rfl, rfl⟩ hX
  unfold f_X12_handsAsked_L4
  simp only [li_0, li_1, li_2, li_3, li_4, li_5, li_6, li_7, li_8, li_9, li_10, li_11, li_12, li_13, li_14, li_15, li_16, li_17, li_18, li_19, li_20, li_21, li_22, li_23, li_24, li_25, li_26, li_27, li_28, li_29, li_30, li_31, li_32, li_37, li_38, li_39, li_40, li_41, li_42, li_43, li_44, li_45, li_46, li_47, li_48, li_49, li_50, li_57, li_59, li_60, li_61, li_62, li_63, li_64, li_65, li_69, li_81, li_89, li_90, li_92, li_97, li_99, li_100, li_101, li_103, li_104, li_105, li_106, li_108, li_111, li_112, li_113, li_114, li_115, li_116, li_117, li_119, li_122, li_123, li_124, li_125, li_126, li_127, li_128, li_129, li_130, li_131, li_132, li_133, li_134, li_135, li_136, li_137, li_140, li_141, li_142, li_143, li_145, li_147, li_150, li_153, li_159, li_160, li_161, li_162, li_185, li_197, li_213, li_222, li_223, li_255, li_256, li_257, li_258, li_259, li_260, li_261, li_262, li_263, li_264, li_271, li_272, li_273, li_274, li_275, li_276, li_277, li_278, li_300, li_400, li_420, li_500, li_802, li_820, li_823, li_839, li_855, li_871, li_887, li_999, li_1000, li_1001, li_1002, li_1003, li_1004, li_1005, li_1006, li_1007, li_1008, li_1009, li_1010, li_1011, li_1012, li_1013, li_1014, li_1015, li_1016, li_1017, li_1018, li_1019, li_1020, li_1021, li_1022, li_1023, li_1707, li_4096, li_9999, li_65536, li_100000, li_1000000, li_1664525, li_100000000, li_252645135, li_858993459, li_1000000007, li_1013904223, li_1431655765, li_m1, pk_mul, nI_add]
  rw [hm, W0.h41]
  refine wp_ite (fun q => ?_) (fun q => ?_)
  · rw [nI_leI (by omega) (by omega)] at q
    have : i = zs w := by omega
    subst this
    unfold hndS
    cases hb : bstS w (zs w) with
    | none => rw [if_pos (show bixV none = mo1 from rfl)]; exact wp_ret ⟨rfl, rfl⟩
    | some b =>
      have := bstS_lt hb
      rw [show bixV (some b) = nI (105 + 3 * b) from rfl, if_neg (nI_no1 (by omega)), nI_add, inb_nI (by omega) (by omega), chk_t, nI_clamp (by omega)]
      exact wp_ret ⟨rfl, rfl⟩
  · rw [nI_leI (by omega) (by omega)] at q
    rw [bnd_s, nI_add, inb_nI (by omega) (by omega), chk_t, nI_clamp (by omega), inb_nI (by omega) (by omega), chk_t, nI_clamp (by omega), chk_t]
    have stay : ∀ (hn : ¬ (w (105 + 3 * i) = nI 7 ∧ w (105 + 3 * i + 2) ≤ w 1 ∧ lowB w i (bstS w i) = true)), Wp (X (bixV (bstS w i)) (nI (i + 1)) m') (fun v m'' => v = hndS w ∧ m'' = m') := by
      intro hn
      have e : bstS w (i + 1) = bstS w i := by
        show (if _ then _ else _) = _
        rw [if_neg hn]
      rw [← e]
      exact hX (zs w - (i + 1)) _ _ _ (by omega) ⟨i + 1, by omega, rfl, rfl, rfl, rfl⟩
    have take : ∀ (hn : w (105 + 3 * i) = nI 7 ∧ w (105 + 3 * i + 2) ≤ w 1 ∧ lowB w i (bstS w i) = true), Wp (X (nI (105 + 3 * i)) (nI (i + 1)) m') (fun v m'' => v = hndS w ∧ m'' = m') := by
      intro hn
      have e : bstS w (i + 1) = some i := by
        show (if _ then _ else _) = _
        rw [if_pos hn]
      exact hX (zs w - (i + 1)) _ _ _ (by omega) ⟨i + 1, by omega, rfl, by rw [e]; rfl, rfl, rfl⟩
    refine wp_ite (fun q2 => ?_) (fun q2 => ?_)
    · refine wp_ite (fun q3 => ?_) (fun q3 => ?_)
      · exact stay (fun z => Int32.not_lt.mpr z.2.1 q3)
      · cases hb : bstS w i with
        | none =>
          rw [hb] at take
          rw [if_pos (show bixV none = mo1 from rfl)]
          exact take ⟨q2, Int32.not_lt.mp q3, rfl⟩
        | some b =>
          have := bstS_lt hb
          rw [hb] at take stay
          rw [show bixV (some b) = nI (105 + 3 * b) from rfl] at stay ⊢
          rw [if_neg (nI_no1 (by omega)), nI_add, inb_nI (by omega) (by omega), chk_t, nI_clamp (by omega)]
          refine wp_ite (fun q4 => ?_) (fun q4 => ?_)
          · exact stay (fun z => Int32.not_lt.mpr (of_decide_eq_true z.2.2) q4)
          · exact take ⟨q2, Int32.not_lt.mp q3, decide_eq_true (Int32.not_lt.mp q4)⟩
    · exact stay (fun z => q2 z.1)
end WFX
