/-! a text that is read is taken: the class -/
def anR (kd : Nat → Nat) (xv : Nat → Int32) (h : Nat) (i : Nat) : Bool := (List.range i).any (fun l => decide (kd l = 275) && decide (xv l = nI h))
/-- who sits beside h by the first i rows -/
def gvR (A D : Nat → Nat) (h : Nat) : Nat → Nat
  | 0 => 0
  | i + 1 => (if D i = h then (if A i = h then gvR A D h i ||| 2 ^ D i else gvR A D h i) ||| 2 ^ A i else (if A i = h then gvR A D h i ||| 2 ^ D i else gvR A D h i))
section TAKE
variable {N : Nat} {m m1 m' m2 : Mem} {z r : Nat} {kd : Nat → Nat} {xv : Nat → Int32} {A D : Nat → Nat}
theorem gvR_lt {h : Nat} : ∀ i, (∀ l, l < i → A l < z ∧ D l < z) → gvR A D h i < 2 ^ z
  | 0, _ => Nat.pow_pos (by decide)
  | i + 1, hl => by
    have ih := gvR_lt (h := h) i (fun l hl2 => hl l (by omega))
    obtain ⟨h1, h2⟩ := hl i (by omega)
    have p1 : 2 ^ A i < 2 ^ z := Nat.pow_lt_pow_right (by decide) h1
    have p2 : 2 ^ D i < 2 ^ z := Nat.pow_lt_pow_right (by decide) h2
    have o1 : (if A i = h then gvR A D h i ||| 2 ^ D i else gvR A D h i) < 2 ^ z := by
      split
      · exact Nat.or_lt_two_pow ih p2
      · exact ih
    unfold gvR
    split
    · exact Nat.or_lt_two_pow o1 p1
    · exact o1
theorem gvR_0 {h : Nat} : ∀ i, (∀ l, l < i → A l < z ∧ D l < z) → z ≤ h → gvR A D h i = 0
  | 0, _, _ => rfl
  | i + 1, hl, hz => by
    obtain ⟨h1, h2⟩ := hl i (by omega)
    unfold gvR
    rw [if_neg (by omega), if_neg (by omega)]
    exact gvR_0 i (fun l hl2 => hl l (by omega)) hz
theorem w_countHands (hN : 20000 ≤ N) (hF : Fx m) (h3 : m 3 3 = nI z) (hz : z ≤ 12) (h15 : m 15 3 = nI r) (hr : r ≤ 16) (hk : ∀ i, i < r → m 16 (i * 4 + 0) = nI (kd i) ∧ m 16 (i * 4 + 1) = xv i ∧ kd i < 400 ∧ (kd i = 275 → ∃ x, x < z ∧ xv i = nI x)) :
    Wp (f_X1_countHands N m) (fun _ m' => (∀ x, x ≠ 4 → m' x = m x) ∧ Fx m' ∧ (∀ h, h < z → m' 4 (h * 8 + 7) = nI (if anR kd xv h r = true then 2 else 1)) ∧ ∀ h c, h < z → c < 7 → m' 4 (h * 8 + c) = m 4 (h * 8 + c)) := by
  have t3 : (3, 12, 8) ∈ tbs := by decide
  have t15 : (15, 16, 4) ∈ tbs := by decide
  unfold f_X1_countHands
  simp only [li_0, li_1, li_2, li_3, li_4, li_5, li_6, li_7, li_8, li_9, li_10, li_11, li_12, li_13, li_14, li_15, li_16, li_17, li_18, li_19, li_20, li_21, li_22, li_23, li_24, li_25, li_26, li_27, li_28, li_29, li_30, li_31, li_32, li_37, li_38, li_39, li_40, li_41, li_42, li_43, li_44, li_45, li_46, li_47, li_48, li_49, li_50, li_57, li_59, li_60, li_61, li_62, li_63, li_64, li_65, li_69, li_81, li_89, li_90, li_92, li_97, li_99, li_100, li_101, li_103, li_104, li_105, li_106, li_108, li_111, li_112, li_113, li_114, li_115, li_116, li_117, li_119, li_122, li_123, li_124, li_125, li_126, li_127, li_128, li_129, li_130, li_131, li_132, li_133, li_134, li_135, li_136, li_137, li_140, li_141, li_142, li_143, li_145, li_147, li_150, li_153, li_159, li_160, li_161, li_162, li_185, li_197, li_213, li_222, li_223, li_255, li_256, li_257, li_258, li_259, li_260, li_261, li_262, li_263, li_264, li_271, li_272, li_273, li_274, li_275, li_276, li_277, li_278, li_300, li_400, li_420, li_500, li_802, li_820, li_823, li_839, li_855, li_871, li_887, li_999, li_1000, li_1001, li_1002, li_1003, li_1004, li_1005, li_1006, li_1007, li_1008, li_1009, li_1010, li_1011, li_1012, li_1013, li_1014, li_1015, li_1016, li_1017, li_1018, li_1019, li_1020, li_1021, li_1022, li_1023, li_1707, li_4096, li_9999, li_65536, li_100000, li_1000000, li_1664525, li_100000000, li_252645135, li_858993459, li_1000000007, li_1013904223, li_1431655765, li_m1]
  refine wp_it1 (fun q a m' => ∃ i, i ≤ z ∧ q = z - i ∧ a = nI i ∧ (∀ x, x ≠ 4 → m' x = m x) ∧ Fx m' ∧ (∀ h, h < i → m' 4 (h * 8 + 7) = nI 1) ∧ ∀ h c, h < z → c < 7 → m' 4 (h * 8 + c) = m 4 (h * 8 + c)) ?_ N z _ _ (by omega) ⟨0, by omega, rfl, rfl, fun _ _ => rfl, hF, fun h hh => absurd hh (by omega), fun _ _ _ _ => rfl⟩
  rintro q X a m1 ⟨i, hi, rfl, rfl, a1, a2, a3, a4⟩ hX
  have e3 : m1 3 3 = nI z := by rw [a1 3 (by decide)]; exact h3
  unfold f_X1_countHands_L2
  simp only [li_0, li_1, li_2, li_3, li_4, li_5, li_6, li_7, li_8, li_9, li_10, li_11, li_12, li_13, li_14, li_15, li_16, li_17, li_18, li_19, li_20, li_21, li_22, li_23, li_24, li_25, li_26, li_27, li_28, li_29, li_30, li_31, li_32, li_37, li_38, li_39, li_40, li_41, li_42, li_43, li_44, li_45, li_46, li_47, li_48, li_49, li_50, li_57, li_59, li_60, li_61, li_62, li_63, li_64, li_65, li_69, li_81, li_89, li_90, li_92, li_97, li_99, li_100, li_101, li_103, li_104, li_105, li_106, li_108, li_111, li_112, li_113, li_114, li_115, li_116, li_117, li_119, li_122, li_123, li_124, li_125, li_126, li_127, li_128, li_129, li_130, li_131, li_132, li_133, li_134, li_135, li_136, li_137, li_140, li_141, li_142, li_143, li_145, li_147, li_150, li_153, li_159, li_160, li_161, li_162, li_185, li_197, li_213, li_222, li_223, li_255, li_256, li_257, li_258, li_259, li_260, li_261, li_262, li_263, li_264, li_271, li_272, li_273, li_274, li_275, li_276, li_277, li_278, li_300, li_400, li_420, li_500, li_802, li_820, li_823, li_839, li_855, li_871, li_887, li_999, li_1000, li_1001, li_1002, li_1003, li_1004, li_1005, li_1006, li_1007, li_1008, li_1009, li_1010, li_1011, li_1012, li_1013, li_1014, li_1015, li_1016, li_1017, li_1018, li_1019, li_1020, li_1021, li_1022, li_1023, li_1707, li_4096, li_9999, li_65536, li_100000, li_1000000, li_1664525, li_100000000, li_252645135, li_858993459, li_1000000007, li_1013904223, li_1431655765, li_m1]
  rw [e3]
  by_cases qz : z ≤ i
  · rw [if_pos (nI_le qz (by omega))]
    have : i = z := by omega
    subst this
    refine wp_it1 (fun q a m' => ∃ l, l ≤ r ∧ q = r - l ∧ a = nI l ∧ (∀ x, x ≠ 4 → m' x = m x) ∧ Fx m' ∧ (∀ h, h < i → m' 4 (h * 8 + 7) = nI (if anR kd xv h l = true then 2 else 1)) ∧ ∀ h c, h < i → c < 7 → m' 4 (h * 8 + c) = m 4 (h * 8 + c)) ?_ N r _ _ (by omega) ⟨0, by omega, rfl, rfl, a1, a2, a3, a4⟩
    rintro q Y a m2 ⟨l, hl, rfl, rfl, b1, b2, b3, b4⟩ hY
    have e15 : m2 15 3 = nI r := by rw [b1 15 (by decide)]; exact h15
    unfold f_X1_countHands_L32
    simp only [li_0, li_1, li_2, li_3, li_4, li_5, li_6, li_7, li_8, li_9, li_10, li_11, li_12, li_13, li_14, li_15, li_16, li_17, li_18, li_19, li_20, li_21, li_22, li_23, li_24, li_25, li_26, li_27, li_28, li_29, li_30, li_31, li_32, li_37, li_38, li_39, li_40, li_41, li_42, li_43, li_44, li_45, li_46, li_47, li_48, li_49, li_50, li_57, li_59, li_60, li_61, li_62, li_63, li_64, li_65, li_69, li_81, li_89, li_90, li_92, li_97, li_99, li_100, li_101, li_103, li_104, li_105, li_106, li_108, li_111, li_112, li_113, li_114, li_115, li_116, li_117, li_119, li_122, li_123, li_124, li_125, li_126, li_127, li_128, li_129, li_130, li_131, li_132, li_133, li_134, li_135, li_136, li_137, li_140, li_141, li_142, li_143, li_145, li_147, li_150, li_153, li_159, li_160, li_161, li_162, li_185, li_197, li_213, li_222, li_223, li_255, li_256, li_257, li_258, li_259, li_260, li_261, li_262, li_263, li_264, li_271, li_272, li_273, li_274, li_275, li_276, li_277, li_278, li_300, li_400, li_420, li_500, li_802, li_820, li_823, li_839, li_855, li_871, li_887, li_999, li_1000, li_1001, li_1002, li_1003, li_1004, li_1005, li_1006, li_1007, li_1008, li_1009, li_1010, li_1011, li_1012, li_1013, li_1014, li_1015, li_1016, li_1017, li_1018, li_1019, li_1020, li_1021, li_1022, li_1023, li_1707, li_4096, li_9999, li_65536, li_100000, li_1000000, li_1664525, li_100000000, li_252645135, li_858993459, li_1000000007, li_1013904223, li_1431655765, li_m1]
    rw [e15]
    by_cases ql : r ≤ l
    · rw [if_pos (nI_le ql (by omega))]
      have : l = r := by omega
      subst this
      exact wp_ret ⟨b1, b2, b3, b4⟩
    · obtain ⟨k1, k2, k3, k4⟩ := hk l (by omega)
      have hs : ∀ h, anR kd xv h (l + 1) = (anR kd xv h l || (decide (kd l = 275) && decide (xv l = nI h))) := by
        intro h
        unfold anR
        rw [List.range_succ, List.any_append]
        simp
      rw [if_neg (nI_ge (by omega) (by omega)), e_at b2 t15 e15 hr (by omega) (by decide), bd_s, show (15 + 1 : Nat) = 16 from rfl, b1 16 (by decide), k1]
      by_cases q5 : kd l = 275
      · obtain ⟨x, hx, ex⟩ := k4 q5
        have e3' : m2 3 3 = nI i := by rw [b1 3 (by decide)]; exact h3
        rw [if_pos (by rw [q5]), e_at b2 t15 e15 hr (by omega) (by decide), bd_s, show (15 + 1 : Nat) = 16 from rfl, b1 16 (by decide), k2, ex, e_put b2 t3 e3' hz hx (by decide), bd_s, nI_up]
        refine hY (r - (l + 1)) _ _ (by omega) ⟨l + 1, by omega, rfl, rfl, fun y hy => by rw [mset_ne hy]; exact b1 y hy, b2.cell t3, fun h hh => ?_, fun h c hh hc => ?_⟩
        · show mset m2 4 (x * 8 + 7) (nI 2) 4 (h * 8 + 7) = _
          rw [hs, decide_eq_true q5, Bool.true_and, ex]
          by_cases e : h = x
          · subst e
            rw [mset_at, decide_eq_true rfl, Bool.or_true, if_pos rfl]
          · rw [mset_j (by omega), decide_eq_false (nI_ne (fun y => e y.symm) (by omega) (by omega)), Bool.or_false]
            exact b3 h hh
        · show mset m2 4 (x * 8 + 7) (nI 2) 4 (h * 8 + c) = _
          rw [mset_j (by omega)]
          exact b4 h c hh hc
      · rw [if_neg (nI_ne q5 (by omega) (by omega)), nI_up]
        refine hY (r - (l + 1)) _ _ (by omega) ⟨l + 1, by omega, rfl, rfl, b1, b2, fun h hh => ?_, b4⟩
        rw [hs, decide_eq_false q5, Bool.false_and, Bool.or_false]
        exact b3 h hh
  · rw [if_neg (nI_ge (by omega) (by omega)), e_put a2 t3 e3 hz (by omega) (by decide), bd_s, nI_up]
    refine hX (z - (i + 1)) _ _ (by omega) ⟨i + 1, by omega, rfl, rfl, fun y hy => by rw [mset_ne hy]; exact a1 y hy, a2.cell t3, fun h hh => ?_, fun h c hh hc => ?_⟩
    · show mset m1 4 (i * 8 + 7) (nI 1) 4 (h * 8 + 7) = _
      by_cases e : h = i
      · subst e
        exact mset_at _ _ _ _
      · rw [mset_j (by omega)]
        exact a3 h (by omega)
    · show mset m1 4 (i * 8 + 7) (nI 1) 4 (h * 8 + c) = _
      rw [mset_j (by omega)]
      exact a4 h c hh hc
theorem w_seat (hN : 20000 ≤ N) (hF : Fx m) (h3 : m 3 3 = nI z) (hz : z ≤ 12) (h19 : m 19 3 = nI r) (hr : r ≤ 16) (hk : ∀ i, i < r → m 20 (i * 4 + 1) = nI (A i) ∧ m 20 (i * 4 + 2) = nI (D i) ∧ A i < z ∧ D i < z) :
    Wp (f_X1_seat N m) (fun _ m' => (∀ x, x ≠ 4 → m' x = m x) ∧ Fx m' ∧ (∀ h, h < z → m' 4 (h * 8 + 6) = nI (gvR A D h r)) ∧ ∀ h c, h < z → c < 8 → c ≠ 6 → m' 4 (h * 8 + c) = m 4 (h * 8 + c)) := by
  have t3 : (3, 12, 8) ∈ tbs := by decide
  have t19 : (19, 16, 4) ∈ tbs := by decide
  unfold f_X1_seat
  simp only [li_0, li_1, li_2, li_3, li_4, li_5, li_6, li_7, li_8, li_9, li_10, li_11, li_12, li_13, li_14, li_15, li_16, li_17, li_18, li_19, li_20, li_21, li_22, li_23, li_24, li_25, li_26, li_27, li_28, li_29, li_30, li_31, li_32, li_37, li_38, li_39, li_40, li_41, li_42, li_43, li_44, li_45, li_46, li_47, li_48, li_49, li_50, li_57, li_59, li_60, li_61, li_62, li_63, li_64, li_65, li_69, li_81, li_89, li_90, li_92, li_97, li_99, li_100, li_101, li_103, li_104, li_105, li_106, li_108, li_111, li_112, li_113, li_114, li_115, li_116, li_117, li_119, li_122, li_123, li_124, li_125, li_126, li_127, li_128, li_129, li_130, li_131, li_132, li_133, li_134, li_135, li_136, li_137, li_140, li_141, li_142, li_143, li_145, li_147, li_150, li_153, li_159, li_160, li_161, li_162, li_185, li_197, li_213, li_222, li_223, li_255, li_256, li_257, li_258, li_259, li_260, li_261, li_262, li_263, li_264, li_271, li_272, li_273, li_274, li_275, li_276, li_277, li_278, li_300, li_400, li_420, li_500, li_802, li_820, li_823, li_839, li_855, li_871, li_887, li_999, li_1000, li_1001, li_1002, li_1003, li_1004, li_1005, li_1006, li_1007, li_1008, li_1009, li_1010, li_1011, li_1012, li_1013, li_1014, li_1015, li_1016, li_1017, li_1018, li_1019, li_1020, li_1021, li_1022, li_1023, li_1707, li_4096, li_9999, li_65536, li_100000, li_1000000, li_1664525, li_100000000, li_252645135, li_858993459, li_1000000007, li_1013904223, li_1431655765, li_m1]
  refine wp_it1 (fun q a m' => ∃ i, i ≤ z ∧ q = z - i ∧ a = nI i ∧ (∀ x, x ≠ 4 → m' x = m x) ∧ Fx m' ∧ (∀ h, h < i → m' 4 (h * 8 + 6) = nI (gvR A D h r)) ∧ ∀ h c, h < z → c < 8 → c ≠ 6 → m' 4 (h * 8 + c) = m 4 (h * 8 + c)) ?_ N z _ _ (by omega) ⟨0, by omega, rfl, rfl, fun _ _ => rfl, hF, fun h hh => absurd hh (by omega), fun _ _ _ _ _ => rfl⟩
  rintro q X a m1 ⟨i, hi, rfl, rfl, a1, a2, a3, a4⟩ hX
  have e3 : m1 3 3 = nI z := by rw [a1 3 (by decide)]; exact h3
  unfold f_X1_seat_L2
  simp only [li_0, li_1, li_2, li_3, li_4, li_5, li_6, li_7, li_8, li_9, li_10, li_11, li_12, li_13, li_14, li_15, li_16, li_17, li_18, li_19, li_20, li_21, li_22, li_23, li_24, li_25, li_26, li_27, li_28, li_29, li_30, li_31, li_32, li_37, li_38, li_39, li_40, li_41, li_42, li_43, li_44, li_45, li_46, li_47, li_48, li_49, li_50, li_57, li_59, li_60, li_61, li_62, li_63, li_64, li_65, li_69, li_81, li_89, li_90, li_92, li_97, li_99, li_100, li_101, li_103, li_104, li_105, li_106, li_108, li_111, li_112, li_113, li_114, li_115, li_116, li_117, li_119, li_122, li_123, li_124, li_125, li_126, li_127, li_128, li_129, li_130, li_131, li_132, li_133, li_134, li_135, li_136, li_137, li_140, li_141, li_142, li_143, li_145, li_147, li_150, li_153, li_159, li_160, li_161, li_162, li_185, li_197, li_213, li_222, li_223, li_255, li_256, li_257, li_258, li_259, li_260, li_261, li_262, li_263, li_264, li_271, li_272, li_273, li_274, li_275, li_276, li_277, li_278, li_300, li_400, li_420, li_500, li_802, li_820, li_823, li_839, li_855, li_871, li_887, li_999, li_1000, li_1001, li_1002, li_1003, li_1004, li_1005, li_1006, li_1007, li_1008, li_1009, li_1010, li_1011, li_1012, li_1013, li_1014, li_1015, li_1016, li_1017, li_1018, li_1019, li_1020, li_1021, li_1022, li_1023, li_1707, li_4096, li_9999, li_65536, li_100000, li_1000000, li_1664525, li_100000000, li_252645135, li_858993459, li_1000000007, li_1013904223, li_1431655765, li_m1]
  rw [e3]
  by_cases qz : z ≤ i
  · rw [if_pos (nI_le qz (by omega))]
    have : i = z := by omega
    subst this
    exact wp_ret ⟨a1, a2, a3, a4⟩
  · rw [if_neg (nI_ge (by omega) (by omega))]
    have e19 : m1 19 3 = nI r := by rw [a1 19 (by decide)]; exact h19
    refine wp_it2 (fun q a c m' => ∃ l, l ≤ r ∧ q = r - l ∧ a = nI (gvR A D i l) ∧ c = nI l ∧ m' = m1) ?_ N r _ _ _ (by omega) ⟨0, by omega, rfl, rfl, rfl, rfl⟩
    rintro q Y a c m2 ⟨l, hl, rfl, rfl, rfl, rfl⟩ hY
    unfold f_X1_seat_L17
    simp only [li_0, li_1, li_2, li_3, li_4, li_5, li_6, li_7, li_8, li_9, li_10, li_11, li_12, li_13, li_14, li_15, li_16, li_17, li_18, li_19, li_20, li_21, li_22, li_23, li_24, li_25, li_26, li_27, li_28, li_29, li_30, li_31, li_32, li_37, li_38, li_39, li_40, li_41, li_42, li_43, li_44, li_45, li_46, li_47, li_48, li_49, li_50, li_57, li_59, li_60, li_61, li_62, li_63, li_64, li_65, li_69, li_81, li_89, li_90, li_92, li_97, li_99, li_100, li_101, li_103, li_104, li_105, li_106, li_108, li_111, li_112, li_113, li_114, li_115, li_116, li_117, li_119, li_122, li_123, li_124, li_125, li_126, li_127, li_128, li_129, li_130, li_131, li_132, li_133, li_134, li_135, li_136, li_137, li_140, li_141, li_142, li_143, li_145, li_147, li_150, li_153, li_159, li_160, li_161, li_162, li_185, li_197, li_213, li_222, li_223, li_255, li_256, li_257, li_258, li_259, li_260, li_261, li_262, li_263, li_264, li_271, li_272, li_273, li_274, li_275, li_276, li_277, li_278, li_300, li_400, li_420, li_500, li_802, li_820, li_823, li_839, li_855, li_871, li_887, li_999, li_1000, li_1001, li_1002, li_1003, li_1004, li_1005, li_1006, li_1007, li_1008, li_1009, li_1010, li_1011, li_1012, li_1013, li_1014, li_1015, li_1016, li_1017, li_1018, li_1019, li_1020, li_1021, li_1022, li_1023, li_1707, li_4096, li_9999, li_65536, li_100000, li_1000000, li_1664525, li_100000000, li_252645135, li_858993459, li_1000000007, li_1013904223, li_1431655765, li_m1]
    rw [e19]
    by_cases ql : r ≤ l
    · rw [if_pos (nI_le ql (by omega)), e_put a2 t3 e3 hz (by omega) (by decide), bd_s, nI_up]
      have : l = r := by omega
      subst this
      refine hX (z - (i + 1)) _ _ (by omega) ⟨i + 1, by omega, rfl, rfl, fun y hy => by rw [mset_ne hy]; exact a1 y hy, a2.cell t3, fun h hh => ?_, fun h c hh hc hc6 => ?_⟩
      · show mset m2 4 (i * 8 + 6) (nI (gvR A D i l)) 4 (h * 8 + 6) = _
        by_cases e : h = i
        · subst e
          exact mset_at _ _ _ _
        · rw [mset_j (by omega)]
          exact a3 h (by omega)
      · show mset m2 4 (i * 8 + 6) (nI (gvR A D i l)) 4 (h * 8 + c) = _
        rw [mset_j (by omega)]
        exact a4 h c hh hc hc6
    · obtain ⟨k1, k2, k3, k4⟩ := hk l (by omega)
      have g1 : f_X9_at N 19 (nI l) (nI 1) m2 = some (nI (A l), m2) := by
        rw [e_at a2 t19 e19 hr (by omega) (by decide), show (19 + 1 : Nat) = 20 from rfl, a1 20 (by decide), k1]
      have g2 : f_X9_at N 19 (nI l) (nI 2) m2 = some (nI (D l), m2) := by
        rw [e_at a2 t19 e19 hr (by omega) (by decide), show (19 + 1 : Nat) = 20 from rfl, a1 20 (by decide), k2]
      have key : ∀ v, v = (if A l = i then gvR A D i l ||| 2 ^ D l else gvR A D i l) → Wp (f_X1_seat_J55 N (nI i) (fun k2_88 mk88 => bd (f_X9_put N 3 (nI i) (nI 6) k2_88 mk88) fun x m_96 => X (nI i + nI 1) m_96) Y (nI v) (nI l) m2) (fun x m' => (∀ x, x ≠ 4 → m' x = m x) ∧ Fx m' ∧ (∀ h, h < z → m' 4 (h * 8 + 6) = nI (gvR A D h r)) ∧ ∀ h c, h < z → c < 8 → c ≠ 6 → m' 4 (h * 8 + c) = m 4 (h * 8 + c)) := by
        rintro v hv
        unfold f_X1_seat_J55
        simp only [li_0, li_1, li_2, li_3, li_4, li_5, li_6, li_7, li_8, li_9, li_10, li_11, li_12, li_13, li_14, li_15, li_16, li_17, li_18, li_19, li_20, li_21, li_22, li_23, li_24, li_25, li_26, li_27, li_28, li_29, li_30, li_31, li_32, li_37, li_38, li_39, li_40, li_41, li_42, li_43, li_44, li_45, li_46, li_47, li_48, li_49, li_50, li_57, li_59, li_60, li_61, li_62, li_63, li_64, li_65, li_69, li_81, li_89, li_90, li_92, li_97, li_99, li_100, li_101, li_103, li_104, li_105, li_106, li_108, li_111, li_112, li_113, li_114, li_115, li_116, li_117, li_119, li_122, li_123, li_124, li_125, li_126, li_127, li_128, li_129, li_130, li_131, li_132, li_133, li_134, li_135, li_136, li_137, li_140, li_141, li_142, li_143, li_145, li_147, li_150, li_153, li_159, li_160, li_161, li_162, li_185, li_197, li_213, li_222, li_223, li_255, li_256, li_257, li_258, li_259, li_260, li_261, li_262, li_263, li_264, li_271, li_272, li_273, li_274, li_275, li_276, li_277, li_278, li_300, li_400, li_420, li_500, li_802, li_820, li_823, li_839, li_855, li_871, li_887, li_999, li_1000, li_1001, li_1002, li_1003, li_1004, li_1005, li_1006, li_1007, li_1008, li_1009, li_1010, li_1011, li_1012, li_1013, li_1014, li_1015, li_1016, li_1017, li_1018, li_1019, li_1020, li_1021, li_1022, li_1023, li_1707, li_4096, li_9999, li_65536, li_100000, li_1000000, li_1664525, li_100000000, li_252645135, li_858993459, li_1000000007, li_1013904223, li_1431655765, li_m1]
        rw [g2, bd_s]
        refine wp_ite (fun y => ?_) (fun y => ?_) <;> rw [nI_eq (by omega) (by omega)] at y
        · rw [g1, bd_s, nz_one (by omega), nz_or, bnd_s, nI_up]
          refine hY (r - (l + 1)) _ _ _ (by omega) ⟨l + 1, by omega, rfl, ?_, rfl, rfl⟩
          rw [hv]
          show _ = nI (if D l = i then (if A l = i then gvR A D i l ||| 2 ^ D l else gvR A D i l) ||| 2 ^ A l else (if A l = i then gvR A D i l ||| 2 ^ D l else gvR A D i l))
          rw [if_pos y]
        · rw [nI_up]
          refine hY (r - (l + 1)) _ _ _ (by omega) ⟨l + 1, by omega, rfl, ?_, rfl, rfl⟩
          rw [hv]
          show _ = nI (if D l = i then (if A l = i then gvR A D i l ||| 2 ^ D l else gvR A D i l) ||| 2 ^ A l else (if A l = i then gvR A D i l ||| 2 ^ D l else gvR A D i l))
          rw [if_neg y]
      rw [if_neg (nI_ge (by omega) (by omega)), g1, bd_s]
      refine wp_ite (fun y => ?_) (fun y => ?_) <;> rw [nI_eq (by omega) (by omega)] at y
      · rw [g2, bd_s, nz_one (by omega), nz_or, bnd_s]
        exact key _ (by rw [if_pos y])
      · exact key _ (by rw [if_neg y])
end TAKE
