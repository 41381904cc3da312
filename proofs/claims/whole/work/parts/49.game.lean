/-! the game -/
section GAME
variable {w w' v0 : Arr} {LN : List Lin} {m m' m2 : Mem} {N d n h : Nat}
def gr (k : Nat) : Nat := [0, 1, 0, 1, 2, 3, 2].getD (k % 7) 0
theorem gr_lt (k : Nat) : gr k < 4 := by
  have : ∀ j, j < 7 → [0, 1, 0, 1, 2, 3, 2].getD j 0 < 4 := by decide
  exact this _ (Nat.mod_lt _ (by decide))
theorem irm7 : ∀ k, k < 61 → irm (nI k) (nI 7) = nI (k % 7) := by decide +kernel
theorem heap_is : ∀ j, j < 7 → heapL.getD j 0 = nI ([0, 1, 0, 1, 2, 3, 2].getD j 0) := by decide +kernel
theorem e_grundy {k : Nat} (hk : k < 61) : f_X5_grundy N (nI k) m = some (nI (gr k), m) := by
  have hm : k % 7 < 7 := Nat.mod_lt _ (by decide)
  unfold f_X5_grundy f_X5_grundy_J12
  simp only [li_0, li_1, li_2, li_3, li_4, li_5, li_6, li_7, li_8, li_9, li_10, li_11, li_12, li_13, li_14, li_15, li_16, li_17, li_18, li_19, li_20, li_21, li_22, li_23, li_24, li_25, li_26, li_27, li_28, li_29, li_30, li_31, li_32, li_37, li_38, li_39, li_40, li_41, li_42, li_43, li_44, li_45, li_46, li_47, li_48, li_49, li_50, li_57, li_59, li_60, li_61, li_62, li_63, li_64, li_65, li_69, li_81, li_89, li_90, li_92, li_97, li_99, li_100, li_101, li_103, li_104, li_105, li_106, li_108, li_111, li_112, li_113, li_114, li_115, li_116, li_117, li_119, li_122, li_123, li_124, li_125, li_126, li_127, li_128, li_129, li_130, li_131, li_132, li_133, li_134, li_135, li_136, li_137, li_140, li_141, li_142, li_143, li_145, li_147, li_150, li_153, li_159, li_160, li_161, li_162, li_185, li_197, li_213, li_222, li_223, li_255, li_256, li_257, li_258, li_259, li_260, li_261, li_262, li_263, li_264, li_271, li_272, li_273, li_274, li_275, li_276, li_277, li_278, li_300, li_400, li_420, li_500, li_802, li_820, li_823, li_839, li_855, li_871, li_887, li_999, li_1000, li_1001, li_1002, li_1003, li_1004, li_1005, li_1006, li_1007, li_1008, li_1009, li_1010, li_1011, li_1012, li_1013, li_1014, li_1015, li_1016, li_1017, li_1018, li_1019, li_1020, li_1021, li_1022, li_1023, li_1707, li_4096, li_9999, li_65536, li_100000, li_1000000, li_1664525, li_100000000, li_252645135, li_858993459, li_1000000007, li_1013904223, li_1431655765, li_m1]
  rw [if_neg (nI_no0 (by omega)), irm7 k hk, if_neg (nI_no0 (by omega)), if_neg (nI_ge hm (by decide)), inb_nI hm (by decide), chk_t, nI_clamp (by omega)]
  show some (heapL.getD (k % 7) 0, m) = _
  rw [heap_is _ hm]
  rfl
def tk (x l : Nat) : Int32 := if 1 ≤ l ∧ gr (l - 1) = x then nI 1 else if 3 ≤ l ∧ gr (l - 3) = x then nI 3 else if 4 ≤ l ∧ gr (l - 4) = x then nI 4 else mo1
theorem tk_run {α : Type} {x l : Nat} (d4 : 1 ≤ l) (F : Nat → α) (K : α) : ∃ t, ((t = 0 ∧ tk x l = mo1) ∨ (1 ≤ t ∧ t < 5 ∧ tk x l = nI t)) ∧
    (if gr (l - 1) = x then F 1 else if l < 2 then K else if l < 3 then K else if gr (l - 3) = x then F 3 else if l < 4 then K else if gr (l - 4) = x then F 4 else K) = if t = 0 then K else F t := by
  have T : tk x l = if 1 ≤ l ∧ gr (l - 1) = x then nI 1 else if 3 ≤ l ∧ gr (l - 3) = x then nI 3 else if 4 ≤ l ∧ gr (l - 4) = x then nI 4 else mo1 := rfl
  by_cases q1 : gr (l - 1) = x
  · rw [if_pos ⟨d4, q1⟩] at T
    rw [if_pos q1]
    exact ⟨1, Or.inr ⟨by decide, by decide, T⟩, rfl⟩
  · rw [if_neg (fun z => q1 z.2)] at T
    rw [if_neg q1]
    by_cases q2 : l < 2
    · rw [if_neg (fun z => by omega), if_neg (fun z => by omega)] at T
      rw [if_pos q2]
      exact ⟨0, Or.inl ⟨rfl, T⟩, rfl⟩
    · rw [if_neg q2]
      by_cases q3 : l < 3
      · rw [if_neg (fun z => by omega), if_neg (fun z => by omega)] at T
        rw [if_pos q3]
        exact ⟨0, Or.inl ⟨rfl, T⟩, rfl⟩
      · rw [if_neg q3]
        by_cases q4 : gr (l - 3) = x
        · rw [if_pos ⟨by omega, q4⟩] at T
          rw [if_pos q4]
          exact ⟨3, Or.inr ⟨by decide, by decide, T⟩, rfl⟩
        · rw [if_neg (fun z => q4 z.2)] at T
          rw [if_neg q4]
          by_cases q5 : l < 4
          · rw [if_neg (fun z => by omega)] at T
            rw [if_pos q5]
            exact ⟨0, Or.inl ⟨rfl, T⟩, rfl⟩
          · rw [if_neg q5]
            by_cases q6 : gr (l - 4) = x
            · rw [if_pos ⟨by omega, q6⟩] at T
              rw [if_pos q6]
              exact ⟨4, Or.inr ⟨by decide, by decide, T⟩, rfl⟩
            · rw [if_neg (fun z => q6 z.2)] at T
              rw [if_neg q6]
              exact ⟨0, Or.inl ⟨rfl, T⟩, rfl⟩
def xo (w : Arr) (h : Nat) : Nat → Nat
  | 0 => 0
  | n + 1 => xo w h n ^^^ if n = h then 0 else gr (lg w n)
def xa (w : Arr) : Nat → Nat
  | 0 => 0
  | n + 1 => xa w n ^^^ gr (lg w n)
theorem xo_lt : ∀ n, xo w h n < 4
  | 0 => by
    show 0 < 4
    decide
  | n + 1 => by
    have h1 := xo_lt n
    unfold xo
    refine Nat.xor_lt_two_pow (n := 2) h1 ?_
    split
    · decide
    · exact gr_lt _
theorem xa_lt : ∀ n, xa w n < 4
  | 0 => by
    show 0 < 4
    decide
  | n + 1 => Nat.xor_lt_two_pow (n := 2) (xa_lt n) (gr_lt _)
theorem xa_xo : ∀ n, xa w n = xo w h n ^^^ if h < n then gr (lg w h) else 0
  | 0 => by
    rw [if_neg (by omega), Nat.xor_zero]
    rfl
  | n + 1 => by
    have ih := xa_xo n
    unfold xa xo
    rw [ih]
    by_cases e : n = h
    · subst e
      rw [if_neg (by omega), if_pos rfl, if_pos (by omega), Nat.xor_zero]
    · rw [if_neg e]
      by_cases q : h < n
      · rw [if_pos q, if_pos (by omega), Nat.xor_assoc, Nat.xor_assoc, Nat.xor_comm (gr (lg w h))]
      · rw [if_neg q, if_neg (by omega), Nat.xor_zero, Nat.xor_zero]
theorem xa_h (hh : h < n) : xa w n ^^^ gr (lg w h) = xo w h n := by
  rw [xa_xo (h := h) n, if_pos hh, Nat.xor_assoc, Nat.xor_self, Nat.xor_zero]
theorem w_take (hN : 20000 ≤ N) (H : HRep 2 LN w m) (W0 : WFc w) (hh : h < zd w) : f_X5_winningTake N (nI h) m = some (tk (xo w h (zd w)) (lg w h), m) := by
  have ld := W0.lzd
  refine Wp.toEq ?_
  unfold f_X5_winningTake
  refine wp_it2 (fun n a c m' => ∃ i, i ≤ zd w ∧ n = zd w - i ∧ a = nI (xo w h i) ∧ c = nI i ∧ m' = m) ?_ N (zd w) _ _ _ (by omega) ⟨0, by omega, rfl, rfl, rfl, rfl⟩
  rintro n X a c m' ⟨i, hi, rfl, rfl, rfl, rfl⟩ hX
  unfold f_X5_winningTake_L4
  simp only [li_0, li_1, li_2, li_3, li_4, li_5, li_6, li_7, li_8, li_9, li_10, li_11, li_12, li_13, li_14, li_15, li_16, li_17, li_18, li_19, li_20, li_21, li_22, li_23, li_24, li_25, li_26, li_27, li_28, li_29, li_30, li_31, li_32, li_37, li_38, li_39, li_40, li_41, li_42, li_43, li_44, li_45, li_46, li_47, li_48, li_49, li_50, li_57, li_59, li_60, li_61, li_62, li_63, li_64, li_65, li_69, li_81, li_89, li_90, li_92, li_97, li_99, li_100, li_101, li_103, li_104, li_105, li_106, li_108, li_111, li_112, li_113, li_114, li_115, li_116, li_117, li_119, li_122, li_123, li_124, li_125, li_126, li_127, li_128, li_129, li_130, li_131, li_132, li_133, li_134, li_135, li_136, li_137, li_140, li_141, li_142, li_143, li_145, li_147, li_150, li_153, li_159, li_160, li_161, li_162, li_185, li_197, li_213, li_222, li_223, li_255, li_256, li_257, li_258, li_259, li_260, li_261, li_262, li_263, li_264, li_271, li_272, li_273, li_274, li_275, li_276, li_277, li_278, li_300, li_400, li_420, li_500, li_802, li_820, li_823, li_839, li_855, li_871, li_887, li_999, li_1000, li_1001, li_1002, li_1003, li_1004, li_1005, li_1006, li_1007, li_1008, li_1009, li_1010, li_1011, li_1012, li_1013, li_1014, li_1015, li_1016, li_1017, li_1018, li_1019, li_1020, li_1021, li_1022, li_1023, li_1707, li_4096, li_9999, li_65536, li_100000, li_1000000, li_1664525, li_100000000, li_252645135, li_858993459, li_1000000007, li_1013904223, li_1431655765, li_m1, nI_up]
  rw [H.dee.1, W0.h38]
  refine wp_ite (fun q => ?_) (fun q => ?_)
  · rw [nI_leI (by omega) (by omega)] at q
    have : i = zd w := by omega
    subst this
    obtain ⟨-, -, d3, d4, d5⟩ := dee_v W0 hh
    rw [hr_dee H W0 hh (by decide), bd_s, show deeV w h 1 = nI (lg w h) from d3]
    have hx := xo_lt (w := w) (h := h) (zd w)
    generalize xo w h (zd w) = x at hx
    generalize lg w h = l at d3 d4 d5
    have s5 : ∀ X : Int32 → Mem → Ans, f_X5_winningTake_L67 N (nI h) (nI x) (nI l) X (nI 5) m' = some (mo1, m') := fun X => by
      unfold f_X5_winningTake_L67
      simp only [li_0, li_1, li_2, li_3, li_4, li_5, li_6, li_7, li_8, li_9, li_10, li_11, li_12, li_13, li_14, li_15, li_16, li_17, li_18, li_19, li_20, li_21, li_22, li_23, li_24, li_25, li_26, li_27, li_28, li_29, li_30, li_31, li_32, li_37, li_38, li_39, li_40, li_41, li_42, li_43, li_44, li_45, li_46, li_47, li_48, li_49, li_50, li_57, li_59, li_60, li_61, li_62, li_63, li_64, li_65, li_69, li_81, li_89, li_90, li_92, li_97, li_99, li_100, li_101, li_103, li_104, li_105, li_106, li_108, li_111, li_112, li_113, li_114, li_115, li_116, li_117, li_119, li_122, li_123, li_124, li_125, li_126, li_127, li_128, li_129, li_130, li_131, li_132, li_133, li_134, li_135, li_136, li_137, li_140, li_141, li_142, li_143, li_145, li_147, li_150, li_153, li_159, li_160, li_161, li_162, li_185, li_197, li_213, li_222, li_223, li_255, li_256, li_257, li_258, li_259, li_260, li_261, li_262, li_263, li_264, li_271, li_272, li_273, li_274, li_275, li_276, li_277, li_278, li_300, li_400, li_420, li_500, li_802, li_820, li_823, li_839, li_855, li_871, li_887, li_999, li_1000, li_1001, li_1002, li_1003, li_1004, li_1005, li_1006, li_1007, li_1008, li_1009, li_1010, li_1011, li_1012, li_1013, li_1014, li_1015, li_1016, li_1017, li_1018, li_1019, li_1020, li_1021, li_1022, li_1023, li_1707, li_4096, li_9999, li_65536, li_100000, li_1000000, li_1664525, li_100000000, li_252645135, li_858993459, li_1000000007, li_1013904223, li_1431655765, li_m1]
      rw [if_pos (by decide)]
    have st : ∀ (X : Int32 → Mem → Ans) (t : Nat), 1 ≤ t → t ≤ 4 → t ≠ 2 → f_X5_winningTake_L67 N (nI h) (nI x) (nI l) X (nI t) m' = if l < t then some (mo1, m') else if gr (l - t) = x then some (nI t, m') else X (nI (t + 1)) m' := fun X t h1 h4 h2 => by
      unfold f_X5_winningTake_L67
      simp only [li_0, li_1, li_2, li_3, li_4, li_5, li_6, li_7, li_8, li_9, li_10, li_11, li_12, li_13, li_14, li_15, li_16, li_17, li_18, li_19, li_20, li_21, li_22, li_23, li_24, li_25, li_26, li_27, li_28, li_29, li_30, li_31, li_32, li_37, li_38, li_39, li_40, li_41, li_42, li_43, li_44, li_45, li_46, li_47, li_48, li_49, li_50, li_57, li_59, li_60, li_61, li_62, li_63, li_64, li_65, li_69, li_81, li_89, li_90, li_92, li_97, li_99, li_100, li_101, li_103, li_104, li_105, li_106, li_108, li_111, li_112, li_113, li_114, li_115, li_116, li_117, li_119, li_122, li_123, li_124, li_125, li_126, li_127, li_128, li_129, li_130, li_131, li_132, li_133, li_134, li_135, li_136, li_137, li_140, li_141, li_142, li_143, li_145, li_147, li_150, li_153, li_159, li_160, li_161, li_162, li_185, li_197, li_213, li_222, li_223, li_255, li_256, li_257, li_258, li_259, li_260, li_261, li_262, li_263, li_264, li_271, li_272, li_273, li_274, li_275, li_276, li_277, li_278, li_300, li_400, li_420, li_500, li_802, li_820, li_823, li_839, li_855, li_871, li_887, li_999, li_1000, li_1001, li_1002, li_1003, li_1004, li_1005, li_1006, li_1007, li_1008, li_1009, li_1010, li_1011, li_1012, li_1013, li_1014, li_1015, li_1016, li_1017, li_1018, li_1019, li_1020, li_1021, li_1022, li_1023, li_1707, li_4096, li_9999, li_65536, li_100000, li_1000000, li_1664525, li_100000000, li_252645135, li_858993459, li_1000000007, li_1013904223, li_1431655765, li_m1, nI_up]
      rw [if_neg (nI_nlt (by omega) (by omega)), if_neg (nI_ne h2 (by omega) (by decide))]
      by_cases q : l < t
      · rw [if_pos (nI_lt q (by omega)), if_pos q]
      · have g := gr_lt (l - t)
        rw [if_neg (nI_nlt (by omega) (by omega)), if_neg q, pk_sub (by omega), e_grundy (by omega), bd_s]
        by_cases q2 : gr (l - t) = x
        · rw [if_pos (by rw [q2]), if_pos q2]
        · rw [if_neg (nI_ne q2 (by omega) (by omega)), if_neg q2]
    have s2 : ∀ X : Int32 → Mem → Ans, f_X5_winningTake_L67 N (nI h) (nI x) (nI l) X (nI 2) m' = if l < 2 then some (mo1, m') else X (nI 3) m' := fun X => by
      unfold f_X5_winningTake_L67
      simp only [li_0, li_1, li_2, li_3, li_4, li_5, li_6, li_7, li_8, li_9, li_10, li_11, li_12, li_13, li_14, li_15, li_16, li_17, li_18, li_19, li_20, li_21, li_22, li_23, li_24, li_25, li_26, li_27, li_28, li_29, li_30, li_31, li_32, li_37, li_38, li_39, li_40, li_41, li_42, li_43, li_44, li_45, li_46, li_47, li_48, li_49, li_50, li_57, li_59, li_60, li_61, li_62, li_63, li_64, li_65, li_69, li_81, li_89, li_90, li_92, li_97, li_99, li_100, li_101, li_103, li_104, li_105, li_106, li_108, li_111, li_112, li_113, li_114, li_115, li_116, li_117, li_119, li_122, li_123, li_124, li_125, li_126, li_127, li_128, li_129, li_130, li_131, li_132, li_133, li_134, li_135, li_136, li_137, li_140, li_141, li_142, li_143, li_145, li_147, li_150, li_153, li_159, li_160, li_161, li_162, li_185, li_197, li_213, li_222, li_223, li_255, li_256, li_257, li_258, li_259, li_260, li_261, li_262, li_263, li_264, li_271, li_272, li_273, li_274, li_275, li_276, li_277, li_278, li_300, li_400, li_420, li_500, li_802, li_820, li_823, li_839, li_855, li_871, li_887, li_999, li_1000, li_1001, li_1002, li_1003, li_1004, li_1005, li_1006, li_1007, li_1008, li_1009, li_1010, li_1011, li_1012, li_1013, li_1014, li_1015, li_1016, li_1017, li_1018, li_1019, li_1020, li_1021, li_1022, li_1023, li_1707, li_4096, li_9999, li_65536, li_100000, li_1000000, li_1664525, li_100000000, li_252645135, li_858993459, li_1000000007, li_1013904223, li_1431655765, li_m1]
      rw [if_neg (by decide)]
      by_cases q : l < 2
      · rw [if_pos (nI_lt q (by omega)), if_pos q]
      · rw [if_neg (nI_nlt (by omega) (by omega)), if_neg q, if_pos trivial]
        rfl
    obtain ⟨N', rfl⟩ : ∃ N', N = N' + 5 := ⟨N - 5, by omega⟩
    show Wp (f_X5_winningTake_L67 _ (nI h) (nI x) (nI l) (f_X5_winningTake_L67 _ (nI h) (nI x) (nI l) (f_X5_winningTake_L67 _ (nI h) (nI x) (nI l) (f_X5_winningTake_L67 _ (nI h) (nI x) (nI l) (f_X5_winningTake_L67 _ (nI h) (nI x) (nI l) (it1 _ N'))))) (nI 1) m') _
    rw [st _ 1 (by decide) (by decide) (by decide), s2, st _ 3 (by decide) (by decide) (by decide), st _ 4 (by decide) (by decide) (by decide), s5, if_neg (show ¬ l < 1 by omega)]
    obtain ⟨t, ht, eR⟩ := tk_run (x := x) d4 (fun t => (some (nI t, m') : Ans)) (some (mo1, m'))
    refine wp_eq eR ?_
    rcases ht with ⟨rfl, e⟩ | ⟨h1, h5, e⟩
    · rw [if_pos rfl, e]
      exact wp_ret ⟨rfl, rfl⟩
    · rw [if_neg (by omega), e]
      exact wp_ret ⟨rfl, rfl⟩
  · rw [nI_leI (by omega) (by omega)] at q
    have hB : xo w h (i + 1) = xo w h i ^^^ if i = h then 0 else gr (lg w i) := rfl
    by_cases e : i = h
    · subst e
      rw [if_pos rfl, nz_xor, bnd_s]
      rw [if_pos rfl] at hB
      exact hX (zd w - (i + 1)) _ _ _ (by omega) ⟨i + 1, by omega, rfl, by rw [hB], rfl, rfl⟩
    · obtain ⟨-, -, d3, d4, d5⟩ := dee_v W0 (show i < zd w by omega)
      rw [if_neg (nI_ne e (by omega) (by omega)), hr_dee H W0 (by omega) (by decide), bd_s, show deeV w i 1 = nI (lg w i) from d3, e_grundy (by omega), bd_s, nz_xor, bnd_s]
      rw [if_neg e] at hB
      exact hX (zd w - (i + 1)) _ _ _ (by omega) ⟨i + 1, by omega, rfl, by rw [hB], rfl, rfl⟩
/-- what the game answers: the first heap and its take -/
def GamV (w : Arr) (o : Option Nat) : Prop := match o with
  | none => ∀ h, h < zd w → tk (xo w h (zd w)) (lg w h) = mo1
  | some h => h < zd w ∧ tk (xo w h (zd w)) (lg w h) ≠ mo1 ∧ ∀ j, j < h → tk (xo w j (zd w)) (lg w j) = mo1
def gamR (w : Arr) (a : Int32) (o : Option Nat) : Int32 := match o with
  | none => mo1
  | some h => if a = nI 0 then nI h else tk (xo w h (zd w)) (lg w h)
theorem GamV.uni {o p : Option Nat} (h1 : GamV w o) (h2 : GamV w p) : o = p := by
  cases o with
  | none => cases p with
    | none => rfl
    | some b => exact absurd (h1 b h2.1) h2.2.1
  | some a => cases p with
    | none => exact absurd (h2 a h1.1) h1.2.1
    | some b =>
      rcases Nat.lt_trichotomy a b with h | h | h
      · exact absurd (h2.2.2 a h) h1.2.1
      · rw [h]
      · exact absurd (h1.2.2 b h) h2.2.1
theorem w_heap (hN : 20000 ≤ N) (H : HRep 2 LN w m) (W0 : WFc w) : ∃ o, GamV w o ∧ f_X5_winningHeap N m = some (oix o, m) := by
  have ld := W0.lzd
  have : Wp (f_X5_winningHeap N m) (fun v m' => ∃ o, GamV w o ∧ v = oix o ∧ m' = m) := by
    unfold f_X5_winningHeap
    refine wp_it1 (fun n c m' => ∃ i, i ≤ zd w ∧ n = zd w - i ∧ c = nI i ∧ m' = m ∧ ∀ j, j < i → tk (xo w j (zd w)) (lg w j) = mo1) ?_ N (zd w) _ _ (by omega) ⟨0, by omega, rfl, rfl, rfl, fun j hj => absurd hj (by omega)⟩
    rintro n X c m' ⟨i, hi, rfl, rfl, rfl, hj⟩ hX
    unfold f_X5_winningHeap_L2
    simp only [li_0, li_1, li_2, li_3, li_4, li_5, li_6, li_7, li_8, li_9, li_10, li_11, li_12, li_13, li_14, li_15, li_16, li_17, li_18, li_19, li_20, li_21, li_22, li_23, li_24, li_25, li_26, li_27, li_28, li_29, li_30, li_31, li_32, li_37, li_38, li_39, li_40, li_41, li_42, li_43, li_44, li_45, li_46, li_47, li_48, li_49, li_50, li_57, li_59, li_60, li_61, li_62, li_63, li_64, li_65, li_69, li_81, li_89, li_90, li_92, li_97, li_99, li_100, li_101, li_103, li_104, li_105, li_106, li_108, li_111, li_112, li_113, li_114, li_115, li_116, li_117, li_119, li_122, li_123, li_124, li_125, li_126, li_127, li_128, li_129, li_130, li_131, li_132, li_133, li_134, li_135, li_136, li_137, li_140, li_141, li_142, li_143, li_145, li_147, li_150, li_153, li_159, li_160, li_161, li_162, li_185, li_197, li_213, li_222, li_223, li_255, li_256, li_257, li_258, li_259, li_260, li_261, li_262, li_263, li_264, li_271, li_272, li_273, li_274, li_275, li_276, li_277, li_278, li_300, li_400, li_420, li_500, li_802, li_820, li_823, li_839, li_855, li_871, li_887, li_999, li_1000, li_1001, li_1002, li_1003, li_1004, li_1005, li_1006, li_1007, li_1008, li_1009, li_1010, li_1011, li_1012, li_1013, li_1014, li_1015, li_1016, li_1017, li_1018, li_1019, li_1020, li_1021, li_1022, li_1023, li_1707, li_4096, li_9999, li_65536, li_100000, li_1000000, li_1664525, li_100000000, li_252645135, li_858993459, li_1000000007, li_1013904223, li_1431655765, li_m1, nI_up]
    rw [H.dee.1, W0.h38]
    refine wp_ite (fun q => ?_) (fun q => ?_)
    · rw [nI_leI (by omega) (by omega)] at q
      exact wp_ret ⟨none, fun h hh => hj h (by omega), rfl, rfl⟩
    · rw [nI_leI (by omega) (by omega)] at q
      rw [w_take hN H W0 (by omega), bd_s]
      refine wp_ite (fun q2 => ?_) (fun q2 => ?_)
      · refine hX (zd w - (i + 1)) _ _ (by omega) ⟨i + 1, by omega, rfl, rfl, rfl, fun j hj2 => ?_⟩
        by_cases e : j = i
        · subst e; exact q2
        · exact hj j (by omega)
      · exact wp_ret ⟨some i, ⟨by omega, q2, hj⟩, rfl, rfl⟩
  obtain ⟨v, m', e, o, h1, rfl, rfl⟩ := this
  exact ⟨o, h1, e⟩
/-! the reference's table -/
def msk (n : Nat) : Nat := ((if n = 0 then 0 else 2 ^ gr (n - 1)) ||| (if n ≤ 2 then 0 else 2 ^ gr (n - 3))) ||| (if n ≤ 3 then 0 else 2 ^ gr (n - 4))
theorem msk_ok : ∀ n, n < 61 → msk n < 16 ∧ (msk n).testBit (gr n) = false ∧ ∀ v, v < gr n → (msk n).testBit v = true := by decide +kernel
theorem w_nims (hN : 20000 ≤ N) : Wp (f_X12_laysNims N m) (fun _ m' => (∀ n, n < 61 → m' 137 n = nI (gr n)) ∧ Fr [(137, 137)] m m') := by
  unfold f_X12_laysNims
  refine wp_it1 (fun n c m' => ∃ i, i ≤ 61 ∧ n = 61 - i ∧ c = nI i ∧ (∀ n, n < i → m' 137 n = nI (gr n)) ∧ Fr [(137, 137)] m m') ?_ N 61 _ _ (by omega) ⟨0, by omega, rfl, rfl, fun j hj => absurd hj (by omega), Fr.rf⟩
  rintro n X c m' ⟨i, hi, rfl, rfl, hj, f'⟩ hX
  unfold f_X12_laysNims_L2
  simp only [li_0, li_1, li_2, li_3, li_4, li_5, li_6, li_7, li_8, li_9, li_10, li_11, li_12, li_13, li_14, li_15, li_16, li_17, li_18, li_19, li_20, li_21, li_22, li_23, li_24, li_25, li_26, li_27, li_28, li_29, li_30, li_31, li_32, li_37, li_38, li_39, li_40, li_41, li_42, li_43, li_44, li_45, li_46, li_47, li_48, li_49, li_50, li_57, li_59, li_60, li_61, li_62, li_63, li_64, li_65, li_69, li_81, li_89, li_90, li_92, li_97, li_99, li_100, li_101, li_103, li_104, li_105, li_106, li_108, li_111, li_112, li_113, li_114, li_115, li_116, li_117, li_119, li_122, li_123, li_124, li_125, li_126, li_127, li_128, li_129, li_130, li_131, li_132, li_133, li_134, li_135, li_136, li_137, li_140, li_141, li_142, li_143, li_145, li_147, li_150, li_153, li_159, li_160, li_161, li_162, li_185, li_197, li_213, li_222, li_223, li_255, li_256, li_257, li_258, li_259, li_260, li_261, li_262, li_263, li_264, li_271, li_272, li_273, li_274, li_275, li_276, li_277, li_278, li_300, li_400, li_420, li_500, li_802, li_820, li_823, li_839, li_855, li_871, li_887, li_999, li_1000, li_1001, li_1002, li_1003, li_1004, li_1005, li_1006, li_1007, li_1008, li_1009, li_1010, li_1011, li_1012, li_1013, li_1014, li_1015, li_1016, li_1017, li_1018, li_1019, li_1020, li_1021, li_1022, li_1023, li_1707, li_4096, li_9999, li_65536, li_100000, li_1000000, li_1664525, li_100000000, li_252645135, li_858993459, li_1000000007, li_1013904223, li_1431655765, li_m1]
  refine wp_ite (fun q => ?_) (fun q => ?_)
  · rw [nI_ltI (by decide) (by omega)] at q
    exact wp_ret ⟨fun n hn => hj n (by omega), f'⟩
  · rw [nI_ltI (by decide) (by omega)] at q
    obtain ⟨k1, k2, k3⟩ := msk_ok i (by omega)
    have J69 : ∀ (a b : Nat), a ||| b = msk i → Wp (f_X12_laysNims_J69 N X (nI i) (nI b) (nI a) m') (fun _ m' => (∀ n, n < 61 → m' 137 n = nI (gr n)) ∧ Fr [(137, 137)] m m') := by
      intro a b hab
      unfold f_X12_laysNims_J69
      rw [nz_or, hab, bnd_s, inb_nI (by omega) (by omega), chk_t, nI_clamp (by omega), bnd_s]
      refine wp_it0 (fun n m3 => ∃ v, v ≤ gr i ∧ n = gr i - v ∧ m3 137 i = nI v ∧ (∀ n, n < i → m3 137 n = nI (gr n)) ∧ Fr [(137, 137)] m m3) ?_ N (gr i) _ (by have := gr_lt i; omega)
        ⟨0, Nat.zero_le _, rfl, mset_at _ _ _ _, fun n hn => by rw [mset_j (by omega)]; exact hj n hn, Fr.set f' (by decide)⟩
      rintro n X' m3 ⟨v, hv, rfl, e3, h3, f3⟩ hX'
      have g := gr_lt i
      unfold f_X12_laysNims_L78
      simp only [li_0, li_1, li_2, li_3, li_4, li_5, li_6, li_7, li_8, li_9, li_10, li_11, li_12, li_13, li_14, li_15, li_16, li_17, li_18, li_19, li_20, li_21, li_22, li_23, li_24, li_25, li_26, li_27, li_28, li_29, li_30, li_31, li_32, li_37, li_38, li_39, li_40, li_41, li_42, li_43, li_44, li_45, li_46, li_47, li_48, li_49, li_50, li_57, li_59, li_60, li_61, li_62, li_63, li_64, li_65, li_69, li_81, li_89, li_90, li_92, li_97, li_99, li_100, li_101, li_103, li_104, li_105, li_106, li_108, li_111, li_112, li_113, li_114, li_115, li_116, li_117, li_119, li_122, li_123, li_124, li_125, li_126, li_127, li_128, li_129, li_130, li_131, li_132, li_133, li_134, li_135, li_136, li_137, li_140, li_141, li_142, li_143, li_145, li_147, li_150, li_153, li_159, li_160, li_161, li_162, li_185, li_197, li_213, li_222, li_223, li_255, li_256, li_257, li_258, li_259, li_260, li_261, li_262, li_263, li_264, li_271, li_272, li_273, li_274, li_275, li_276, li_277, li_278, li_300, li_400, li_420, li_500, li_802, li_820, li_823, li_839, li_855, li_871, li_887, li_999, li_1000, li_1001, li_1002, li_1003, li_1004, li_1005, li_1006, li_1007, li_1008, li_1009, li_1010, li_1011, li_1012, li_1013, li_1014, li_1015, li_1016, li_1017, li_1018, li_1019, li_1020, li_1021, li_1022, li_1023, li_1707, li_4096, li_9999, li_65536, li_100000, li_1000000, li_1664525, li_100000000, li_252645135, li_858993459, li_1000000007, li_1013904223, li_1431655765, li_m1]
      rw [inb_nI (by omega) (by omega), chk_t, chk_t, chk_t, nI_clamp (by omega), e3]
      refine wp_ite (fun qb => ?_) (fun qb => ?_) <;> rw [nz_bit (by omega) (by omega)] at qb
      · have : v ≠ gr i := fun z => by
          rw [z, k2] at qb
          cases qb
        rw [bnd_s, nI_up]
        exact hX' (gr i - (v + 1)) _ (by omega) ⟨v + 1, by omega, rfl, mset_at _ _ _ _, fun n hn => by rw [mset_j (by omega)]; exact h3 n hn, Fr.set f3 (by decide)⟩
      · have : v = gr i := by
          by_cases e : v < gr i
          · exact absurd (k3 v e) qb
          · omega
        rw [nI_up]
        refine hX (61 - (i + 1)) _ _ (by omega) ⟨i + 1, by omega, rfl, rfl, fun n hn => ?_, f3⟩
        by_cases e : n = i
        · subst e; rw [e3, this]
        · exact h3 n (by omega)
    have J47 : ∀ (a b : Nat), (a ||| b) ||| (if i ≤ 3 then 0 else 2 ^ gr (i - 4)) = msk i → Wp (f_X12_laysNims_J47 N X (nI i) (nI b) (nI a) m') (fun _ m' => (∀ n, n < 61 → m' 137 n = nI (gr n)) ∧ Fr [(137, 137)] m m') := by
      intro a b hab
      unfold f_X12_laysNims_J47
      simp only [li_0, li_1, li_2, li_3, li_4, li_5, li_6, li_7, li_8, li_9, li_10, li_11, li_12, li_13, li_14, li_15, li_16, li_17, li_18, li_19, li_20, li_21, li_22, li_23, li_24, li_25, li_26, li_27, li_28, li_29, li_30, li_31, li_32, li_37, li_38, li_39, li_40, li_41, li_42, li_43, li_44, li_45, li_46, li_47, li_48, li_49, li_50, li_57, li_59, li_60, li_61, li_62, li_63, li_64, li_65, li_69, li_81, li_89, li_90, li_92, li_97, li_99, li_100, li_101, li_103, li_104, li_105, li_106, li_108, li_111, li_112, li_113, li_114, li_115, li_116, li_117, li_119, li_122, li_123, li_124, li_125, li_126, li_127, li_128, li_129, li_130, li_131, li_132, li_133, li_134, li_135, li_136, li_137, li_140, li_141, li_142, li_143, li_145, li_147, li_150, li_153, li_159, li_160, li_161, li_162, li_185, li_197, li_213, li_222, li_223, li_255, li_256, li_257, li_258, li_259, li_260, li_261, li_262, li_263, li_264, li_271, li_272, li_273, li_274, li_275, li_276, li_277, li_278, li_300, li_400, li_420, li_500, li_802, li_820, li_823, li_839, li_855, li_871, li_887, li_999, li_1000, li_1001, li_1002, li_1003, li_1004, li_1005, li_1006, li_1007, li_1008, li_1009, li_1010, li_1011, li_1012, li_1013, li_1014, li_1015, li_1016, li_1017, li_1018, li_1019, li_1020, li_1021, li_1022, li_1023, li_1707, li_4096, li_9999, li_65536, li_100000, li_1000000, li_1664525, li_100000000, li_252645135, li_858993459, li_1000000007, li_1013904223, li_1431655765, li_m1]
      rw [nz_or, bnd_s]
      refine wp_ite (fun q => ?_) (fun q => ?_) <;> rw [nI_leI (by omega) (by decide)] at q
      · rw [if_pos q] at hab
        exact J69 _ 0 hab
      · rw [if_neg q] at hab
        have g := gr_lt (i - 4)
        rw [pk_sub (by omega), inb_nI (by omega) (by omega), chk_t, nI_clamp (by omega), hj _ (by omega), nz_one (by omega)]
        exact J69 _ _ hab
    have J26 : ∀ (a : Nat), (a ||| (if i ≤ 2 then 0 else 2 ^ gr (i - 3))) ||| (if i ≤ 3 then 0 else 2 ^ gr (i - 4)) = msk i → Wp (f_X12_laysNims_J26 N X (nI i) (nI a) m') (fun _ m' => (∀ n, n < 61 → m' 137 n = nI (gr n)) ∧ Fr [(137, 137)] m m') := by
      intro a ha
      unfold f_X12_laysNims_J26
      simp only [li_0, li_1, li_2, li_3, li_4, li_5, li_6, li_7, li_8, li_9, li_10, li_11, li_12, li_13, li_14, li_15, li_16, li_17, li_18, li_19, li_20, li_21, li_22, li_23, li_24, li_25, li_26, li_27, li_28, li_29, li_30, li_31, li_32, li_37, li_38, li_39, li_40, li_41, li_42, li_43, li_44, li_45, li_46, li_47, li_48, li_49, li_50, li_57, li_59, li_60, li_61, li_62, li_63, li_64, li_65, li_69, li_81, li_89, li_90, li_92, li_97, li_99, li_100, li_101, li_103, li_104, li_105, li_106, li_108, li_111, li_112, li_113, li_114, li_115, li_116, li_117, li_119, li_122, li_123, li_124, li_125, li_126, li_127, li_128, li_129, li_130, li_131, li_132, li_133, li_134, li_135, li_136, li_137, li_140, li_141, li_142, li_143, li_145, li_147, li_150, li_153, li_159, li_160, li_161, li_162, li_185, li_197, li_213, li_222, li_223, li_255, li_256, li_257, li_258, li_259, li_260, li_261, li_262, li_263, li_264, li_271, li_272, li_273, li_274, li_275, li_276, li_277, li_278, li_300, li_400, li_420, li_500, li_802, li_820, li_823, li_839, li_855, li_871, li_887, li_999, li_1000, li_1001, li_1002, li_1003, li_1004, li_1005, li_1006, li_1007, li_1008, li_1009, li_1010, li_1011, li_1012, li_1013, li_1014, li_1015, li_1016, li_1017, li_1018, li_1019, li_1020, li_1021, li_1022, li_1023, li_1707, li_4096, li_9999, li_65536, li_100000, li_1000000, li_1664525, li_100000000, li_252645135, li_858993459, li_1000000007, li_1013904223, li_1431655765, li_m1]
      refine wp_ite (fun q => ?_) (fun q => ?_) <;> rw [nI_leI (by omega) (by decide)] at q
      · rw [if_pos q] at ha
        exact J47 _ 0 ha
      · rw [if_neg q] at ha
        have g := gr_lt (i - 3)
        rw [pk_sub (by omega), inb_nI (by omega) (by omega), chk_t, nI_clamp (by omega), hj _ (by omega), nz_one (by omega)]
        exact J47 _ _ ha
    refine wp_ite (fun q => ?_) (fun q => ?_) <;> rw [nI_leI (by omega) (by decide)] at q
    · exact J26 0 (by unfold msk; rw [if_pos (show i = 0 by omega)])
    · have g := gr_lt (i - 1)
      rw [pk_sub (by omega), inb_nI (by omega) (by omega), chk_t, nI_clamp (by omega), hj _ (by omega), nz_one (by omega)]
      exact J26 _ (by unfold msk; rw [if_neg (show ¬ i = 0 by omega)])
theorem pr_game {a : Int32} (hN : 20000 ≤ N) : Pr (f_X11_game N a) (f_X12_game N a) := by
  intro m hI
  obtain ⟨LN, H, G, -⟩ := id hI
  have ld := G.1.lzd
  unfold f_X11_game
  simp only [li_0, li_1, li_2, li_3, li_4, li_5, li_6, li_7, li_8, li_9, li_10, li_11, li_12, li_13, li_14, li_15, li_16, li_17, li_18, li_19, li_20, li_21, li_22, li_23, li_24, li_25, li_26, li_27, li_28, li_29, li_30, li_31, li_32, li_37, li_38, li_39, li_40, li_41, li_42, li_43, li_44, li_45, li_46, li_47, li_48, li_49, li_50, li_57, li_59, li_60, li_61, li_62, li_63, li_64, li_65, li_69, li_81, li_89, li_90, li_92, li_97, li_99, li_100, li_101, li_103, li_104, li_105, li_106, li_108, li_111, li_112, li_113, li_114, li_115, li_116, li_117, li_119, li_122, li_123, li_124, li_125, li_126, li_127, li_128, li_129, li_130, li_131, li_132, li_133, li_134, li_135, li_136, li_137, li_140, li_141, li_142, li_143, li_145, li_147, li_150, li_153, li_159, li_160, li_161, li_162, li_185, li_197, li_213, li_222, li_223, li_255, li_256, li_257, li_258, li_259, li_260, li_261, li_262, li_263, li_264, li_271, li_272, li_273, li_274, li_275, li_276, li_277, li_278, li_300, li_400, li_420, li_500, li_802, li_820, li_823, li_839, li_855, li_871, li_887, li_999, li_1000, li_1001, li_1002, li_1003, li_1004, li_1005, li_1006, li_1007, li_1008, li_1009, li_1010, li_1011, li_1012, li_1013, li_1014, li_1015, li_1016, li_1017, li_1018, li_1019, li_1020, li_1021, li_1022, li_1023, li_1707, li_4096, li_9999, li_65536, li_100000, li_1000000, li_1664525, li_100000000, li_252645135, li_858993459, li_1000000007, li_1013904223, li_1431655765, li_m1]
  rw [e_within, bd_s]
  cases hq : decide (nI 0 ≤ a ∧ a ≤ nI 1) with
  | false =>
    rw [if_pos (by decide)]
    refine wp_ret ?_
    unfold f_X12_game
    simp only [li_0, li_1, li_2, li_3, li_4, li_5, li_6, li_7, li_8, li_9, li_10, li_11, li_12, li_13, li_14, li_15, li_16, li_17, li_18, li_19, li_20, li_21, li_22, li_23, li_24, li_25, li_26, li_27, li_28, li_29, li_30, li_31, li_32, li_37, li_38, li_39, li_40, li_41, li_42, li_43, li_44, li_45, li_46, li_47, li_48, li_49, li_50, li_57, li_59, li_60, li_61, li_62, li_63, li_64, li_65, li_69, li_81, li_89, li_90, li_92, li_97, li_99, li_100, li_101, li_103, li_104, li_105, li_106, li_108, li_111, li_112, li_113, li_114, li_115, li_116, li_117, li_119, li_122, li_123, li_124, li_125, li_126, li_127, li_128, li_129, li_130, li_131, li_132, li_133, li_134, li_135, li_136, li_137, li_140, li_141, li_142, li_143, li_145, li_147, li_150, li_153, li_159, li_160, li_161, li_162, li_185, li_197, li_213, li_222, li_223, li_255, li_256, li_257, li_258, li_259, li_260, li_261, li_262, li_263, li_264, li_271, li_272, li_273, li_274, li_275, li_276, li_277, li_278, li_300, li_400, li_420, li_500, li_802, li_820, li_823, li_839, li_855, li_871, li_887, li_999, li_1000, li_1001, li_1002, li_1003, li_1004, li_1005, li_1006, li_1007, li_1008, li_1009, li_1010, li_1011, li_1012, li_1013, li_1014, li_1015, li_1016, li_1017, li_1018, li_1019, li_1020, li_1021, li_1022, li_1023, li_1707, li_4096, li_9999, li_65536, li_100000, li_1000000, li_1664525, li_100000000, li_252645135, li_858993459, li_1000000007, li_1013904223, li_1431655765, li_m1]
    rw [e_isIn, bd_s, hq, if_pos (by decide)]
    exact wp_ret ⟨rfl, hI⟩
  | true =>
    rw [if_neg (by decide)]
    obtain ⟨o, ho, eC⟩ := w_heap hN H G.1
    have hM : Wp (f_X12_game N a m) (fun v m' => v = gamR (m 124) a o ∧ Inv m') := by
      have hp : ∀ {p : Option Nat}, GamV (m 124) p → p = o := fun h => h.uni ho
      unfold f_X12_game
      simp only [li_0, li_1, li_2, li_3, li_4, li_5, li_6, li_7, li_8, li_9, li_10, li_11, li_12, li_13, li_14, li_15, li_16, li_17, li_18, li_19, li_20, li_21, li_22, li_23, li_24, li_25, li_26, li_27, li_28, li_29, li_30, li_31, li_32, li_37, li_38, li_39, li_40, li_41, li_42, li_43, li_44, li_45, li_46, li_47, li_48, li_49, li_50, li_57, li_59, li_60, li_61, li_62, li_63, li_64, li_65, li_69, li_81, li_89, li_90, li_92, li_97, li_99, li_100, li_101, li_103, li_104, li_105, li_106, li_108, li_111, li_112, li_113, li_114, li_115, li_116, li_117, li_119, li_122, li_123, li_124, li_125, li_126, li_127, li_128, li_129, li_130, li_131, li_132, li_133, li_134, li_135, li_136, li_137, li_140, li_141, li_142, li_143, li_145, li_147, li_150, li_153, li_159, li_160, li_161, li_162, li_185, li_197, li_213, li_222, li_223, li_255, li_256, li_257, li_258, li_259, li_260, li_261, li_262, li_263, li_264, li_271, li_272, li_273, li_274, li_275, li_276, li_277, li_278, li_300, li_400, li_420, li_500, li_802, li_820, li_823, li_839, li_855, li_871, li_887, li_999, li_1000, li_1001, li_1002, li_1003, li_1004, li_1005, li_1006, li_1007, li_1008, li_1009, li_1010, li_1011, li_1012, li_1013, li_1014, li_1015, li_1016, li_1017, li_1018, li_1019, li_1020, li_1021, li_1022, li_1023, li_1707, li_4096, li_9999, li_65536, li_100000, li_1000000, li_1664525, li_100000000, li_252645135, li_858993459, li_1000000007, li_1013904223, li_1431655765, li_m1]
      rw [e_isIn, bd_s, hq, if_neg (by decide)]
      refine wp_bind (w_nims hN) ?_
      rintro _ m1 ⟨hn, f1⟩
      have I1 : Inv m1 := hI.q1 f1 (by decide +kernel) (by decide) (by decide)
      have hm1 : m1 124 = m 124 := f1.at 124 (by decide)
      refine wp_it2 (fun n x c m' => ∃ i, i ≤ zd (m 124) ∧ n = zd (m 124) - i ∧ x = nI (xa (m 124) i) ∧ c = nI i ∧ m' = m1) ?_ N (zd (m 124)) _ _ _ (by omega) ⟨0, by omega, rfl, rfl, rfl, rfl⟩
      rintro n X x c m' ⟨i, hi, rfl, rfl, rfl, rfl⟩ hX
      unfold f_X12_game_L19
      simp only [li_0, li_1, li_2, li_3, li_4, li_5, li_6, li_7, li_8, li_9, li_10, li_11, li_12, li_13, li_14, li_15, li_16, li_17, li_18, li_19, li_20, li_21, li_22, li_23, li_24, li_25, li_26, li_27, li_28, li_29, li_30, li_31, li_32, li_37, li_38, li_39, li_40, li_41, li_42, li_43, li_44, li_45, li_46, li_47, li_48, li_49, li_50, li_57, li_59, li_60, li_61, li_62, li_63, li_64, li_65, li_69, li_81, li_89, li_90, li_92, li_97, li_99, li_100, li_101, li_103, li_104, li_105, li_106, li_108, li_111, li_112, li_113, li_114, li_115, li_116, li_117, li_119, li_122, li_123, li_124, li_125, li_126, li_127, li_128, li_129, li_130, li_131, li_132, li_133, li_134, li_135, li_136, li_137, li_140, li_141, li_142, li_143, li_145, li_147, li_150, li_153, li_159, li_160, li_161, li_162, li_185, li_197, li_213, li_222, li_223, li_255, li_256, li_257, li_258, li_259, li_260, li_261, li_262, li_263, li_264, li_271, li_272, li_273, li_274, li_275, li_276, li_277, li_278, li_300, li_400, li_420, li_500, li_802, li_820, li_823, li_839, li_855, li_871, li_887, li_999, li_1000, li_1001, li_1002, li_1003, li_1004, li_1005, li_1006, li_1007, li_1008, li_1009, li_1010, li_1011, li_1012, li_1013, li_1014, li_1015, li_1016, li_1017, li_1018, li_1019, li_1020, li_1021, li_1022, li_1023, li_1707, li_4096, li_9999, li_65536, li_100000, li_1000000, li_1664525, li_100000000, li_252645135, li_858993459, li_1000000007, li_1013904223, li_1431655765, li_m1, nI_add]
      rw [hm1, G.1.h38]
      refine wp_ite (fun q => ?_) (fun q => ?_)
      · rw [nI_leI (by omega) (by omega)] at q
        have : i = zd (m 124) := by omega
        subst this
        have hxa := xa_lt (w := m 124) (zd (m 124))
        refine wp_it1 (fun n c m3 => ∃ j, j ≤ zd (m 124) ∧ n = zd (m 124) - j ∧ c = nI j ∧ m3 = m' ∧ ∀ k, k < j → tk (xo (m 124) k (zd (m 124))) (lg (m 124) k) = mo1) ?_ N (zd (m 124)) _ _ (by omega) ⟨0, by omega, rfl, rfl, rfl, fun j hj => absurd hj (by omega)⟩
        rintro n X2 c m3 ⟨j, hj, rfl, rfl, rfl, hk⟩ hX2
        unfold f_X12_game_L55
        simp only [li_0, li_1, li_2, li_3, li_4, li_5, li_6, li_7, li_8, li_9, li_10, li_11, li_12, li_13, li_14, li_15, li_16, li_17, li_18, li_19, li_20, li_21, li_22, li_23, li_24, li_25, li_26, li_27, li_28, li_29, li_30, li_31, li_32, li_37, li_38, li_39, li_40, li_41, li_42, li_43, li_44, li_45, li_46, li_47, li_48, li_49, li_50, li_57, li_59, li_60, li_61, li_62, li_63, li_64, li_65, li_69, li_81, li_89, li_90, li_92, li_97, li_99, li_100, li_101, li_103, li_104, li_105, li_106, li_108, li_111, li_112, li_113, li_114, li_115, li_116, li_117, li_119, li_122, li_123, li_124, li_125, li_126, li_127, li_128, li_129, li_130, li_131, li_132, li_133, li_134, li_135, li_136, li_137, li_140, li_141, li_142, li_143, li_145, li_147, li_150, li_153, li_159, li_160, li_161, li_162, li_185, li_197, li_213, li_222, li_223, li_255, li_256, li_257, li_258, li_259, li_260, li_261, li_262, li_263, li_264, li_271, li_272, li_273, li_274, li_275, li_276, li_277, li_278, li_300, li_400, li_420, li_500, li_802, li_820, li_823, li_839, li_855, li_871, li_887, li_999, li_1000, li_1001, li_1002, li_1003, li_1004, li_1005, li_1006, li_1007, li_1008, li_1009, li_1010, li_1011, li_1012, li_1013, li_1014, li_1015, li_1016, li_1017, li_1018, li_1019, li_1020, li_1021, li_1022, li_1023, li_1707, li_4096, li_9999, li_65536, li_100000, li_1000000, li_1664525, li_100000000, li_252645135, li_858993459, li_1000000007, li_1013904223, li_1431655765, li_m1, nI_add]
        rw [hm1, G.1.h38]
        refine wp_ite (fun q => ?_) (fun q => ?_)
        · rw [nI_leI (by omega) (by omega)] at q
          have := hp (p := none) (fun h hh => hk h (by omega))
          rw [← this]
          exact wp_ret ⟨rfl, I1⟩
        · rw [nI_leI (by omega) (by omega)] at q
          obtain ⟨-, -, d3, d4, d5⟩ := dee_v G.1 (show j < zd (m 124) by omega)
          rw [inb_nI (by omega) (by omega), chk_t, nI_clamp (by omega), d3, bnd_s]
          have hxh : xa (m 124) (zd (m 124)) ^^^ gr (lg (m 124) j) = xo (m 124) j (zd (m 124)) := xa_h (by omega)
          have hx := xo_lt (w := m 124) (h := j) (zd (m 124))
          generalize hxx : xo (m 124) j (zd (m 124)) = x at hxh hx
          generalize hll : lg (m 124) j = l at hxh d3 d4 d5
          have next : tk x l = mo1 → Wp (X2 (nI (j + 1)) m3) (fun v m' => v = gamR (m 124) a o ∧ Inv m') := by
            intro ht
            refine hX2 (zd (m 124) - (j + 1)) _ _ (by omega) ⟨j + 1, by omega, rfl, rfl, rfl, fun k hk2 => ?_⟩
            by_cases e : k = j
            · subst e; rw [hxx, hll]; exact ht
            · exact hk k (by omega)
          have found : ∀ t, tk x l = nI t → t < 5 → Wp (if a = nI 0 then some (nI j, m3) else some (nI t, m3)) (fun v m' => v = gamR (m 124) a o ∧ Inv m') := by
            intro t ht h5
            have := hp (p := some j) ⟨by omega, by rw [hxx, hll, ht]; exact nI_no1 (by omega), hk⟩
            rw [← this]
            refine wp_ite (fun q => ?_) (fun q => ?_)
            · exact wp_ret ⟨(if_pos q).symm, I1⟩
            · exact wp_ret ⟨by rw [← ht, ← hxx, ← hll]; exact (if_neg q).symm, I1⟩
          have e4 : ∀ t, t < 2 ^ 31 → ((if nI l < nI 4 then nI l else nI 4) < nI t ↔ min l 4 < t) := by
            intro t ht
            have : (if nI l < nI 4 then nI l else nI 4) = nI (min l 4) := by
              by_cases q : l < 4
              · rw [if_pos (nI_lt q (by omega)), Nat.min_eq_left (by omega)]
              · rw [if_neg (nI_nlt (by omega) (by omega)), Nat.min_eq_right (by omega)]
            rw [this, nI_ltI (by omega) ht]
          have st : ∀ (X : Int32 → Mem → Ans) (K : Mem → Ans) (t : Nat), 1 ≤ t → t ≤ 4 → t ≠ 2 → f_X12_game_L80 N a (nI (xa (m 124) (zd (m 124)))) (nI j) (nI l) K X (nI t) m3 = if l < t then K m3 else if gr (l - t) = x then (if a = nI 0 then some (nI j, m3) else some (nI t, m3)) else X (nI (t + 1)) m3 := fun X K t h1 h4 h2 => by
            unfold f_X12_game_L80
            simp only [li_0, li_1, li_2, li_3, li_4, li_5, li_6, li_7, li_8, li_9, li_10, li_11, li_12, li_13, li_14, li_15, li_16, li_17, li_18, li_19, li_20, li_21, li_22, li_23, li_24, li_25, li_26, li_27, li_28, li_29, li_30, li_31, li_32, li_37, li_38, li_39, li_40, li_41, li_42, li_43, li_44, li_45, li_46, li_47, li_48, li_49, li_50, li_57, li_59, li_60, li_61, li_62, li_63, li_64, li_65, li_69, li_81, li_89, li_90, li_92, li_97, li_99, li_100, li_101, li_103, li_104, li_105, li_106, li_108, li_111, li_112, li_113, li_114, li_115, li_116, li_117, li_119, li_122, li_123, li_124, li_125, li_126, li_127, li_128, li_129, li_130, li_131, li_132, li_133, li_134, li_135, li_136, li_137, li_140, li_141, li_142, li_143, li_145, li_147, li_150, li_153, li_159, li_160, li_161, li_162, li_185, li_197, li_213, li_222, li_223, li_255, li_256, li_257, li_258, li_259, li_260, li_261, li_262, li_263, li_264, li_271, li_272, li_273, li_274, li_275, li_276, li_277, li_278, li_300, li_400, li_420, li_500, li_802, li_820, li_823, li_839, li_855, li_871, li_887, li_999, li_1000, li_1001, li_1002, li_1003, li_1004, li_1005, li_1006, li_1007, li_1008, li_1009, li_1010, li_1011, li_1012, li_1013, li_1014, li_1015, li_1016, li_1017, li_1018, li_1019, li_1020, li_1021, li_1022, li_1023, li_1707, li_4096, li_9999, li_65536, li_100000, li_1000000, li_1664525, li_100000000, li_252645135, li_858993459, li_1000000007, li_1013904223, li_1431655765, li_m1, nI_up]
            rw [e_lesser, bd_s, if_neg (nI_ne h2 (by omega) (by decide))]
            by_cases q : l < t
            · rw [if_pos ((e4 t (by omega)).mpr (by omega)), if_pos q]
            · have g := gr_lt (l - t)
              rw [if_neg (fun z => by have := (e4 t (by omega)).mp z; omega), if_neg q, inb_nI (by omega) (by omega), chk_t, pk_sub (by omega), inb_nI (by omega) (by omega), chk_t, nI_clamp (by omega), nI_clamp (by omega), hn _ (by omega), hn _ (by omega), nz_xor, hxh]
              by_cases q2 : gr (l - t) = x
              · rw [if_pos (by rw [q2]), if_pos q2]
              · rw [if_neg (nI_ne (fun z => q2 z.symm) (by omega) (by omega)), if_neg q2]
          have s2 : ∀ (X : Int32 → Mem → Ans) (K : Mem → Ans), f_X12_game_L80 N a (nI (xa (m 124) (zd (m 124)))) (nI j) (nI l) K X (nI 2) m3 = if l < 2 then K m3 else X (nI 3) m3 := fun X K => by
            unfold f_X12_game_L80
            simp only [li_0, li_1, li_2, li_3, li_4, li_5, li_6, li_7, li_8, li_9, li_10, li_11, li_12, li_13, li_14, li_15, li_16, li_17, li_18, li_19, li_20, li_21, li_22, li_23, li_24, li_25, li_26, li_27, li_28, li_29, li_30, li_31, li_32, li_37, li_38, li_39, li_40, li_41, li_42, li_43, li_44, li_45, li_46, li_47, li_48, li_49, li_50, li_57, li_59, li_60, li_61, li_62, li_63, li_64, li_65, li_69, li_81, li_89, li_90, li_92, li_97, li_99, li_100, li_101, li_103, li_104, li_105, li_106, li_108, li_111, li_112, li_113, li_114, li_115, li_116, li_117, li_119, li_122, li_123, li_124, li_125, li_126, li_127, li_128, li_129, li_130, li_131, li_132, li_133, li_134, li_135, li_136, li_137, li_140, li_141, li_142, li_143, li_145, li_147, li_150, li_153, li_159, li_160, li_161, li_162, li_185, li_197, li_213, li_222, li_223, li_255, li_256, li_257, li_258, li_259, li_260, li_261, li_262, li_263, li_264, li_271, li_272, li_273, li_274, li_275, li_276, li_277, li_278, li_300, li_400, li_420, li_500, li_802, li_820, li_823, li_839, li_855, li_871, li_887, li_999, li_1000, li_1001, li_1002, li_1003, li_1004, li_1005, li_1006, li_1007, li_1008, li_1009, li_1010, li_1011, li_1012, li_1013, li_1014, li_1015, li_1016, li_1017, li_1018, li_1019, li_1020, li_1021, li_1022, li_1023, li_1707, li_4096, li_9999, li_65536, li_100000, li_1000000, li_1664525, li_100000000, li_252645135, li_858993459, li_1000000007, li_1013904223, li_1431655765, li_m1]
            rw [e_lesser, bd_s]
            by_cases q : l < 2
            · rw [if_pos ((e4 2 (by decide)).mpr (by omega)), if_pos q]
            · rw [if_neg (fun z => by have := (e4 2 (by decide)).mp z; omega), if_neg q, if_pos trivial]
              rfl
          have s5 : ∀ (X : Int32 → Mem → Ans) (K : Mem → Ans), f_X12_game_L80 N a (nI (xa (m 124) (zd (m 124)))) (nI j) (nI l) K X (nI 5) m3 = K m3 := fun X K => by
            unfold f_X12_game_L80
            simp only [li_0, li_1, li_2, li_3, li_4, li_5, li_6, li_7, li_8, li_9, li_10, li_11, li_12, li_13, li_14, li_15, li_16, li_17, li_18, li_19, li_20, li_21, li_22, li_23, li_24, li_25, li_26, li_27, li_28, li_29, li_30, li_31, li_32, li_37, li_38, li_39, li_40, li_41, li_42, li_43, li_44, li_45, li_46, li_47, li_48, li_49, li_50, li_57, li_59, li_60, li_61, li_62, li_63, li_64, li_65, li_69, li_81, li_89, li_90, li_92, li_97, li_99, li_100, li_101, li_103, li_104, li_105, li_106, li_108, li_111, li_112, li_113, li_114, li_115, li_116, li_117, li_119, li_122, li_123, li_124, li_125, li_126, li_127, li_128, li_129, li_130, li_131, li_132, li_133, li_134, li_135, li_136, li_137, li_140, li_141, li_142, li_143, li_145, li_147, li_150, li_153, li_159, li_160, li_161, li_162, li_185, li_197, li_213, li_222, li_223, li_255, li_256, li_257, li_258, li_259, li_260, li_261, li_262, li_263, li_264, li_271, li_272, li_273, li_274, li_275, li_276, li_277, li_278, li_300, li_400, li_420, li_500, li_802, li_820, li_823, li_839, li_855, li_871, li_887, li_999, li_1000, li_1001, li_1002, li_1003, li_1004, li_1005, li_1006, li_1007, li_1008, li_1009, li_1010, li_1011, li_1012, li_1013, li_1014, li_1015, li_1016, li_1017, li_1018, li_1019, li_1020, li_1021, li_1022, li_1023, li_1707, li_4096, li_9999, li_65536, li_100000, li_1000000, li_1664525, li_100000000, li_252645135, li_858993459, li_1000000007, li_1013904223, li_1431655765, li_m1]
            rw [e_lesser, bd_s, if_pos ((e4 5 (by decide)).mpr (by omega))]
          have un : ∀ (b : (Int32 → Mem → Ans) → Int32 → Mem → Ans) (v : Int32) (m : Mem), ∃ Y, it1 b N v m = b (b (b (b (b Y)))) v m := fun b v m => by
            obtain ⟨N', hN'⟩ : ∃ N', N = N' + 5 := ⟨N - 5, by omega⟩
            exact ⟨it1 b N', by rw [hN']; rfl⟩
          obtain ⟨Y, eY⟩ := un (f_X12_game_L80 N a (nI (xa (m 124) (zd (m 124)))) (nI j) (nI l) (fun mk136 => X2 (nI (j + 1)) mk136)) (nI 1) m3
          refine wp_eq eY ?_
          rw [st _ _ 1 (by decide) (by decide) (by decide), s2, st _ _ 3 (by decide) (by decide) (by decide), st _ _ 4 (by decide) (by decide) (by decide), s5, if_neg (show ¬ l < 1 by omega)]
          obtain ⟨t, ht, eR⟩ := tk_run (x := x) d4 (fun t => if a = nI 0 then (some (nI j, m3) : Ans) else some (nI t, m3)) (X2 (nI (j + 1)) m3)
          refine wp_eq eR ?_
          rcases ht with ⟨rfl, e⟩ | ⟨h1, h5, e⟩
          · rw [if_pos rfl]
            exact next e
          · rw [if_neg (by omega)]
            exact found t e h5
      · rw [nI_leI (by omega) (by omega)] at q
        obtain ⟨-, -, d3, d4, d5⟩ := dee_v G.1 (show i < zd (m 124) by omega)
        rw [inb_nI (by omega) (by omega), chk_t, nI_clamp (by omega), d3, inb_nI (by omega) (by omega), chk_t, nI_clamp (by omega), hn _ (by omega), nz_xor, bnd_s]
        exact hX (zd (m 124) - (i + 1)) _ _ _ (by omega) ⟨i + 1, by omega, rfl, rfl, rfl, rfl⟩
    obtain ⟨v, m', ev, rfl, hI'⟩ := hM
    rw [eC, bd_s]
    cases o with
    | none =>
      have fin : Wp (some (mo1, m)) (fun v1 m1 => Wp (f_X12_game N a m1) (fun v2 m2 => v1 = v2 ∧ Inv m2)) := wp_ret ⟨_, _, ev, rfl, hI'⟩
      show Wp (if a = nI 0 then some (mo1, m) else if mo1 = mo1 then some (mo1, m) else _) _
      rw [if_pos (rfl : mo1 = mo1)]
      split
      · exact fin
      · exact fin
    | some h =>
      have hh : h < zd (m 124) := ho.1
      show Wp (if a = nI 0 then some (nI h, m) else if nI h = mo1 then _ else bd (f_X5_winningTake N (nI h) m) _) _
      rw [if_neg (show ¬ nI h = mo1 from nI_no1 (by omega)), w_take hN H G.1 hh, bd_s]
      refine wp_ite (fun q => ?_) (fun q => ?_)
      · exact wp_ret ⟨_, _, ev, (if_pos q).symm, hI'⟩
      · exact wp_ret ⟨_, _, ev, (if_neg q).symm, hI'⟩
end GAME
