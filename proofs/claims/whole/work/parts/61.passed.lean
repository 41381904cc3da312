/-! passed: what a statute means that was passed again and again -/
section PASSED
variable {w w' v0 : Arr} {LN : List Lin} {m m' m2 : Mem} {N d n j i k a : Nat}
def mv (w : Arr) (a : Nat) : Nat → Nat
  | 0 => a
  | k + 1 => nv (w (213 + mv w a k))
theorem mv_lt (W0 : WFc w) (ha : a < 10) : ∀ k, mv w a k < 10
  | 0 => ha
  | k + 1 => by
    have := (W0.mea (mv_lt W0 ha k)).le (by decide)
    show nv _ < 10
    omega
theorem mv_e (W0 : WFc w) (ha : a < 10) : w (213 + mv w a k) = nI (mv w a (k + 1)) := (W0.mea (mv_lt W0 ha k)).eq (by decide)
theorem mv_add : ∀ n, mv w (mv w a k) n = mv w a (k + n)
  | 0 => rfl
  | n + 1 => by
    show nv (w (213 + mv w (mv w a k) n)) = nv (w (213 + mv w a (k + n)))
    rw [mv_add n]
theorem hr_mea {v : Nat} (H : HRep 2 LN w m) (hv : v < 10) : f_X9_at N 23 (nI v) (nI 0) m = some (w (213 + v), m) := by
  rw [e_at H.fx (show (23, 10, 1) ∈ tbs by decide) (n := 10) H.mea.1 (Nat.le_refl _) hv (by decide), ← H.mea.2 v hv]
  simp
theorem e_behind {T : Nat} (hN : 20000 ≤ N) (H : HRep 2 LN w m) (W0 : WFc w) (ha : a < 10) (hT : T ≤ 9999) : f_X11_meaningBehind N (nI a) (nI T) m = some (nI (mv w a T), m) := by
  refine Wp.toEq ?_
  unfold f_X11_meaningBehind
  refine wp_it2 (fun q x y m' => ∃ i, i ≤ T ∧ q = T - i ∧ x = nI (mv w a i) ∧ y = nI i ∧ m' = m) ?_ N T _ _ _ (by omega) ⟨0, by omega, rfl, rfl, rfl, rfl⟩
  rintro q X x y m' ⟨i, hi, rfl, rfl, rfl, rfl⟩ hX
  unfold f_X11_meaningBehind_L5
  simp only [li_0, li_1, li_2, li_3, li_4, li_5, li_6, li_7, li_8, li_9, li_10, li_11, li_12, li_13, li_14, li_15, li_16, li_17, li_18, li_19, li_20, li_21, li_22, li_23, li_24, li_25, li_26, li_27, li_28, li_29, li_30, li_31, li_32, li_37, li_38, li_39, li_40, li_41, li_42, li_43, li_44, li_45, li_46, li_47, li_48, li_49, li_50, li_57, li_59, li_60, li_61, li_62, li_63, li_64, li_65, li_69, li_81, li_89, li_90, li_92, li_97, li_99, li_100, li_101, li_103, li_104, li_105, li_106, li_108, li_111, li_112, li_113, li_114, li_115, li_116, li_117, li_119, li_122, li_123, li_124, li_125, li_126, li_127, li_128, li_129, li_130, li_131, li_132, li_133, li_134, li_135, li_136, li_137, li_140, li_141, li_142, li_143, li_145, li_147, li_150, li_153, li_159, li_160, li_161, li_162, li_185, li_197, li_213, li_222, li_223, li_255, li_256, li_257, li_258, li_259, li_260, li_261, li_262, li_263, li_264, li_271, li_272, li_273, li_274, li_275, li_276, li_277, li_278, li_300, li_400, li_420, li_500, li_802, li_820, li_823, li_839, li_855, li_871, li_887, li_999, li_1000, li_1001, li_1002, li_1003, li_1004, li_1005, li_1006, li_1007, li_1008, li_1009, li_1010, li_1011, li_1012, li_1013, li_1014, li_1015, li_1016, li_1017, li_1018, li_1019, li_1020, li_1021, li_1022, li_1023, li_1707, li_4096, li_9999, li_65536, li_100000, li_1000000, li_1664525, li_100000000, li_252645135, li_858993459, li_1000000007, li_1013904223, li_1431655765, li_m1, nI_up]
  refine wp_ite (fun q => ?_) (fun q => ?_) <;> rw [nI_leI (by omega) (by omega)] at q
  · have : i = T := by omega
    subst this
    exact wp_ret ⟨rfl, rfl⟩
  · rw [hr_mea H (mv_lt W0 ha i), bd_s, mv_e W0 ha]
    exact hX (T - (i + 1)) _ _ _ (by omega) ⟨i + 1, by omega, rfl, rfl, rfl, rfl⟩
theorem e_by {T : Nat} (hN : 20000 ≤ N) (hm : m 124 = w) (W0 : WFc w) (ha : a < 10) (hT : T ≤ 9999) : f_X12_passedBy N (nI a) (nI T) m = some (nI (mv w a T), m) := by
  refine Wp.toEq ?_
  unfold f_X12_passedBy
  refine wp_it2 (fun q x y m' => ∃ i, i ≤ T ∧ q = T - i ∧ x = nI (mv w a i) ∧ y = nI i ∧ m' = m) ?_ N T _ _ _ (by omega) ⟨0, by omega, rfl, rfl, rfl, rfl⟩
  rintro q X x y m' ⟨i, hi, rfl, rfl, rfl, rfl⟩ hX
  have l := mv_lt W0 ha i
  unfold f_X12_passedBy_L5
  simp only [li_0, li_1, li_2, li_3, li_4, li_5, li_6, li_7, li_8, li_9, li_10, li_11, li_12, li_13, li_14, li_15, li_16, li_17, li_18, li_19, li_20, li_21, li_22, li_23, li_24, li_25, li_26, li_27, li_28, li_29, li_30, li_31, li_32, li_37, li_38, li_39, li_40, li_41, li_42, li_43, li_44, li_45, li_46, li_47, li_48, li_49, li_50, li_57, li_59, li_60, li_61, li_62, li_63, li_64, li_65, li_69, li_81, li_89, li_90, li_92, li_97, li_99, li_100, li_101, li_103, li_104, li_105, li_106, li_108, li_111, li_112, li_113, li_114, li_115, li_116, li_117, li_119, li_122, li_123, li_124, li_125, li_126, li_127, li_128, li_129, li_130, li_131, li_132, li_133, li_134, li_135, li_136, li_137, li_140, li_141, li_142, li_143, li_145, li_147, li_150, li_153, li_159, li_160, li_161, li_162, li_185, li_197, li_213, li_222, li_223, li_255, li_256, li_257, li_258, li_259, li_260, li_261, li_262, li_263, li_264, li_271, li_272, li_273, li_274, li_275, li_276, li_277, li_278, li_300, li_400, li_420, li_500, li_802, li_820, li_823, li_839, li_855, li_871, li_887, li_999, li_1000, li_1001, li_1002, li_1003, li_1004, li_1005, li_1006, li_1007, li_1008, li_1009, li_1010, li_1011, li_1012, li_1013, li_1014, li_1015, li_1016, li_1017, li_1018, li_1019, li_1020, li_1021, li_1022, li_1023, li_1707, li_4096, li_9999, li_65536, li_100000, li_1000000, li_1664525, li_100000000, li_252645135, li_858993459, li_1000000007, li_1013904223, li_1431655765, li_m1, nI_up, nI_add]
  refine wp_ite (fun q => ?_) (fun q => ?_) <;> rw [nI_leI (by omega) (by omega)] at q
  · have : i = T := by omega
    subst this
    exact wp_ret ⟨rfl, rfl⟩
  · rw [inb_nI (by omega) (by omega), chk_t, nI_clamp (by omega), hm, mv_e W0 ha, bnd_s]
    exact hX (T - (i + 1)) _ _ _ (by omega) ⟨i + 1, by omega, rfl, rfl, rfl, rfl⟩
/-- k is the first time at a place where it was, then at j -/
def Rep (w : Arr) (a k j : Nat) : Prop := j < k ∧ k ≤ 10 ∧ mv w a j = mv w a k ∧ ∀ i, i < k → ∀ i', i' < i → mv w a i' ≠ mv w a i
theorem e_round (hN : 20000 ≤ N) (H : HRep 2 LN w m) (W0 : WFc w) (ha : a < 10) (R : Rep w a k j) : f_X11_timesRound N (nI (mv w a k)) m = some (nI (k - j), m) := by
  obtain ⟨hjk, hk, he, hd⟩ := R
  have lk := mv_lt W0 ha k
  unfold f_X11_timesRound
  simp only [li_0, li_1, li_2, li_3, li_4, li_5, li_6, li_7, li_8, li_9, li_10, li_11, li_12, li_13, li_14, li_15, li_16, li_17, li_18, li_19, li_20, li_21, li_22, li_23, li_24, li_25, li_26, li_27, li_28, li_29, li_30, li_31, li_32, li_37, li_38, li_39, li_40, li_41, li_42, li_43, li_44, li_45, li_46, li_47, li_48, li_49, li_50, li_57, li_59, li_60, li_61, li_62, li_63, li_64, li_65, li_69, li_81, li_89, li_90, li_92, li_97, li_99, li_100, li_101, li_103, li_104, li_105, li_106, li_108, li_111, li_112, li_113, li_114, li_115, li_116, li_117, li_119, li_122, li_123, li_124, li_125, li_126, li_127, li_128, li_129, li_130, li_131, li_132, li_133, li_134, li_135, li_136, li_137, li_140, li_141, li_142, li_143, li_145, li_147, li_150, li_153, li_159, li_160, li_161, li_162, li_185, li_197, li_213, li_222, li_223, li_255, li_256, li_257, li_258, li_259, li_260, li_261, li_262, li_263, li_264, li_271, li_272, li_273, li_274, li_275, li_276, li_277, li_278, li_300, li_400, li_420, li_500, li_802, li_820, li_823, li_839, li_855, li_871, li_887, li_999, li_1000, li_1001, li_1002, li_1003, li_1004, li_1005, li_1006, li_1007, li_1008, li_1009, li_1010, li_1011, li_1012, li_1013, li_1014, li_1015, li_1016, li_1017, li_1018, li_1019, li_1020, li_1021, li_1022, li_1023, li_1707, li_4096, li_9999, li_65536, li_100000, li_1000000, li_1664525, li_100000000, li_252645135, li_858993459, li_1000000007, li_1013904223, li_1431655765, li_m1]
  rw [hr_mea H lk, bd_s, mv_e W0 ha]
  refine Wp.toEq ?_
  refine wp_it2 (fun q x y m' => ∃ t, 1 ≤ t ∧ t ≤ k - j ∧ q = k - j - t ∧ x = nI (mv w a (k + t)) ∧ y = nI t ∧ m' = m) ?_ N (k - j - 1) _ _ _ (by omega) ⟨1, by omega, by omega, rfl, rfl, rfl, rfl⟩
  · rintro q X x y m' ⟨t, ht1, ht, rfl, rfl, rfl, rfl⟩ hX
    have lt := mv_lt W0 ha (k + t)
    have e1 : mv w a (k + t) = mv w a (j + t) := by rw [← mv_add, ← he, mv_add]
    unfold f_X11_timesRound_L15
    simp only [li_0, li_1, li_2, li_3, li_4, li_5, li_6, li_7, li_8, li_9, li_10, li_11, li_12, li_13, li_14, li_15, li_16, li_17, li_18, li_19, li_20, li_21, li_22, li_23, li_24, li_25, li_26, li_27, li_28, li_29, li_30, li_31, li_32, li_37, li_38, li_39, li_40, li_41, li_42, li_43, li_44, li_45, li_46, li_47, li_48, li_49, li_50, li_57, li_59, li_60, li_61, li_62, li_63, li_64, li_65, li_69, li_81, li_89, li_90, li_92, li_97, li_99, li_100, li_101, li_103, li_104, li_105, li_106, li_108, li_111, li_112, li_113, li_114, li_115, li_116, li_117, li_119, li_122, li_123, li_124, li_125, li_126, li_127, li_128, li_129, li_130, li_131, li_132, li_133, li_134, li_135, li_136, li_137, li_140, li_141, li_142, li_143, li_145, li_147, li_150, li_153, li_159, li_160, li_161, li_162, li_185, li_197, li_213, li_222, li_223, li_255, li_256, li_257, li_258, li_259, li_260, li_261, li_262, li_263, li_264, li_271, li_272, li_273, li_274, li_275, li_276, li_277, li_278, li_300, li_400, li_420, li_500, li_802, li_820, li_823, li_839, li_855, li_871, li_887, li_999, li_1000, li_1001, li_1002, li_1003, li_1004, li_1005, li_1006, li_1007, li_1008, li_1009, li_1010, li_1011, li_1012, li_1013, li_1014, li_1015, li_1016, li_1017, li_1018, li_1019, li_1020, li_1021, li_1022, li_1023, li_1707, li_4096, li_9999, li_65536, li_100000, li_1000000, li_1664525, li_100000000, li_252645135, li_858993459, li_1000000007, li_1013904223, li_1431655765, li_m1, nI_up]
    by_cases e : t = k - j
    · subst e
      have : mv w a (k + (k - j)) = mv w a k := by rw [e1, show j + (k - j) = k by omega]
      refine wp_ite (fun q => ?_) (fun q => ?_)
      · exact wp_ret ⟨rfl, rfl⟩
      · rw [if_pos (by rw [this])]
        exact wp_ret ⟨rfl, rfl⟩
    · rw [if_neg (nI_ge (by omega) (by omega)), if_neg (nI_ne (fun z => ?_) (by omega) (by omega)), hr_mea H lt, bd_s, mv_e W0 ha]
      · exact hX (k - j - (t + 1)) _ _ _ (by omega) ⟨t + 1, by omega, by omega, rfl, rfl, rfl, rfl⟩
      · rw [e1, ← he] at z
        exact hd (j + t) (by omega) j (by omega) z.symm
theorem Rep.uni {k' j' : Nat} (R : Rep w a k j) (R' : Rep w a k' j') : k = k' ∧ j = j' := by
  obtain ⟨a1, a2, a3, a4⟩ := R
  obtain ⟨b1, b2, b3, b4⟩ := R'
  have e : k = k' := by
    rcases Nat.lt_trichotomy k k' with h | h | h
    · exact absurd a3 (b4 k h j a1)
    · exact h
    · exact absurd b3 (a4 k' h j' b1)
  subst e
  refine ⟨rfl, ?_⟩
  rcases Nat.lt_trichotomy j j' with h | h | h
  · exact absurd (a3.trans b3.symm) (a4 j' b1 j h)
  · exact h
  · exact absurd (b3.trans a3.symm) (a4 j a1 j' h)
theorem w_passC {b c : Int32} (hN : 20000 ≤ N) (H : HRep 2 LN w m) (W0 : WFc w) (ha : a < 10) : Wp (it3 (f_X11_passed_L56 N (nI a) b c) N (nI 0) (nI a) (nI 0) m) (fun v m' => m' = m ∧ ∃ k j, Rep w a k j ∧ v = if c = nI 1 then nI k else nI (k - j)) := by
  refine wp_it3 (fun q x y z m' => ∃ k S, k ≤ 10 ∧ q = 10 - k ∧ x = nI S ∧ y = nI (mv w a k) ∧ z = nI k ∧ m' = m ∧ S < 2 ^ 10 ∧ pc S = k ∧ (∀ v, S.testBit v = true ↔ ∃ i, i < k ∧ mv w a i = v) ∧ ∀ i, i < k → ∀ i', i' < i → mv w a i' ≠ mv w a i) ?_ N 10 _ _ _ _ (by omega)
    ⟨0, 0, by omega, rfl, rfl, rfl, rfl, rfl, by decide, by decide, fun v => ⟨fun h => (by rw [Nat.zero_testBit] at h; cases h), fun ⟨i, hi, _⟩ => (absurd hi (by omega))⟩, fun i hi => (by omega)⟩
  rintro q X x y z m' ⟨k, S, hk, rfl, rfl, rfl, rfl, rfl, hS, hpc, hb, hd⟩ hX
  have lk := mv_lt W0 ha k
  unfold f_X11_passed_L56
  simp only [li_0, li_1, li_2, li_3, li_4, li_5, li_6, li_7, li_8, li_9, li_10, li_11, li_12, li_13, li_14, li_15, li_16, li_17, li_18, li_19, li_20, li_21, li_22, li_23, li_24, li_25, li_26, li_27, li_28, li_29, li_30, li_31, li_32, li_37, li_38, li_39, li_40, li_41, li_42, li_43, li_44, li_45, li_46, li_47, li_48, li_49, li_50, li_57, li_59, li_60, li_61, li_62, li_63, li_64, li_65, li_69, li_81, li_89, li_90, li_92, li_97, li_99, li_100, li_101, li_103, li_104, li_105, li_106, li_108, li_111, li_112, li_113, li_114, li_115, li_116, li_117, li_119, li_122, li_123, li_124, li_125, li_126, li_127, li_128, li_129, li_130, li_131, li_132, li_133, li_134, li_135, li_136, li_137, li_140, li_141, li_142, li_143, li_145, li_147, li_150, li_153, li_159, li_160, li_161, li_162, li_185, li_197, li_213, li_222, li_223, li_255, li_256, li_257, li_258, li_259, li_260, li_261, li_262, li_263, li_264, li_271, li_272, li_273, li_274, li_275, li_276, li_277, li_278, li_300, li_400, li_420, li_500, li_802, li_820, li_823, li_839, li_855, li_871, li_887, li_999, li_1000, li_1001, li_1002, li_1003, li_1004, li_1005, li_1006, li_1007, li_1008, li_1009, li_1010, li_1011, li_1012, li_1013, li_1014, li_1015, li_1016, li_1017, li_1018, li_1019, li_1020, li_1021, li_1022, li_1023, li_1707, li_4096, li_9999, li_65536, li_100000, li_1000000, li_1664525, li_100000000, li_252645135, li_858993459, li_1000000007, li_1013904223, li_1431655765, li_m1, nI_up]
  have fin : S.testBit (mv w a k) = true → Wp (if c = nI 1 then (some (nI k, m')) else (bd (f_X11_timesRound N (nI (mv w a k)) m') fun r_116 m_116 => some (r_116, m_116))) (fun v m'_1 => m'_1 = m' ∧ ∃ k j, Rep w a k j ∧ v = if c = nI 1 then nI k else nI (k - j)) := by
    intro hs
    obtain ⟨j, hj, ej⟩ := (hb _).mp hs
    have R : Rep w a k j := ⟨hj, hk, ej, hd⟩
    refine wp_ite (fun q => ?_) (fun q => ?_)
    · exact wp_ret ⟨rfl, k, j, R, by rw [if_pos q]⟩
    · rw [e_round hN H W0 ha R, bd_s]
      exact wp_ret ⟨rfl, k, j, R, by rw [if_neg q]⟩
  refine wp_ite (fun q => ?_) (fun q => ?_) <;> rw [nI_leI (by omega) (by omega)] at q
  · refine fin ?_
    cases hs : S.testBit (mv w a k) with
    | true => rfl
    | false =>
      have h1 := pc_or hs (show mv w a k < 12 by omega)
      have h2 : S ||| 2 ^ mv w a k < 2 ^ 10 := Nat.or_lt_two_pow hS (Nat.pow_lt_pow_right (by decide) lk)
      have h3 : pc (S ||| 2 ^ mv w a k) = pcN 10 (S ||| 2 ^ mv w a k) := pcN_hi h2 12 (by decide)
      have h4 := pcN_le 10 (S ||| 2 ^ mv w a k)
      omega
  · rw [e_isInX m' (by omega) (by omega), bd_s]
    cases hs : S.testBit (mv w a k) with
    | true =>
      rw [if_neg (by decide)]
      exact fin hs
    | false =>
      have h2 : S ||| 2 ^ mv w a k < 2 ^ 10 := Nat.or_lt_two_pow hS (Nat.pow_lt_pow_right (by decide) lk)
      rw [if_pos (by decide), nz_one (by omega), nz_or, bnd_s, hr_mea H lk, bd_s, mv_e W0 ha]
      refine hX (10 - (k + 1)) _ _ _ _ (by omega) ⟨k + 1, S ||| 2 ^ mv w a k, by omega, rfl, rfl, rfl, rfl, rfl, h2, by rw [pc_or hs (by omega), hpc], fun v => ?_, fun i hi i' hi' => ?_⟩
      · rw [Nat.testBit_or, Bool.or_eq_true, hb, Nat.testBit_two_pow, decide_eq_true_eq]
        constructor
        · rintro (⟨i, hi, e⟩ | e)
          · exact ⟨i, by omega, e⟩
          · exact ⟨k, by omega, e⟩
        · rintro ⟨i, hi, e⟩
          by_cases e2 : i = k
          · subst e2; exact Or.inr e
          · exact Or.inl ⟨i, by omega, e⟩
      · by_cases e : i = k
        · subst e
          intro z
          rw [(hb _).mpr ⟨i', hi', z⟩] at hs
          cases hs
        · exact hd i (by omega) i' hi'
theorem e_was {T : Nat} (hN : 20000 ≤ N) (hm : m 124 = w) (W0 : WFc w) (ha : a < 10) (hT : T ≤ 10) : ∃ v, f_X12_wasThere N (nI a) (nI T) m = some (v, m) ∧ ((v = mo1 ∧ ∀ i, i < T → mv w a i ≠ mv w a T) ∨ ∃ i, i < T ∧ v = nI i ∧ mv w a i = mv w a T) := by
  have : Wp (f_X12_wasThere N (nI a) (nI T) m) (fun v m' => m' = m ∧ ((v = mo1 ∧ ∀ i, i < T → mv w a i ≠ mv w a T) ∨ ∃ i, i < T ∧ v = nI i ∧ mv w a i = mv w a T)) := by
    unfold f_X12_wasThere
    refine wp_it1 (fun q x m' => ∃ i, i ≤ T ∧ q = T - i ∧ x = nI i ∧ m' = m ∧ ∀ i', i' < i → mv w a i' ≠ mv w a T) ?_ N T _ _ (by omega) ⟨0, by omega, rfl, rfl, rfl, fun i' hi' => by omega⟩
    rintro q X x m' ⟨i, hi, rfl, rfl, rfl, hn⟩ hX
    unfold f_X12_wasThere_L2
    simp only [li_0, li_1, li_2, li_3, li_4, li_5, li_6, li_7, li_8, li_9, li_10, li_11, li_12, li_13, li_14, li_15, li_16, li_17, li_18, li_19, li_20, li_21, li_22, li_23, li_24, li_25, li_26, li_27, li_28, li_29, li_30, li_31, li_32, li_37, li_38, li_39, li_40, li_41, li_42, li_43, li_44, li_45, li_46, li_47, li_48, li_49, li_50, li_57, li_59, li_60, li_61, li_62, li_63, li_64, li_65, li_69, li_81, li_89, li_90, li_92, li_97, li_99, li_100, li_101, li_103, li_104, li_105, li_106, li_108, li_111, li_112, li_113, li_114, li_115, li_116, li_117, li_119, li_122, li_123, li_124, li_125, li_126, li_127, li_128, li_129, li_130, li_131, li_132, li_133, li_134, li_135, li_136, li_137, li_140, li_141, li_142, li_143, li_145, li_147, li_150, li_153, li_159, li_160, li_161, li_162, li_185, li_197, li_213, li_222, li_223, li_255, li_256, li_257, li_258, li_259, li_260, li_261, li_262, li_263, li_264, li_271, li_272, li_273, li_274, li_275, li_276, li_277, li_278, li_300, li_400, li_420, li_500, li_802, li_820, li_823, li_839, li_855, li_871, li_887, li_999, li_1000, li_1001, li_1002, li_1003, li_1004, li_1005, li_1006, li_1007, li_1008, li_1009, li_1010, li_1011, li_1012, li_1013, li_1014, li_1015, li_1016, li_1017, li_1018, li_1019, li_1020, li_1021, li_1022, li_1023, li_1707, li_4096, li_9999, li_65536, li_100000, li_1000000, li_1664525, li_100000000, li_252645135, li_858993459, li_1000000007, li_1013904223, li_1431655765, li_m1, nI_up]
    refine wp_ite (fun q => ?_) (fun q => ?_) <;> rw [nI_leI (by omega) (by omega)] at q
    · exact wp_ret ⟨rfl, Or.inl ⟨rfl, fun i' hi' => hn i' (by omega)⟩⟩
    · have l1 := mv_lt W0 ha i
      have l2 := mv_lt W0 ha T
      rw [e_by hN hm W0 ha (by omega), bd_s, e_by hN hm W0 ha (by omega), bd_s]
      refine wp_ite (fun q2 => ?_) (fun q2 => ?_) <;> rw [nI_eq (by omega) (by omega)] at q2
      · exact wp_ret ⟨rfl, Or.inr ⟨i, by omega, rfl, q2⟩⟩
      · refine hX (T - (i + 1)) _ _ (by omega) ⟨i + 1, by omega, rfl, rfl, rfl, fun i' hi' => ?_⟩
        by_cases e : i' = i
        · subst e; exact q2
        · exact hn i' (by omega)
  obtain ⟨v, m', e, rfl, h⟩ := this
  exact ⟨v, e, h⟩
theorem pr_passed {x b c : Int32} (hN : 20000 ≤ N) : Pr (f_X11_passed N x b c) (f_X12_passed N x b c) := by
  intro m hI
  obtain ⟨LN, H, G, -⟩ := id hI
  unfold f_X11_passed
  simp only [li_0, li_1, li_2, li_3, li_4, li_5, li_6, li_7, li_8, li_9, li_10, li_11, li_12, li_13, li_14, li_15, li_16, li_17, li_18, li_19, li_20, li_21, li_22, li_23, li_24, li_25, li_26, li_27, li_28, li_29, li_30, li_31, li_32, li_37, li_38, li_39, li_40, li_41, li_42, li_43, li_44, li_45, li_46, li_47, li_48, li_49, li_50, li_57, li_59, li_60, li_61, li_62, li_63, li_64, li_65, li_69, li_81, li_89, li_90, li_92, li_97, li_99, li_100, li_101, li_103, li_104, li_105, li_106, li_108, li_111, li_112, li_113, li_114, li_115, li_116, li_117, li_119, li_122, li_123, li_124, li_125, li_126, li_127, li_128, li_129, li_130, li_131, li_132, li_133, li_134, li_135, li_136, li_137, li_140, li_141, li_142, li_143, li_145, li_147, li_150, li_153, li_159, li_160, li_161, li_162, li_185, li_197, li_213, li_222, li_223, li_255, li_256, li_257, li_258, li_259, li_260, li_261, li_262, li_263, li_264, li_271, li_272, li_273, li_274, li_275, li_276, li_277, li_278, li_300, li_400, li_420, li_500, li_802, li_820, li_823, li_839, li_855, li_871, li_887, li_999, li_1000, li_1001, li_1002, li_1003, li_1004, li_1005, li_1006, li_1007, li_1008, li_1009, li_1010, li_1011, li_1012, li_1013, li_1014, li_1015, li_1016, li_1017, li_1018, li_1019, li_1020, li_1021, li_1022, li_1023, li_1707, li_4096, li_9999, li_65536, li_100000, li_1000000, li_1664525, li_100000000, li_252645135, li_858993459, li_1000000007, li_1013904223, li_1431655765, li_m1]
  rw [e_within, bd_s]
  cases hq : decide (nI 0 ≤ x ∧ x ≤ nI 9) with
  | false =>
    rw [if_pos (by decide)]
    refine wp_ret ?_
    unfold f_X12_passed
    simp only [li_0, li_1, li_2, li_3, li_4, li_5, li_6, li_7, li_8, li_9, li_10, li_11, li_12, li_13, li_14, li_15, li_16, li_17, li_18, li_19, li_20, li_21, li_22, li_23, li_24, li_25, li_26, li_27, li_28, li_29, li_30, li_31, li_32, li_37, li_38, li_39, li_40, li_41, li_42, li_43, li_44, li_45, li_46, li_47, li_48, li_49, li_50, li_57, li_59, li_60, li_61, li_62, li_63, li_64, li_65, li_69, li_81, li_89, li_90, li_92, li_97, li_99, li_100, li_101, li_103, li_104, li_105, li_106, li_108, li_111, li_112, li_113, li_114, li_115, li_116, li_117, li_119, li_122, li_123, li_124, li_125, li_126, li_127, li_128, li_129, li_130, li_131, li_132, li_133, li_134, li_135, li_136, li_137, li_140, li_141, li_142, li_143, li_145, li_147, li_150, li_153, li_159, li_160, li_161, li_162, li_185, li_197, li_213, li_222, li_223, li_255, li_256, li_257, li_258, li_259, li_260, li_261, li_262, li_263, li_264, li_271, li_272, li_273, li_274, li_275, li_276, li_277, li_278, li_300, li_400, li_420, li_500, li_802, li_820, li_823, li_839, li_855, li_871, li_887, li_999, li_1000, li_1001, li_1002, li_1003, li_1004, li_1005, li_1006, li_1007, li_1008, li_1009, li_1010, li_1011, li_1012, li_1013, li_1014, li_1015, li_1016, li_1017, li_1018, li_1019, li_1020, li_1021, li_1022, li_1023, li_1707, li_4096, li_9999, li_65536, li_100000, li_1000000, li_1664525, li_100000000, li_252645135, li_858993459, li_1000000007, li_1013904223, li_1431655765, li_m1]
    rw [e_isIn, bd_s, hq, if_pos (by decide)]
    exact wp_ret ⟨rfl, hI⟩
  | true =>
    obtain ⟨a, -, ha, rfl⟩ := rng_of (by decide) (by decide) hq
    have ha : a < 10 := by omega
    rw [if_neg (by decide), e_within, bd_s]
    cases hq2 : decide (nI 0 ≤ c ∧ c ≤ nI 2) with
    | false =>
      rw [if_pos (by decide)]
      refine wp_ret ?_
      unfold f_X12_passed
      simp only [li_0, li_1, li_2, li_3, li_4, li_5, li_6, li_7, li_8, li_9, li_10, li_11, li_12, li_13, li_14, li_15, li_16, li_17, li_18, li_19, li_20, li_21, li_22, li_23, li_24, li_25, li_26, li_27, li_28, li_29, li_30, li_31, li_32, li_37, li_38, li_39, li_40, li_41, li_42, li_43, li_44, li_45, li_46, li_47, li_48, li_49, li_50, li_57, li_59, li_60, li_61, li_62, li_63, li_64, li_65, li_69, li_81, li_89, li_90, li_92, li_97, li_99, li_100, li_101, li_103, li_104, li_105, li_106, li_108, li_111, li_112, li_113, li_114, li_115, li_116, li_117, li_119, li_122, li_123, li_124, li_125, li_126, li_127, li_128, li_129, li_130, li_131, li_132, li_133, li_134, li_135, li_136, li_137, li_140, li_141, li_142, li_143, li_145, li_147, li_150, li_153, li_159, li_160, li_161, li_162, li_185, li_197, li_213, li_222, li_223, li_255, li_256, li_257, li_258, li_259, li_260, li_261, li_262, li_263, li_264, li_271, li_272, li_273, li_274, li_275, li_276, li_277, li_278, li_300, li_400, li_420, li_500, li_802, li_820, li_823, li_839, li_855, li_871, li_887, li_999, li_1000, li_1001, li_1002, li_1003, li_1004, li_1005, li_1006, li_1007, li_1008, li_1009, li_1010, li_1011, li_1012, li_1013, li_1014, li_1015, li_1016, li_1017, li_1018, li_1019, li_1020, li_1021, li_1022, li_1023, li_1707, li_4096, li_9999, li_65536, li_100000, li_1000000, li_1664525, li_100000000, li_252645135, li_858993459, li_1000000007, li_1013904223, li_1431655765, li_m1]
      rw [e_isIn, bd_s, hq, if_neg (by decide), e_isIn, bd_s, hq2, if_pos (by decide)]
      exact wp_ret ⟨rfl, hI⟩
    | true =>
      rw [if_neg (by decide)]
      by_cases hc : c = nI 0
      · subst hc
        rw [if_pos rfl, e_within, bd_s]
        cases hq3 : decide (nI 0 ≤ b ∧ b ≤ nI 9999) with
        | false =>
          rw [if_pos (by decide)]
          refine wp_ret ?_
          unfold f_X12_passed
          simp only [li_0, li_1, li_2, li_3, li_4, li_5, li_6, li_7, li_8, li_9, li_10, li_11, li_12, li_13, li_14, li_15, li_16, li_17, li_18, li_19, li_20, li_21, li_22, li_23, li_24, li_25, li_26, li_27, li_28, li_29, li_30, li_31, li_32, li_37, li_38, li_39, li_40, li_41, li_42, li_43, li_44, li_45, li_46, li_47, li_48, li_49, li_50, li_57, li_59, li_60, li_61, li_62, li_63, li_64, li_65, li_69, li_81, li_89, li_90, li_92, li_97, li_99, li_100, li_101, li_103, li_104, li_105, li_106, li_108, li_111, li_112, li_113, li_114, li_115, li_116, li_117, li_119, li_122, li_123, li_124, li_125, li_126, li_127, li_128, li_129, li_130, li_131, li_132, li_133, li_134, li_135, li_136, li_137, li_140, li_141, li_142, li_143, li_145, li_147, li_150, li_153, li_159, li_160, li_161, li_162, li_185, li_197, li_213, li_222, li_223, li_255, li_256, li_257, li_258, li_259, li_260, li_261, li_262, li_263, li_264, li_271, li_272, li_273, li_274, li_275, li_276, li_277, li_278, li_300, li_400, li_420, li_500, li_802, li_820, li_823, li_839, li_855, li_871, li_887, li_999, li_1000, li_1001, li_1002, li_1003, li_1004, li_1005, li_1006, li_1007, li_1008, li_1009, li_1010, li_1011, li_1012, li_1013, li_1014, li_1015, li_1016, li_1017, li_1018, li_1019, li_1020, li_1021, li_1022, li_1023, li_1707, li_4096, li_9999, li_65536, li_100000, li_1000000, li_1664525, li_100000000, li_252645135, li_858993459, li_1000000007, li_1013904223, li_1431655765, li_m1]
          rw [e_isIn, bd_s, hq, if_neg (by decide), e_isIn, bd_s, hq2, if_neg (by decide), if_pos trivial, e_isIn, bd_s, hq3, if_pos (by decide)]
          exact wp_ret ⟨rfl, hI⟩
        | true =>
          obtain ⟨T, -, hT, rfl⟩ := rng_of (by decide) (by decide) hq3
          rw [if_neg (by decide)]
          unfold f_X11_passed_J36
          simp only [li_0, li_1, li_2, li_3, li_4, li_5, li_6, li_7, li_8, li_9, li_10, li_11, li_12, li_13, li_14, li_15, li_16, li_17, li_18, li_19, li_20, li_21, li_22, li_23, li_24, li_25, li_26, li_27, li_28, li_29, li_30, li_31, li_32, li_37, li_38, li_39, li_40, li_41, li_42, li_43, li_44, li_45, li_46, li_47, li_48, li_49, li_50, li_57, li_59, li_60, li_61, li_62, li_63, li_64, li_65, li_69, li_81, li_89, li_90, li_92, li_97, li_99, li_100, li_101, li_103, li_104, li_105, li_106, li_108, li_111, li_112, li_113, li_114, li_115, li_116, li_117, li_119, li_122, li_123, li_124, li_125, li_126, li_127, li_128, li_129, li_130, li_131, li_132, li_133, li_134, li_135, li_136, li_137, li_140, li_141, li_142, li_143, li_145, li_147, li_150, li_153, li_159, li_160, li_161, li_162, li_185, li_197, li_213, li_222, li_223, li_255, li_256, li_257, li_258, li_259, li_260, li_261, li_262, li_263, li_264, li_271, li_272, li_273, li_274, li_275, li_276, li_277, li_278, li_300, li_400, li_420, li_500, li_802, li_820, li_823, li_839, li_855, li_871, li_887, li_999, li_1000, li_1001, li_1002, li_1003, li_1004, li_1005, li_1006, li_1007, li_1008, li_1009, li_1010, li_1011, li_1012, li_1013, li_1014, li_1015, li_1016, li_1017, li_1018, li_1019, li_1020, li_1021, li_1022, li_1023, li_1707, li_4096, li_9999, li_65536, li_100000, li_1000000, li_1664525, li_100000000, li_252645135, li_858993459, li_1000000007, li_1013904223, li_1431655765, li_m1]
          rw [if_pos trivial, e_behind hN H G.1 ha hT, bd_s]
          refine wp_ret ?_
          unfold f_X12_passed f_X12_passed_J36
          simp only [li_0, li_1, li_2, li_3, li_4, li_5, li_6, li_7, li_8, li_9, li_10, li_11, li_12, li_13, li_14, li_15, li_16, li_17, li_18, li_19, li_20, li_21, li_22, li_23, li_24, li_25, li_26, li_27, li_28, li_29, li_30, li_31, li_32, li_37, li_38, li_39, li_40, li_41, li_42, li_43, li_44, li_45, li_46, li_47, li_48, li_49, li_50, li_57, li_59, li_60, li_61, li_62, li_63, li_64, li_65, li_69, li_81, li_89, li_90, li_92, li_97, li_99, li_100, li_101, li_103, li_104, li_105, li_106, li_108, li_111, li_112, li_113, li_114, li_115, li_116, li_117, li_119, li_122, li_123, li_124, li_125, li_126, li_127, li_128, li_129, li_130, li_131, li_132, li_133, li_134, li_135, li_136, li_137, li_140, li_141, li_142, li_143, li_145, li_147, li_150, li_153, li_159, li_160, li_161, li_162, li_185, li_197, li_213, li_222, li_223, li_255, li_256, li_257, li_258, li_259, li_260, li_261, li_262, li_263, li_264, li_271, li_272, li_273, li_274, li_275, li_276, li_277, li_278, li_300, li_400, li_420, li_500, li_802, li_820, li_823, li_839, li_855, li_871, li_887, li_999, li_1000, li_1001, li_1002, li_1003, li_1004, li_1005, li_1006, li_1007, li_1008, li_1009, li_1010, li_1011, li_1012, li_1013, li_1014, li_1015, li_1016, li_1017, li_1018, li_1019, li_1020, li_1021, li_1022, li_1023, li_1707, li_4096, li_9999, li_65536, li_100000, li_1000000, li_1664525, li_100000000, li_252645135, li_858993459, li_1000000007, li_1013904223, li_1431655765, li_m1]
          rw [e_isIn, bd_s, hq, if_neg (by decide), e_isIn, bd_s, hq2, if_neg (by decide), if_pos trivial, e_isIn, bd_s, hq3, if_neg (by decide), if_pos trivial, e_by hN rfl G.1 ha hT, bd_s]
          exact wp_ret ⟨rfl, hI⟩
      · rw [if_neg hc]
        unfold f_X11_passed_J36
        simp only [li_0, li_1, li_2, li_3, li_4, li_5, li_6, li_7, li_8, li_9, li_10, li_11, li_12, li_13, li_14, li_15, li_16, li_17, li_18, li_19, li_20, li_21, li_22, li_23, li_24, li_25, li_26, li_27, li_28, li_29, li_30, li_31, li_32, li_37, li_38, li_39, li_40, li_41, li_42, li_43, li_44, li_45, li_46, li_47, li_48, li_49, li_50, li_57, li_59, li_60, li_61, li_62, li_63, li_64, li_65, li_69, li_81, li_89, li_90, li_92, li_97, li_99, li_100, li_101, li_103, li_104, li_105, li_106, li_108, li_111, li_112, li_113, li_114, li_115, li_116, li_117, li_119, li_122, li_123, li_124, li_125, li_126, li_127, li_128, li_129, li_130, li_131, li_132, li_133, li_134, li_135, li_136, li_137, li_140, li_141, li_142, li_143, li_145, li_147, li_150, li_153, li_159, li_160, li_161, li_162, li_185, li_197, li_213, li_222, li_223, li_255, li_256, li_257, li_258, li_259, li_260, li_261, li_262, li_263, li_264, li_271, li_272, li_273, li_274, li_275, li_276, li_277, li_278, li_300, li_400, li_420, li_500, li_802, li_820, li_823, li_839, li_855, li_871, li_887, li_999, li_1000, li_1001, li_1002, li_1003, li_1004, li_1005, li_1006, li_1007, li_1008, li_1009, li_1010, li_1011, li_1012, li_1013, li_1014, li_1015, li_1016, li_1017, li_1018, li_1019, li_1020, li_1021, li_1022, li_1023, li_1707, li_4096, li_9999, li_65536, li_100000, li_1000000, li_1664525, li_100000000, li_252645135, li_858993459, li_1000000007, li_1013904223, li_1431655765, li_m1]
        rw [if_neg hc]
        refine wp_mono (w_passC hN H G.1 ha) ?_
        rintro _ m1 ⟨rfl, k, j, R, rfl⟩
        unfold f_X12_passed f_X12_passed_J36
        simp only [li_0, li_1, li_2, li_3, li_4, li_5, li_6, li_7, li_8, li_9, li_10, li_11, li_12, li_13, li_14, li_15, li_16, li_17, li_18, li_19, li_20, li_21, li_22, li_23, li_24, li_25, li_26, li_27, li_28, li_29, li_30, li_31, li_32, li_37, li_38, li_39, li_40, li_41, li_42, li_43, li_44, li_45, li_46, li_47, li_48, li_49, li_50, li_57, li_59, li_60, li_61, li_62, li_63, li_64, li_65, li_69, li_81, li_89, li_90, li_92, li_97, li_99, li_100, li_101, li_103, li_104, li_105, li_106, li_108, li_111, li_112, li_113, li_114, li_115, li_116, li_117, li_119, li_122, li_123, li_124, li_125, li_126, li_127, li_128, li_129, li_130, li_131, li_132, li_133, li_134, li_135, li_136, li_137, li_140, li_141, li_142, li_143, li_145, li_147, li_150, li_153, li_159, li_160, li_161, li_162, li_185, li_197, li_213, li_222, li_223, li_255, li_256, li_257, li_258, li_259, li_260, li_261, li_262, li_263, li_264, li_271, li_272, li_273, li_274, li_275, li_276, li_277, li_278, li_300, li_400, li_420, li_500, li_802, li_820, li_823, li_839, li_855, li_871, li_887, li_999, li_1000, li_1001, li_1002, li_1003, li_1004, li_1005, li_1006, li_1007, li_1008, li_1009, li_1010, li_1011, li_1012, li_1013, li_1014, li_1015, li_1016, li_1017, li_1018, li_1019, li_1020, li_1021, li_1022, li_1023, li_1707, li_4096, li_9999, li_65536, li_100000, li_1000000, li_1664525, li_100000000, li_252645135, li_858993459, li_1000000007, li_1013904223, li_1431655765, li_m1]
        rw [e_isIn, bd_s, hq, if_neg (by decide), e_isIn, bd_s, hq2, if_neg (by decide), if_neg hc, if_neg hc]
        obtain ⟨hjk, hk, he, hd⟩ := id R
        refine wp_it1 (fun q y m' => ∃ i, 1 ≤ i ∧ i ≤ k ∧ q = k - i ∧ y = nI i ∧ m' = m1) ?_ N (k - 1) _ _ (by omega) ⟨1, by omega, by omega, rfl, rfl, rfl⟩
        rintro q X y m' ⟨i, hi1, hi, rfl, rfl, rfl⟩ hX
        obtain ⟨v, ev, hv⟩ := e_was (T := i) hN rfl G.1 ha (by omega)
        unfold f_X12_passed_L50
        simp only [li_0, li_1, li_2, li_3, li_4, li_5, li_6, li_7, li_8, li_9, li_10, li_11, li_12, li_13, li_14, li_15, li_16, li_17, li_18, li_19, li_20, li_21, li_22, li_23, li_24, li_25, li_26, li_27, li_28, li_29, li_30, li_31, li_32, li_37, li_38, li_39, li_40, li_41, li_42, li_43, li_44, li_45, li_46, li_47, li_48, li_49, li_50, li_57, li_59, li_60, li_61, li_62, li_63, li_64, li_65, li_69, li_81, li_89, li_90, li_92, li_97, li_99, li_100, li_101, li_103, li_104, li_105, li_106, li_108, li_111, li_112, li_113, li_114, li_115, li_116, li_117, li_119, li_122, li_123, li_124, li_125, li_126, li_127, li_128, li_129, li_130, li_131, li_132, li_133, li_134, li_135, li_136, li_137, li_140, li_141, li_142, li_143, li_145, li_147, li_150, li_153, li_159, li_160, li_161, li_162, li_185, li_197, li_213, li_222, li_223, li_255, li_256, li_257, li_258, li_259, li_260, li_261, li_262, li_263, li_264, li_271, li_272, li_273, li_274, li_275, li_276, li_277, li_278, li_300, li_400, li_420, li_500, li_802, li_820, li_823, li_839, li_855, li_871, li_887, li_999, li_1000, li_1001, li_1002, li_1003, li_1004, li_1005, li_1006, li_1007, li_1008, li_1009, li_1010, li_1011, li_1012, li_1013, li_1014, li_1015, li_1016, li_1017, li_1018, li_1019, li_1020, li_1021, li_1022, li_1023, li_1707, li_4096, li_9999, li_65536, li_100000, li_1000000, li_1664525, li_100000000, li_252645135, li_858993459, li_1000000007, li_1013904223, li_1431655765, li_m1, nI_up]
        rw [ev, bd_s]
        by_cases e : i = k
        · subst e
          rcases hv with ⟨-, hno⟩ | ⟨j', hj', rfl, ej⟩
          · exact absurd he (hno j hjk)
          · have := (Rep.uni R ⟨hj', hk, ej, hd⟩).2
            subst this
            rw [if_neg (nI_no1 (by omega))]
            refine wp_ite (fun q => ?_) (fun q => ?_)
            · exact wp_ret ⟨by rw [if_pos q], hI⟩
            · rw [ev, bd_s, pk_sub (by omega)]
              exact wp_ret ⟨by rw [if_neg q], hI⟩
        · rcases hv with ⟨rfl, -⟩ | ⟨j', hj', rfl, ej⟩
          · rw [if_pos rfl]
            exact hX (k - (i + 1)) _ _ (by omega) ⟨i + 1, by omega, by omega, rfl, rfl, rfl⟩
          · exact absurd ej (hd i (by omega) j' hj')
end PASSED
