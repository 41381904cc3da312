/-! cuts -/
section CUTS
variable {w w' v0 : Arr} {LN : List Lin} {m m' m2 : Mem} {N d n j i p q : Nat} {f g : Nat → Nat}
def twoS (p q : Nat) : Nat := 2 ^ p ||| 2 ^ q
def betS (w : Arr) (p q : Nat) : Nat := sdf (sdf (2 ^ zh w - 1) (twoS p q)) (zv w)
def fB (w : Arr) (p q s h : Nat) : Nat := zn w h &&& (sdf (betS w p q) s ||| twoS p q)
def CutP (w : Arr) (p q s : Nat) : Prop := (itf (fB w p q s) (zh w) (2 ^ p) 12).testBit q = false
theorem fB_eq (W0 : WFc w) {s h : Nat} (hh : h < zh w) : fB w p q s h = sdf (zn w h) (sdf (s ||| zv w) (twoS p q)) := by
  refine Nat.eq_of_testBit_eq (fun i => ?_)
  unfold fB betS
  rw [Nat.testBit_and, Nat.testBit_or, sdf_bit, sdf_bit, sdf_bit, sdf_bit, sdf_bit, Nat.testBit_or, Nat.testBit_two_pow_sub_one]
  cases hz : (zn w h).testBit i with
  | false => rfl
  | true =>
    rw [decide_eq_true (bit_lt (zn_lt W0 hh) hz)]
    cases (twoS p q).testBit i <;> cases (zv w).testBit i <;> cases s.testBit i <;> rfl
theorem bet_iff (W0 : WFc w) {s : Nat} (hs : s < 2 ^ zh w) : s &&& (twoS p q ||| zv w) = 0 ↔ sb s (betS w p q) := by
  constructor
  · intro h i hi
    have := congrArg (fun x => x.testBit i) h
    simp only [Nat.testBit_and, Nat.testBit_or, Nat.zero_testBit, hi, Bool.true_and, Bool.or_eq_false_iff] at this
    unfold betS
    rw [sdf_bit, sdf_bit, Nat.testBit_two_pow_sub_one, decide_eq_true (bit_lt hs hi), this.1, this.2]
    rfl
  · intro h
    refine Nat.eq_of_testBit_eq (fun i => ?_)
    rw [Nat.zero_testBit, Nat.testBit_and, Nat.testBit_or]
    cases hi : s.testBit i with
    | false => rfl
    | true =>
      have := h i hi
      unfold betS at this
      rw [sdf_bit, sdf_bit, Bool.and_eq_true, Bool.and_eq_true, Bool.not_eq_true', Bool.not_eq_true'] at this
      rw [this.1.2, this.2]
      rfl
theorem bet_lt : betS w p q < 2 ^ zh w := by
  have h1 := sdf_le (sdf (2 ^ zh w - 1) (twoS p q)) (zv w)
  have h2 := sdf_le (2 ^ zh w - 1) (twoS p q)
  have p0 := pow_pos' (zh w)
  unfold betS
  omega
theorem two_lt (W0 : WFc w) (hp : p < zh w) (hq : q < zh w) : twoS p q < 2 ^ zh w := Nat.or_lt_two_pow (Nat.pow_lt_pow_right (by decide) hp) (Nat.pow_lt_pow_right (by decide) hq)
/-- with all gloved between them it is cut -/
theorem cut_all (hpq : p ≠ q) (hz : (zn w p).testBit q = false) : CutP w p q (betS w p q) := by
  have hf : sb (fB w p q (betS w p q) p) (2 ^ p) := by
    intro i hi
    unfold fB at hi
    rw [Nat.testBit_and, Nat.testBit_or, sdf_bit, Bool.and_eq_true] at hi
    obtain ⟨h1, h2⟩ := hi
    have h3 : (twoS p q).testBit i = true := by
      revert h2
      cases (betS w p q).testBit i <;> simp
    unfold twoS at h3
    rw [Nat.testBit_or, Bool.or_eq_true, Nat.testBit_two_pow, Nat.testBit_two_pow, decide_eq_true_eq, decide_eq_true_eq] at h3
    rw [Nat.testBit_two_pow, decide_eq_true_eq]
    rcases h3 with h3 | h3
    · exact h3
    · rw [← h3, hz] at h1
      cases h1
  have hr : ∀ s, sb s (2 ^ p) → ∀ n, sb (rnf (fB w p q (betS w p q)) s n) (2 ^ p) := by
    intro s hs n
    induction n with
    | zero => exact hs
    | succ n ih =>
      unfold rnf
      split
      · rename_i hb
        have hnp := hs n hb
        rw [Nat.testBit_two_pow, decide_eq_true_eq] at hnp
        subst hnp
        intro i hi
        rw [Nat.testBit_or, Bool.or_eq_true] at hi
        rcases hi with hi | hi
        · exact ih i hi
        · exact hf i hi
      · exact ih
  have hi : ∀ r, sb (itf (fB w p q (betS w p q)) (zh w) (2 ^ p) r) (2 ^ p) := by
    intro r
    induction r with
    | zero => exact fun _ h => h
    | succ r ih => exact hr _ ih _
  unfold CutP
  cases hb : (itf (fB w p q (betS w p q)) (zh w) (2 ^ p) 12).testBit q with
  | false => rfl
  | true =>
    have := hi 12 q hb
    rw [Nat.testBit_two_pow, decide_eq_true_eq] at this
    exact absurd this hpq
theorem w_between (hN : 20000 ≤ N) (H : HRep 2 LN w m) (W0 : WFc w) (hp : p < zh w) (hq : q < zh w) : Wp (f_X7_fewestBetween N (nI p) (nI q) m) (fun v m' => m' = m ∧ BstV (betS w p q) (CutP w p q) v) := by
  have lh := W0.lzh
  have pp := pow_le31 lh
  have lR := bet_lt (w := w) (p := p) (q := q)
  have l2 := two_lt W0 hp hq
  have pl : 2 ^ p < 2 ^ zh w := Nat.pow_lt_pow_right (by decide) hp
  unfold f_X7_fewestBetween
  simp only [li_0, li_1, li_2, li_3, li_4, li_5, li_6, li_7, li_8, li_9, li_10, li_11, li_12, li_13, li_14, li_15, li_16, li_17, li_18, li_19, li_20, li_21, li_22, li_23, li_24, li_25, li_26, li_27, li_28, li_29, li_30, li_31, li_32, li_37, li_38, li_39, li_40, li_41, li_42, li_43, li_44, li_45, li_46, li_47, li_48, li_49, li_50, li_57, li_59, li_60, li_61, li_62, li_63, li_64, li_65, li_69, li_81, li_89, li_90, li_92, li_97, li_99, li_100, li_101, li_103, li_104, li_105, li_106, li_108, li_111, li_112, li_113, li_114, li_115, li_116, li_117, li_119, li_122, li_123, li_124, li_125, li_126, li_127, li_128, li_129, li_130, li_131, li_132, li_133, li_134, li_135, li_136, li_137, li_140, li_141, li_142, li_143, li_145, li_147, li_150, li_153, li_159, li_160, li_161, li_162, li_185, li_197, li_213, li_222, li_223, li_255, li_256, li_257, li_258, li_259, li_260, li_261, li_262, li_263, li_264, li_271, li_272, li_273, li_274, li_275, li_276, li_277, li_278, li_300, li_400, li_420, li_500, li_802, li_820, li_823, li_839, li_855, li_871, li_887, li_999, li_1000, li_1001, li_1002, li_1003, li_1004, li_1005, li_1006, li_1007, li_1008, li_1009, li_1010, li_1011, li_1012, li_1013, li_1014, li_1015, li_1016, li_1017, li_1018, li_1019, li_1020, li_1021, li_1022, li_1023, li_1707, li_4096, li_9999, li_65536, li_100000, li_1000000, li_1664525, li_100000000, li_252645135, li_858993459, li_1000000007, li_1013904223, li_1431655765, li_m1]
  rw [nz_one (by omega), nz_one (by omega), nz_or, bnd_s, e_all H W0, bd_s, e_those4 hN H W0, bd_s, nz_diff, nz_diff, bnd_s]
  show Wp (it3 (f_X7_fewestBetween_L38 N (nI p) (nI q) (nI (twoS p q)) (nI (betS w p q))) N mo1 (nI 0) (nI 0) m) _
  refine wp_it3 (fun k x y z m' => ∃ o s c, k = 4096 - s ∧ s ≤ betS w p q ∧ x = oix o ∧ y = nI s ∧ z = nI c ∧ c ≤ s ∧ m' = m ∧ sb s (betS w p q) ∧ BP (betS w p q) (CutP w p q) s o) ?_ N 4096 _ _ _ _ (by omega)
    ⟨none, 0, 0, rfl, by omega, rfl, rfl, rfl, Nat.le_refl _, rfl, sb_zero, BP.zero⟩
  rintro k X x y z m' ⟨o, s, c, rfl, hs, rfl, rfl, rfl, hc, rfl, hsb, hbp⟩ hX
  unfold f_X7_fewestBetween_L38
  simp only [li_0, li_1, li_2, li_3, li_4, li_5, li_6, li_7, li_8, li_9, li_10, li_11, li_12, li_13, li_14, li_15, li_16, li_17, li_18, li_19, li_20, li_21, li_22, li_23, li_24, li_25, li_26, li_27, li_28, li_29, li_30, li_31, li_32, li_37, li_38, li_39, li_40, li_41, li_42, li_43, li_44, li_45, li_46, li_47, li_48, li_49, li_50, li_57, li_59, li_60, li_61, li_62, li_63, li_64, li_65, li_69, li_81, li_89, li_90, li_92, li_97, li_99, li_100, li_101, li_103, li_104, li_105, li_106, li_108, li_111, li_112, li_113, li_114, li_115, li_116, li_117, li_119, li_122, li_123, li_124, li_125, li_126, li_127, li_128, li_129, li_130, li_131, li_132, li_133, li_134, li_135, li_136, li_137, li_140, li_141, li_142, li_143, li_145, li_147, li_150, li_153, li_159, li_160, li_161, li_162, li_185, li_197, li_213, li_222, li_223, li_255, li_256, li_257, li_258, li_259, li_260, li_261, li_262, li_263, li_264, li_271, li_272, li_273, li_274, li_275, li_276, li_277, li_278, li_300, li_400, li_420, li_500, li_802, li_820, li_823, li_839, li_855, li_871, li_887, li_999, li_1000, li_1001, li_1002, li_1003, li_1004, li_1005, li_1006, li_1007, li_1008, li_1009, li_1010, li_1011, li_1012, li_1013, li_1014, li_1015, li_1016, li_1017, li_1018, li_1019, li_1020, li_1021, li_1022, li_1023, li_1707, li_4096, li_9999, li_65536, li_100000, li_1000000, li_1664525, li_100000000, li_252645135, li_858993459, li_1000000007, li_1013904223, li_1431655765, li_m1]
  rw [if_neg (nI_ge (by omega) (by omega))]
  have tail : ∀ o', BP (betS w p q) (CutP w p q) (s + 1) o' → Wp (bd (f_X11_nextWithin N (nI s) (nI (betS w p q)) m') fun r_110 m_110 => if r_110 = nI 0 then (some (oix o', m_110)) else (X (oix o') r_110 (nI c + nI 1) m_110)) (fun v m'_1 => m'_1 = m' ∧ BstV (betS w p q) (CutP w p q) v) := by
    intro o' h'
    rw [e_nextIn m' (by omega) hsb, bd_s]
    rcases nx_ok 12 (betS w p q) s (by omega) hsb with ⟨e1, e2⟩ | ⟨g1, g2, g3⟩
    · rw [e2, if_pos rfl]
      exact wp_ret ⟨rfl, h'.fin (by omega)⟩
    · have := sb_le g2
      rw [if_neg (nI_ne (by omega) (by omega) (by decide)), nI_up]
      exact hX (4096 - nx 12 (betS w p q) s) _ _ _ _ (by omega) ⟨o', nx 12 (betS w p q) s, c + 1, rfl, this, rfl, rfl, rfl, by omega, rfl, g2, h'.next g1 g3⟩
  have J65 : (∀ b, o = some b → pc s < pc b) → Wp (f_X7_fewestBetween_J65 N (nI p) (nI q) (nI (twoS p q)) (nI (betS w p q)) X (oix o) (nI s) (nI c) m') (fun v m'_1 => m'_1 = m' ∧ BstV (betS w p q) (CutP w p q) v) := by
    intro hless
    have lit : itf (fB w p q s) (zh w) (2 ^ p) 12 < 2 ^ zh w := itf_lt pl (fun k hk => and_lt (zn_lt W0 hk))
    unfold f_X7_fewestBetween_J65 f_X7_fewestBetween_J70
    simp only [li_0, li_1, li_2, li_3, li_4, li_5, li_6, li_7, li_8, li_9, li_10, li_11, li_12, li_13, li_14, li_15, li_16, li_17, li_18, li_19, li_20, li_21, li_22, li_23, li_24, li_25, li_26, li_27, li_28, li_29, li_30, li_31, li_32, li_37, li_38, li_39, li_40, li_41, li_42, li_43, li_44, li_45, li_46, li_47, li_48, li_49, li_50, li_57, li_59, li_60, li_61, li_62, li_63, li_64, li_65, li_69, li_81, li_89, li_90, li_92, li_97, li_99, li_100, li_101, li_103, li_104, li_105, li_106, li_108, li_111, li_112, li_113, li_114, li_115, li_116, li_117, li_119, li_122, li_123, li_124, li_125, li_126, li_127, li_128, li_129, li_130, li_131, li_132, li_133, li_134, li_135, li_136, li_137, li_140, li_141, li_142, li_143, li_145, li_147, li_150, li_153, li_159, li_160, li_161, li_162, li_185, li_197, li_213, li_222, li_223, li_255, li_256, li_257, li_258, li_259, li_260, li_261, li_262, li_263, li_264, li_271, li_272, li_273, li_274, li_275, li_276, li_277, li_278, li_300, li_400, li_420, li_500, li_802, li_820, li_823, li_839, li_855, li_871, li_887, li_999, li_1000, li_1001, li_1002, li_1003, li_1004, li_1005, li_1006, li_1007, li_1008, li_1009, li_1010, li_1011, li_1012, li_1013, li_1014, li_1015, li_1016, li_1017, li_1018, li_1019, li_1020, li_1021, li_1022, li_1023, li_1707, li_4096, li_9999, li_65536, li_100000, li_1000000, li_1664525, li_100000000, li_252645135, li_858993459, li_1000000007, li_1013904223, li_1431655765, li_m1]
    rw [if_neg (by decide), nz_one (by omega), nz_diff, nz_or, e_reached hN H W0 pl (by decide), bd_s]
    show Wp (bd (f_X11_isIn N (nI q) (nI (itf (fB w p q s) (zh w) (2 ^ p) 12)) m') _) _
    rw [e_isInX m' (by omega) (by omega), bd_s]
    cases hb : (itf (fB w p q s) (zh w) (2 ^ p) 12).testBit q with
    | false =>
      rw [if_pos (by decide)]
      exact tail (some s) (hbp.new hsb hb hless)
    | true =>
      rw [if_neg (by decide)]
      exact tail o (hbp.skip (fun z => by
        have := z.2
        unfold CutP at this
        rw [hb] at this
        cases this))
  cases o with
  | none =>
    rw [if_pos (by rfl)]
    exact J65 (fun b hb => by cases hb)
  | some b =>
    have hb := hbp.lt
    have l1 := pc_le s
    have l2 := pc_le b
    rw [if_neg (show ¬ oix (some b) = mo1 from nI_no1 (by omega)), e_bitCount _ (by omega), bd_s]
    show Wp (bd (f_J6_bitCount_0f7a4 N (nI b) m') _) _
    rw [e_bitCount _ (by omega), bd_s]
    refine wp_ite (fun q2 => ?_) (fun q2 => ?_) <;> rw [nI_leI (by omega) (by omega)] at q2
    · unfold f_X7_fewestBetween_J70
      simp only [li_0, li_1, li_2, li_3, li_4, li_5, li_6, li_7, li_8, li_9, li_10, li_11, li_12, li_13, li_14, li_15, li_16, li_17, li_18, li_19, li_20, li_21, li_22, li_23, li_24, li_25, li_26, li_27, li_28, li_29, li_30, li_31, li_32, li_37, li_38, li_39, li_40, li_41, li_42, li_43, li_44, li_45, li_46, li_47, li_48, li_49, li_50, li_57, li_59, li_60, li_61, li_62, li_63, li_64, li_65, li_69, li_81, li_89, li_90, li_92, li_97, li_99, li_100, li_101, li_103, li_104, li_105, li_106, li_108, li_111, li_112, li_113, li_114, li_115, li_116, li_117, li_119, li_122, li_123, li_124, li_125, li_126, li_127, li_128, li_129, li_130, li_131, li_132, li_133, li_134, li_135, li_136, li_137, li_140, li_141, li_142, li_143, li_145, li_147, li_150, li_153, li_159, li_160, li_161, li_162, li_185, li_197, li_213, li_222, li_223, li_255, li_256, li_257, li_258, li_259, li_260, li_261, li_262, li_263, li_264, li_271, li_272, li_273, li_274, li_275, li_276, li_277, li_278, li_300, li_400, li_420, li_500, li_802, li_820, li_823, li_839, li_855, li_871, li_887, li_999, li_1000, li_1001, li_1002, li_1003, li_1004, li_1005, li_1006, li_1007, li_1008, li_1009, li_1010, li_1011, li_1012, li_1013, li_1014, li_1015, li_1016, li_1017, li_1018, li_1019, li_1020, li_1021, li_1022, li_1023, li_1707, li_4096, li_9999, li_65536, li_100000, li_1000000, li_1664525, li_100000000, li_252645135, li_858993459, li_1000000007, li_1013904223, li_1431655765, li_m1]
      rw [if_pos trivial]
      exact tail (some b) (hbp.keep q2)
    · exact J65 (fun b' hb' => by
        have := Option.some.inj hb'
        subst this
        omega)
theorem w_cutsM {a3 : Int32} (hN : 20000 ≤ N) (hm : m 124 = w) (W0 : WFc w) (hp : p < zh w) (hq : q < zh w) (hpq : p ≠ q) (hz : (zn w p).testBit q = false) :
    Wp (it2 (f_X12_cuts_L65 N (nI p) (nI q) a3 (nI (twoS p q))) N mo1 (nI 0) m) (fun v m' => m' = m ∧ ∃ s, s < 2 ^ zh w ∧ BstV (betS w p q) (CutP w p q) (nI s) ∧ v = if a3 = nI 0 then nI (pc s) else nI s) := by
  have lh := W0.lzh
  have pp := pow_le31 lh
  have p0 := pow_pos' (zh w)
  have lR := bet_lt (w := w) (p := p) (q := q)
  have l2 := two_lt W0 hp hq
  have pl : 2 ^ p < 2 ^ zh w := Nat.pow_lt_pow_right (by decide) hp
  have l8 := W0.h8.2
  refine wp_it2 (fun k x y m' => ∃ o s, s ≤ 2 ^ zh w ∧ k = 2 ^ zh w - s ∧ x = oix o ∧ y = nI s ∧ BP (betS w p q) (CutP w p q) s o ∧ m' = m) ?_ N (2 ^ zh w) _ _ _ (by omega) ⟨none, 0, by omega, rfl, rfl, rfl, BP.zero, rfl⟩
  rintro k X x y m' ⟨o, s, hs, rfl, rfl, rfl, hbp, rfl⟩ hX
  unfold f_X12_cuts_L65 f_X12_allHearers
  simp only [li_0, li_1, li_2, li_3, li_4, li_5, li_6, li_7, li_8, li_9, li_10, li_11, li_12, li_13, li_14, li_15, li_16, li_17, li_18, li_19, li_20, li_21, li_22, li_23, li_24, li_25, li_26, li_27, li_28, li_29, li_30, li_31, li_32, li_37, li_38, li_39, li_40, li_41, li_42, li_43, li_44, li_45, li_46, li_47, li_48, li_49, li_50, li_57, li_59, li_60, li_61, li_62, li_63, li_64, li_65, li_69, li_81, li_89, li_90, li_92, li_97, li_99, li_100, li_101, li_103, li_104, li_105, li_106, li_108, li_111, li_112, li_113, li_114, li_115, li_116, li_117, li_119, li_122, li_123, li_124, li_125, li_126, li_127, li_128, li_129, li_130, li_131, li_132, li_133, li_134, li_135, li_136, li_137, li_140, li_141, li_142, li_143, li_145, li_147, li_150, li_153, li_159, li_160, li_161, li_162, li_185, li_197, li_213, li_222, li_223, li_255, li_256, li_257, li_258, li_259, li_260, li_261, li_262, li_263, li_264, li_271, li_272, li_273, li_274, li_275, li_276, li_277, li_278, li_300, li_400, li_420, li_500, li_802, li_820, li_823, li_839, li_855, li_871, li_887, li_999, li_1000, li_1001, li_1002, li_1003, li_1004, li_1005, li_1006, li_1007, li_1008, li_1009, li_1010, li_1011, li_1012, li_1013, li_1014, li_1015, li_1016, li_1017, li_1018, li_1019, li_1020, li_1021, li_1022, li_1023, li_1707, li_4096, li_9999, li_65536, li_100000, li_1000000, li_1664525, li_100000000, li_252645135, li_858993459, li_1000000007, li_1013904223, li_1431655765, li_m1, nI_up]
  rw [hm, W0.h37, nz_one (by omega), pk_sub (by omega), bd_s]
  refine wp_ite (fun q1 => ?_) (fun q1 => ?_) <;> rw [nI_ltI (by omega) (by omega)] at q1
  · obtain ⟨s, rfl⟩ : ∃ s', s = s' + 1 := ⟨s - 1, by omega⟩
    have hfin := hbp.fin (show betS w p q ≤ s by omega)
    have ho : ∃ b, o = some b := by
      cases o with
      | some b => exact ⟨b, rfl⟩
      | none => exact absurd (cut_all hpq hz) (hbp (betS w p q) (by omega) (fun _ h => h))
    obtain ⟨b, rfl⟩ := ho
    have hb := hbp.lt
    have hb2 := sb_le hbp.2.1
    show Wp (if a3 = nI 0 then bd (f_X12_count N (nI b) m') _ else some (nI b, m')) _
    refine wp_ite (fun q2 => ?_) (fun q2 => ?_)
    · rw [e_count _ hN (by omega), bd_s]
      exact wp_ret ⟨rfl, b, by omega, hfin, by rw [if_pos q2]⟩
    · exact wp_ret ⟨rfl, b, by omega, hfin, by rw [if_neg q2]⟩
  · have hlt : s < 2 ^ zh w := by omega
    have hor : twoS p q ||| zv w < 2 ^ zh w := Nat.or_lt_two_pow l2 l8
    have hand : s &&& (twoS p q ||| zv w) < 2 ^ zh w := and_lt hlt
    have go : ∀ o', BP (betS w p q) (CutP w p q) (s + 1) o' → Wp (X (oix o') (nI (s + 1)) m') (fun v m'_1 => m'_1 = m' ∧ ∃ s, s < 2 ^ zh w ∧ BstV (betS w p q) (CutP w p q) (nI s) ∧ v = if a3 = nI 0 then nI (pc s) else nI s) := by
      intro o' h'
      exact hX (2 ^ zh w - (s + 1)) _ _ _ (by omega) ⟨o', s + 1, by omega, rfl, rfl, rfl, h', rfl⟩
    have J112 : sb s (betS w p q) → (∀ b, o = some b → pc s < pc b) → Wp (f_X12_cuts_J112 N (nI p) (nI q) a3 (nI (twoS p q)) X (oix o) (nI s) m') (fun v m'_1 => m'_1 = m' ∧ ∃ s, s < 2 ^ zh w ∧ BstV (betS w p q) (CutP w p q) (nI s) ∧ v = if a3 = nI 0 then nI (pc s) else nI s) := by
      intro hsb hless
      have e : itf (fun h => sdf (zn w h) (sdf (s ||| zv w) (twoS p q))) (zh w) (2 ^ p) 12 = itf (fB w p q s) (zh w) (2 ^ p) 12 := itf_cg (fun k hk => (fB_eq W0 hk).symm)
      have lit : itf (fB w p q s) (zh w) (2 ^ p) 12 < 2 ^ zh w := itf_lt pl (fun k hk => and_lt (zn_lt W0 hk))
      unfold f_X12_cuts_J112
      simp only [li_0, li_1, li_2, li_3, li_4, li_5, li_6, li_7, li_8, li_9, li_10, li_11, li_12, li_13, li_14, li_15, li_16, li_17, li_18, li_19, li_20, li_21, li_22, li_23, li_24, li_25, li_26, li_27, li_28, li_29, li_30, li_31, li_32, li_37, li_38, li_39, li_40, li_41, li_42, li_43, li_44, li_45, li_46, li_47, li_48, li_49, li_50, li_57, li_59, li_60, li_61, li_62, li_63, li_64, li_65, li_69, li_81, li_89, li_90, li_92, li_97, li_99, li_100, li_101, li_103, li_104, li_105, li_106, li_108, li_111, li_112, li_113, li_114, li_115, li_116, li_117, li_119, li_122, li_123, li_124, li_125, li_126, li_127, li_128, li_129, li_130, li_131, li_132, li_133, li_134, li_135, li_136, li_137, li_140, li_141, li_142, li_143, li_145, li_147, li_150, li_153, li_159, li_160, li_161, li_162, li_185, li_197, li_213, li_222, li_223, li_255, li_256, li_257, li_258, li_259, li_260, li_261, li_262, li_263, li_264, li_271, li_272, li_273, li_274, li_275, li_276, li_277, li_278, li_300, li_400, li_420, li_500, li_802, li_820, li_823, li_839, li_855, li_871, li_887, li_999, li_1000, li_1001, li_1002, li_1003, li_1004, li_1005, li_1006, li_1007, li_1008, li_1009, li_1010, li_1011, li_1012, li_1013, li_1014, li_1015, li_1016, li_1017, li_1018, li_1019, li_1020, li_1021, li_1022, li_1023, li_1707, li_4096, li_9999, li_65536, li_100000, li_1000000, li_1664525, li_100000000, li_252645135, li_858993459, li_1000000007, li_1013904223, li_1431655765, li_m1, nI_up]
      rw [hm, W0.h8.1, nz_or, nz_diff, nz_one (by omega), e_nearTo hN hm W0 pl (by decide), bd_s, e]
      refine wp_ite (fun q2 => ?_) (fun q2 => ?_) <;> rw [nz_bit0 (by omega) (by omega)] at q2
      · exact go (some s) (hbp.new hsb q2 hless)
      · exact go o (hbp.skip (fun z => q2 z.2))
    rw [hm, W0.h8.1, nz_or, nz_and]
    refine wp_ite (fun q2 => ?_) (fun q2 => ?_) <;> rw [nI_eq (by omega) (by decide), bet_iff W0 hlt] at q2
    · cases o with
      | none =>
        rw [if_pos (by rfl)]
        exact J112 q2 (fun b hb => by cases hb)
      | some b =>
        have hb := hbp.lt
        have l1 := pc_le s
        have l2 := pc_le b
        rw [if_neg (show ¬ oix (some b) = mo1 from nI_no1 (by omega)), e_count _ hN (by omega), bd_s]
        show Wp (bd (f_X12_count N (nI b) m') _) _
        rw [e_count _ hN (by omega), bd_s]
        refine wp_ite (fun q3 => ?_) (fun q3 => ?_) <;> rw [nI_ltI (by omega) (by omega)] at q3
        · exact J112 q2 (fun b' hb' => by
            have := Option.some.inj hb'
            subst this
            omega)
        · exact go (some b) (hbp.keep (by omega))
    · exact go o (hbp.skip (fun z => q2 z.1))
theorem pr_cuts {a b c : Int32} (hN : 20000 ≤ N) : Pr (f_X11_cuts N a b c) (f_X12_cuts N a b c) := by
  intro m hI
  obtain ⟨LN, H, G, -⟩ := id hI
  have lh := G.1.lzh
  have pp := pow_le31 lh
  unfold f_X11_cuts
  simp only [li_0, li_1, li_2, li_3, li_4, li_5, li_6, li_7, li_8, li_9, li_10, li_11, li_12, li_13, li_14, li_15, li_16, li_17, li_18, li_19, li_20, li_21, li_22, li_23, li_24, li_25, li_26, li_27, li_28, li_29, li_30, li_31, li_32, li_37, li_38, li_39, li_40, li_41, li_42, li_43, li_44, li_45, li_46, li_47, li_48, li_49, li_50, li_57, li_59, li_60, li_61, li_62, li_63, li_64, li_65, li_69, li_81, li_89, li_90, li_92, li_97, li_99, li_100, li_101, li_103, li_104, li_105, li_106, li_108, li_111, li_112, li_113, li_114, li_115, li_116, li_117, li_119, li_122, li_123, li_124, li_125, li_126, li_127, li_128, li_129, li_130, li_131, li_132, li_133, li_134, li_135, li_136, li_137, li_140, li_141, li_142, li_143, li_145, li_147, li_150, li_153, li_159, li_160, li_161, li_162, li_185, li_197, li_213, li_222, li_223, li_255, li_256, li_257, li_258, li_259, li_260, li_261, li_262, li_263, li_264, li_271, li_272, li_273, li_274, li_275, li_276, li_277, li_278, li_300, li_400, li_420, li_500, li_802, li_820, li_823, li_839, li_855, li_871, li_887, li_999, li_1000, li_1001, li_1002, li_1003, li_1004, li_1005, li_1006, li_1007, li_1008, li_1009, li_1010, li_1011, li_1012, li_1013, li_1014, li_1015, li_1016, li_1017, li_1018, li_1019, li_1020, li_1021, li_1022, li_1023, li_1707, li_4096, li_9999, li_65536, li_100000, li_1000000, li_1664525, li_100000000, li_252645135, li_858993459, li_1000000007, li_1013904223, li_1431655765, li_m1]
  rw [hr_hasH H G.1, bd_s]
  rcases inb_cases a (n := zh (m 124)) (by omega) with ⟨e, -⟩ | ⟨p, hp, rfl⟩
  · rw [e, if_pos (by decide)]
    refine wp_ret ?_
    unfold f_X12_cuts
    simp only [li_0, li_1, li_2, li_3, li_4, li_5, li_6, li_7, li_8, li_9, li_10, li_11, li_12, li_13, li_14, li_15, li_16, li_17, li_18, li_19, li_20, li_21, li_22, li_23, li_24, li_25, li_26, li_27, li_28, li_29, li_30, li_31, li_32, li_37, li_38, li_39, li_40, li_41, li_42, li_43, li_44, li_45, li_46, li_47, li_48, li_49, li_50, li_57, li_59, li_60, li_61, li_62, li_63, li_64, li_65, li_69, li_81, li_89, li_90, li_92, li_97, li_99, li_100, li_101, li_103, li_104, li_105, li_106, li_108, li_111, li_112, li_113, li_114, li_115, li_116, li_117, li_119, li_122, li_123, li_124, li_125, li_126, li_127, li_128, li_129, li_130, li_131, li_132, li_133, li_134, li_135, li_136, li_137, li_140, li_141, li_142, li_143, li_145, li_147, li_150, li_153, li_159, li_160, li_161, li_162, li_185, li_197, li_213, li_222, li_223, li_255, li_256, li_257, li_258, li_259, li_260, li_261, li_262, li_263, li_264, li_271, li_272, li_273, li_274, li_275, li_276, li_277, li_278, li_300, li_400, li_420, li_500, li_802, li_820, li_823, li_839, li_855, li_871, li_887, li_999, li_1000, li_1001, li_1002, li_1003, li_1004, li_1005, li_1006, li_1007, li_1008, li_1009, li_1010, li_1011, li_1012, li_1013, li_1014, li_1015, li_1016, li_1017, li_1018, li_1019, li_1020, li_1021, li_1022, li_1023, li_1707, li_4096, li_9999, li_65536, li_100000, li_1000000, li_1664525, li_100000000, li_252645135, li_858993459, li_1000000007, li_1013904223, li_1431655765, li_m1]
    rw [e_isHearer rfl G.1, e, bd_s, if_pos (by decide)]
    exact wp_ret ⟨rfl, hI⟩
  · rw [inb_nI hp (by omega), if_neg (by decide), hr_hasH H G.1, bd_s]
    rcases inb_cases b (n := zh (m 124)) (by omega) with ⟨e, -⟩ | ⟨q, hq, rfl⟩
    · rw [e, if_pos (by decide)]
      refine wp_ret ?_
      unfold f_X12_cuts
      simp only [li_0, li_1, li_2, li_3, li_4, li_5, li_6, li_7, li_8, li_9, li_10, li_11, li_12, li_13, li_14, li_15, li_16, li_17, li_18, li_19, li_20, li_21, li_22, li_23, li_24, li_25, li_26, li_27, li_28, li_29, li_30, li_31, li_32, li_37, li_38, li_39, li_40, li_41, li_42, li_43, li_44, li_45, li_46, li_47, li_48, li_49, li_50, li_57, li_59, li_60, li_61, li_62, li_63, li_64, li_65, li_69, li_81, li_89, li_90, li_92, li_97, li_99, li_100, li_101, li_103, li_104, li_105, li_106, li_108, li_111, li_112, li_113, li_114, li_115, li_116, li_117, li_119, li_122, li_123, li_124, li_125, li_126, li_127, li_128, li_129, li_130, li_131, li_132, li_133, li_134, li_135, li_136, li_137, li_140, li_141, li_142, li_143, li_145, li_147, li_150, li_153, li_159, li_160, li_161, li_162, li_185, li_197, li_213, li_222, li_223, li_255, li_256, li_257, li_258, li_259, li_260, li_261, li_262, li_263, li_264, li_271, li_272, li_273, li_274, li_275, li_276, li_277, li_278, li_300, li_400, li_420, li_500, li_802, li_820, li_823, li_839, li_855, li_871, li_887, li_999, li_1000, li_1001, li_1002, li_1003, li_1004, li_1005, li_1006, li_1007, li_1008, li_1009, li_1010, li_1011, li_1012, li_1013, li_1014, li_1015, li_1016, li_1017, li_1018, li_1019, li_1020, li_1021, li_1022, li_1023, li_1707, li_4096, li_9999, li_65536, li_100000, li_1000000, li_1664525, li_100000000, li_252645135, li_858993459, li_1000000007, li_1013904223, li_1431655765, li_m1]
      rw [e_isHearer rfl G.1, inb_nI hp (by omega), bd_s, if_neg (by decide), e_isHearer rfl G.1, e, bd_s, if_pos (by decide)]
      exact wp_ret ⟨rfl, hI⟩
    · rw [inb_nI hq (by omega), if_neg (by decide)]
      by_cases hpq : p = q
      · subst hpq
        rw [if_pos rfl]
        refine wp_ret ?_
        unfold f_X12_cuts
        simp only [li_0, li_1, li_2, li_3, li_4, li_5, li_6, li_7, li_8, li_9, li_10, li_11, li_12, li_13, li_14, li_15, li_16, li_17, li_18, li_19, li_20, li_21, li_22, li_23, li_24, li_25, li_26, li_27, li_28, li_29, li_30, li_31, li_32, li_37, li_38, li_39, li_40, li_41, li_42, li_43, li_44, li_45, li_46, li_47, li_48, li_49, li_50, li_57, li_59, li_60, li_61, li_62, li_63, li_64, li_65, li_69, li_81, li_89, li_90, li_92, li_97, li_99, li_100, li_101, li_103, li_104, li_105, li_106, li_108, li_111, li_112, li_113, li_114, li_115, li_116, li_117, li_119, li_122, li_123, li_124, li_125, li_126, li_127, li_128, li_129, li_130, li_131, li_132, li_133, li_134, li_135, li_136, li_137, li_140, li_141, li_142, li_143, li_145, li_147, li_150, li_153, li_159, li_160, li_161, li_162, li_185, li_197, li_213, li_222, li_223, li_255, li_256, li_257, li_258, li_259, li_260, li_261, li_262, li_263, li_264, li_271, li_272, li_273, li_274, li_275, li_276, li_277, li_278, li_300, li_400, li_420, li_500, li_802, li_820, li_823, li_839, li_855, li_871, li_887, li_999, li_1000, li_1001, li_1002, li_1003, li_1004, li_1005, li_1006, li_1007, li_1008, li_1009, li_1010, li_1011, li_1012, li_1013, li_1014, li_1015, li_1016, li_1017, li_1018, li_1019, li_1020, li_1021, li_1022, li_1023, li_1707, li_4096, li_9999, li_65536, li_100000, li_1000000, li_1664525, li_100000000, li_252645135, li_858993459, li_1000000007, li_1013904223, li_1431655765, li_m1]
        rw [e_isHearer rfl G.1, inb_nI hp (by omega), bd_s, if_neg (by decide), e_isHearer rfl G.1, inb_nI hp (by omega), bd_s, if_neg (by decide), if_pos trivial]
        exact wp_ret ⟨rfl, hI⟩
      · rw [if_neg (nI_ne hpq (by omega) (by omega)), e_within, bd_s]
        cases hq2 : decide (nI 0 ≤ c ∧ c ≤ nI 1) with
        | false =>
          rw [if_pos (by decide)]
          refine wp_ret ?_
          unfold f_X12_cuts
          simp only [li_0, li_1, li_2, li_3, li_4, li_5, li_6, li_7, li_8, li_9, li_10, li_11, li_12, li_13, li_14, li_15, li_16, li_17, li_18, li_19, li_20, li_21, li_22, li_23, li_24, li_25, li_26, li_27, li_28, li_29, li_30, li_31, li_32, li_37, li_38, li_39, li_40, li_41, li_42, li_43, li_44, li_45, li_46, li_47, li_48, li_49, li_50, li_57, li_59, li_60, li_61, li_62, li_63, li_64, li_65, li_69, li_81, li_89, li_90, li_92, li_97, li_99, li_100, li_101, li_103, li_104, li_105, li_106, li_108, li_111, li_112, li_113, li_114, li_115, li_116, li_117, li_119, li_122, li_123, li_124, li_125, li_126, li_127, li_128, li_129, li_130, li_131, li_132, li_133, li_134, li_135, li_136, li_137, li_140, li_141, li_142, li_143, li_145, li_147, li_150, li_153, li_159, li_160, li_161, li_162, li_185, li_197, li_213, li_222, li_223, li_255, li_256, li_257, li_258, li_259, li_260, li_261, li_262, li_263, li_264, li_271, li_272, li_273, li_274, li_275, li_276, li_277, li_278, li_300, li_400, li_420, li_500, li_802, li_820, li_823, li_839, li_855, li_871, li_887, li_999, li_1000, li_1001, li_1002, li_1003, li_1004, li_1005, li_1006, li_1007, li_1008, li_1009, li_1010, li_1011, li_1012, li_1013, li_1014, li_1015, li_1016, li_1017, li_1018, li_1019, li_1020, li_1021, li_1022, li_1023, li_1707, li_4096, li_9999, li_65536, li_100000, li_1000000, li_1664525, li_100000000, li_252645135, li_858993459, li_1000000007, li_1013904223, li_1431655765, li_m1]
          rw [e_isHearer rfl G.1, inb_nI hp (by omega), bd_s, if_neg (by decide), e_isHearer rfl G.1, inb_nI hq (by omega), bd_s, if_neg (by decide), if_neg (nI_ne hpq (by omega) (by omega)), e_isIn, bd_s, hq2, if_pos (by decide)]
          exact wp_ret ⟨rfl, hI⟩
        | true =>
          obtain ⟨ez, hz⟩ := hea_zn G.1 hp
          have hM : f_X12_cuts N (nI p) (nI q) c m = if ((nI (zn (m 124) p) >>> (nI q &&& nI 31)) &&& nI 1) = nI 1 then some (mo1, m) else it2 (f_X12_cuts_L65 N (nI p) (nI q) c (nI (twoS p q))) N mo1 (nI 0) m := by
            unfold f_X12_cuts
            simp only [li_0, li_1, li_2, li_3, li_4, li_5, li_6, li_7, li_8, li_9, li_10, li_11, li_12, li_13, li_14, li_15, li_16, li_17, li_18, li_19, li_20, li_21, li_22, li_23, li_24, li_25, li_26, li_27, li_28, li_29, li_30, li_31, li_32, li_37, li_38, li_39, li_40, li_41, li_42, li_43, li_44, li_45, li_46, li_47, li_48, li_49, li_50, li_57, li_59, li_60, li_61, li_62, li_63, li_64, li_65, li_69, li_81, li_89, li_90, li_92, li_97, li_99, li_100, li_101, li_103, li_104, li_105, li_106, li_108, li_111, li_112, li_113, li_114, li_115, li_116, li_117, li_119, li_122, li_123, li_124, li_125, li_126, li_127, li_128, li_129, li_130, li_131, li_132, li_133, li_134, li_135, li_136, li_137, li_140, li_141, li_142, li_143, li_145, li_147, li_150, li_153, li_159, li_160, li_161, li_162, li_185, li_197, li_213, li_222, li_223, li_255, li_256, li_257, li_258, li_259, li_260, li_261, li_262, li_263, li_264, li_271, li_272, li_273, li_274, li_275, li_276, li_277, li_278, li_300, li_400, li_420, li_500, li_802, li_820, li_823, li_839, li_855, li_871, li_887, li_999, li_1000, li_1001, li_1002, li_1003, li_1004, li_1005, li_1006, li_1007, li_1008, li_1009, li_1010, li_1011, li_1012, li_1013, li_1014, li_1015, li_1016, li_1017, li_1018, li_1019, li_1020, li_1021, li_1022, li_1023, li_1707, li_4096, li_9999, li_65536, li_100000, li_1000000, li_1664525, li_100000000, li_252645135, li_858993459, li_1000000007, li_1013904223, li_1431655765, li_m1, nI_add]
            rw [e_isHearer rfl G.1, inb_nI hp (by omega), bd_s, if_neg (by decide), e_isHearer rfl G.1, inb_nI hq (by omega), bd_s, if_neg (by decide), if_neg (nI_ne hpq (by omega) (by omega)), e_isIn, bd_s, hq2, if_neg (by decide), inb_nI (by omega) (by omega), chk_t, nI_clamp (by omega), ez, nz_one (by omega), nz_one (by omega), nz_or]
            rfl
          rw [if_neg (by decide), hr_hea H G.1 hp (by decide), bd_s, show heaV (m 124) p 6 = m 124 (185 + p) from rfl, ez, e_isInX m (by omega) (by omega), bd_s]
          cases hb : (zn (m 124) p).testBit q with
          | true =>
            rw [if_neg (by decide)]
            rw [if_pos ((nz_bit (by omega) (by omega)).mpr hb)] at hM
            refine wp_ret ?_
            rw [hM]
            exact wp_ret ⟨rfl, hI⟩
          | false =>
            rw [if_pos (by decide)]
            rw [if_neg (fun z => by rw [(nz_bit (by omega) (by omega)).mp z] at hb; cases hb)] at hM
            refine wp_bind (w_between hN H G.1 hp hq) ?_
            rintro v m1 ⟨rfl, hv⟩
            obtain ⟨u, m2, eu, rfl, s, hs, hbs, hu⟩ := w_cutsM (a3 := c) hN rfl G.1 hp hq hpq hb
            rw [eu] at hM
            have := hv.uni hbs
            subst this
            unfold f_X11_numberOrSet
            simp only [li_0, li_1, li_2, li_3, li_4, li_5, li_6, li_7, li_8, li_9, li_10, li_11, li_12, li_13, li_14, li_15, li_16, li_17, li_18, li_19, li_20, li_21, li_22, li_23, li_24, li_25, li_26, li_27, li_28, li_29, li_30, li_31, li_32, li_37, li_38, li_39, li_40, li_41, li_42, li_43, li_44, li_45, li_46, li_47, li_48, li_49, li_50, li_57, li_59, li_60, li_61, li_62, li_63, li_64, li_65, li_69, li_81, li_89, li_90, li_92, li_97, li_99, li_100, li_101, li_103, li_104, li_105, li_106, li_108, li_111, li_112, li_113, li_114, li_115, li_116, li_117, li_119, li_122, li_123, li_124, li_125, li_126, li_127, li_128, li_129, li_130, li_131, li_132, li_133, li_134, li_135, li_136, li_137, li_140, li_141, li_142, li_143, li_145, li_147, li_150, li_153, li_159, li_160, li_161, li_162, li_185, li_197, li_213, li_222, li_223, li_255, li_256, li_257, li_258, li_259, li_260, li_261, li_262, li_263, li_264, li_271, li_272, li_273, li_274, li_275, li_276, li_277, li_278, li_300, li_400, li_420, li_500, li_802, li_820, li_823, li_839, li_855, li_871, li_887, li_999, li_1000, li_1001, li_1002, li_1003, li_1004, li_1005, li_1006, li_1007, li_1008, li_1009, li_1010, li_1011, li_1012, li_1013, li_1014, li_1015, li_1016, li_1017, li_1018, li_1019, li_1020, li_1021, li_1022, li_1023, li_1707, li_4096, li_9999, li_65536, li_100000, li_1000000, li_1664525, li_100000000, li_252645135, li_858993459, li_1000000007, li_1013904223, li_1431655765, li_m1]
            rw [if_neg (nI_no1 (by omega))]
            have hcc : c = nI 0 ∨ c = nI 1 := by
              obtain ⟨k, -, hk, rfl⟩ := rng_of (by decide) (by decide) hq2
              rcases (show k = 0 ∨ k = 1 by omega) with rfl | rfl
              · exact Or.inl rfl
              · exact Or.inr rfl
            rcases hcc with rfl | rfl
            · rw [if_neg (by decide), e_bitCount _ (by omega), bd_s, bd_s]
              refine wp_ret ?_
              rw [hM]
              exact wp_ret ⟨by rw [hu, if_pos rfl], hI⟩
            · rw [if_pos rfl, bd_s]
              refine wp_ret ?_
              rw [hM]
              exact wp_ret ⟨by rw [hu, if_neg (by decide)], hI⟩
end CUTS
