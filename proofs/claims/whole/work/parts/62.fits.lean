/-! fits: which could have been paid -/
section FITS
variable {w w' v0 : Arr} {LN : List Lin} {m m' m2 : Mem} {N d n j i : Nat}
def ftN (w : Arr) (S : Nat) : Nat → Bool
  | 0 => true
  | i + 1 => ftN w S i && decide (nI (pc (S &&& nv (w (197 + 2 * i)))) = w (197 + 2 * i + 1))
theorem ftN_no {S i k : Nat} (h : ftN w S i = false) (hk : i ≤ k) : ftN w S k = false := by
  induction k with
  | zero => rw [show i = 0 by omega] at h; exact h
  | succ k ih =>
    by_cases e : i = k + 1
    · rw [← e]; exact h
    · unfold ftN
      rw [ih (by omega), Bool.false_and]
def ft (w : Arr) (S : Nat) : Bool := ftN w S (zq w)
theorem cla_n (W0 : WFc w) {i : Nat} (hi : i < zq w) : w (197 + 2 * i) = nI (nv (w (197 + 2 * i))) ∧ nv (w (197 + 2 * i)) < 2 ^ zh w ∧ isn (w (197 + 2 * i + 1)) 12 := by
  have p := pow_le31 W0.lzh
  have p0 := pow_pos' (zh w)
  obtain ⟨h1, h2⟩ := W0.cla hi
  have l := h1.le (by omega)
  exact ⟨h1.eq (by omega), by omega, h2⟩
theorem e_couldC {S : Nat} (hN : 20000 ≤ N) (H : HRep 2 LN w m) (W0 : WFc w) (hS : S < 2 ^ zh w) : f_X11_couldBePaid N (nI S) m = some (b2i (ft w S), m) := by
  have lq := W0.lzq
  have p := pow_le31 W0.lzh
  refine Wp.toEq ?_
  unfold f_X11_couldBePaid
  refine wp_it1 (fun q x m' => ∃ i, i ≤ zq w ∧ q = zq w - i ∧ x = nI i ∧ m' = m ∧ ftN w S i = true) ?_ N (zq w) _ _ (by omega) ⟨0, by omega, rfl, rfl, rfl, rfl⟩
  rintro q X x m' ⟨i, hi, rfl, rfl, rfl, hf⟩ hX
  unfold f_X11_couldBePaid_L2
  simp only [li_0, li_1, li_2, li_3, li_4, li_5, li_6, li_7, li_8, li_9, li_10, li_11, li_12, li_13, li_14, li_15, li_16, li_17, li_18, li_19, li_20, li_21, li_22, li_23, li_24, li_25, li_26, li_27, li_28, li_29, li_30, li_31, li_32, li_37, li_38, li_39, li_40, li_41, li_42, li_43, li_44, li_45, li_46, li_47, li_48, li_49, li_50, li_57, li_59, li_60, li_61, li_62, li_63, li_64, li_65, li_69, li_81, li_89, li_90, li_92, li_97, li_99, li_100, li_101, li_103, li_104, li_105, li_106, li_108, li_111, li_112, li_113, li_114, li_115, li_116, li_117, li_119, li_122, li_123, li_124, li_125, li_126, li_127, li_128, li_129, li_130, li_131, li_132, li_133, li_134, li_135, li_136, li_137, li_140, li_141, li_142, li_143, li_145, li_147, li_150, li_153, li_159, li_160, li_161, li_162, li_185, li_197, li_213, li_222, li_223, li_255, li_256, li_257, li_258, li_259, li_260, li_261, li_262, li_263, li_264, li_271, li_272, li_273, li_274, li_275, li_276, li_277, li_278, li_300, li_400, li_420, li_500, li_802, li_820, li_823, li_839, li_855, li_871, li_887, li_999, li_1000, li_1001, li_1002, li_1003, li_1004, li_1005, li_1006, li_1007, li_1008, li_1009, li_1010, li_1011, li_1012, li_1013, li_1014, li_1015, li_1016, li_1017, li_1018, li_1019, li_1020, li_1021, li_1022, li_1023, li_1707, li_4096, li_9999, li_65536, li_100000, li_1000000, li_1664525, li_100000000, li_252645135, li_858993459, li_1000000007, li_1013904223, li_1431655765, li_m1, nI_up]
  rw [H.cla.1, W0.h44]
  refine wp_ite (fun q => ?_) (fun q => ?_) <;> rw [nI_leI (by omega) (by omega)] at q
  · have : i = zq w := by omega
    subst this
    exact wp_ret ⟨by unfold ft; rw [hf]; rfl, rfl⟩
  · obtain ⟨e1, l1, h2⟩ := cla_n W0 (show i < zq w by omega)
    have c0 := H.cla.2 i (by omega) 0 (by decide)
    have c1 := H.cla.2 i (by omega) 1 (by decide)
    have la := and_lt (b := nv (w (197 + 2 * i))) hS
    have hn : ftN w S (i + 1) = (ftN w S i && decide (nI (pc (S &&& nv (w (197 + 2 * i)))) = w (197 + 2 * i + 1))) := rfl
    rw [e_at H.fx (show (21, 8, 2) ∈ tbs by decide) (H.cla.1.trans W0.h44) lq (show i < zq w by omega) (show 0 < 2 by decide), bd_s]
    rw [show m' (21 + 1) (i * 2 + 0) = w (197 + 2 * i) from c0, e1, nz_and, e_bitCount _ (by omega), bd_s, e_at H.fx (show (21, 8, 2) ∈ tbs by decide) (H.cla.1.trans W0.h44) lq (show i < zq w by omega) (show 1 < 2 by decide), bd_s, show m' (21 + 1) (i * 2 + 1) = w (197 + 2 * i + 1) from c1]
    refine wp_ite (fun q2 => ?_) (fun q2 => ?_)
    · exact hX (zq w - (i + 1)) _ _ (by omega) ⟨i + 1, by omega, rfl, rfl, rfl, by rw [hn, hf, decide_eq_true q2]; rfl⟩
    · refine wp_ret ⟨?_, rfl⟩
      unfold ft
      rw [ftN_no (i := i + 1) (by rw [hn, decide_eq_false q2, Bool.and_false]) (by omega)]
      rfl
theorem e_couldM {S : Nat} (hN : 20000 ≤ N) (hm : m 124 = w) (W0 : WFc w) (hS : S < 2 ^ zh w) : f_X12_couldBe N (nI S) m = some (b2i (ft w S), m) := by
  have lq := W0.lzq
  have p := pow_le31 W0.lzh
  refine Wp.toEq ?_
  unfold f_X12_couldBe
  refine wp_it1 (fun q x m' => ∃ i, i ≤ zq w ∧ q = zq w - i ∧ x = nI i ∧ m' = m ∧ ftN w S i = true) ?_ N (zq w) _ _ (by omega) ⟨0, by omega, rfl, rfl, rfl, rfl⟩
  rintro q X x m' ⟨i, hi, rfl, rfl, rfl, hf⟩ hX
  unfold f_X12_couldBe_L2
  simp only [li_0, li_1, li_2, li_3, li_4, li_5, li_6, li_7, li_8, li_9, li_10, li_11, li_12, li_13, li_14, li_15, li_16, li_17, li_18, li_19, li_20, li_21, li_22, li_23, li_24, li_25, li_26, li_27, li_28, li_29, li_30, li_31, li_32, li_37, li_38, li_39, li_40, li_41, li_42, li_43, li_44, li_45, li_46, li_47, li_48, li_49, li_50, li_57, li_59, li_60, li_61, li_62, li_63, li_64, li_65, li_69, li_81, li_89, li_90, li_92, li_97, li_99, li_100, li_101, li_103, li_104, li_105, li_106, li_108, li_111, li_112, li_113, li_114, li_115, li_116, li_117, li_119, li_122, li_123, li_124, li_125, li_126, li_127, li_128, li_129, li_130, li_131, li_132, li_133, li_134, li_135, li_136, li_137, li_140, li_141, li_142, li_143, li_145, li_147, li_150, li_153, li_159, li_160, li_161, li_162, li_185, li_197, li_213, li_222, li_223, li_255, li_256, li_257, li_258, li_259, li_260, li_261, li_262, li_263, li_264, li_271, li_272, li_273, li_274, li_275, li_276, li_277, li_278, li_300, li_400, li_420, li_500, li_802, li_820, li_823, li_839, li_855, li_871, li_887, li_999, li_1000, li_1001, li_1002, li_1003, li_1004, li_1005, li_1006, li_1007, li_1008, li_1009, li_1010, li_1011, li_1012, li_1013, li_1014, li_1015, li_1016, li_1017, li_1018, li_1019, li_1020, li_1021, li_1022, li_1023, li_1707, li_4096, li_9999, li_65536, li_100000, li_1000000, li_1664525, li_100000000, li_252645135, li_858993459, li_1000000007, li_1013904223, li_1431655765, li_m1, nI_up, pk_mul, nI_add]
  rw [hm, W0.h44]
  refine wp_ite (fun q => ?_) (fun q => ?_) <;> rw [nI_leI (by omega) (by omega)] at q
  · have : i = zq w := by omega
    subst this
    exact wp_ret ⟨by unfold ft; rw [hf]; rfl, rfl⟩
  · obtain ⟨e1, l1, h2⟩ := cla_n W0 (show i < zq w by omega)
    have la := and_lt (b := nv (w (197 + 2 * i))) hS
    have hn : ftN w S (i + 1) = (ftN w S i && decide (nI (pc (S &&& nv (w (197 + 2 * i)))) = w (197 + 2 * i + 1))) := rfl
    rw [inb_nI (by omega) (by omega), chk_t, nI_clamp (by omega), e1, nz_and, e_count _ hN (by omega), bd_s, inb_nI (by omega) (by omega), chk_t, nI_clamp (by omega), hm]
    refine wp_ite (fun q2 => ?_) (fun q2 => ?_)
    · exact hX (zq w - (i + 1)) _ _ (by omega) ⟨i + 1, by omega, rfl, rfl, rfl, by rw [hn, hf, decide_eq_true q2]; rfl⟩
    · refine wp_ret ⟨?_, rfl⟩
      unfold ft
      rw [ftN_no (i := i + 1) (by rw [hn, decide_eq_false q2, Bool.and_false]) (by omega)]
      rfl
def cnF (w : Arr) : Nat → Nat
  | 0 => 0
  | s + 1 => cnF w s + if ft w s = true then 1 else 0
def cbF (w : Arr) (h : Nat) : Nat → Nat
  | 0 => 0
  | s + 1 => cbF w h s + if ft w s = true ∧ s.testBit h = true then 1 else 0
theorem cb_le {h : Nat} : ∀ s, cbF w h s ≤ cnF w s ∧ cnF w s ≤ s
  | 0 => ⟨Nat.le_refl _, Nat.le_refl _⟩
  | s + 1 => by
    have := cb_le (h := h) s
    unfold cbF cnF
    by_cases q : ft w s = true
    · rw [if_pos q]
      split <;> omega
    · rw [if_neg q, if_neg (fun z => q z.1)]
      omega
theorem cb_has {f h : Nat} (hf : ft w f = true) : ∀ s, f < s → (f.testBit h = true → 1 ≤ cbF w h s) ∧ (f.testBit h = false → cbF w h s + 1 ≤ cnF w s)
  | 0, hs => absurd hs (by omega)
  | s + 1, hs => by
    have l := cb_le (w := w) (h := h) s
    by_cases e : f = s
    · subst e
      unfold cbF cnF
      rw [if_pos hf]
      constructor
      · intro hb
        rw [if_pos ⟨hf, hb⟩]
        omega
      · intro hb
        rw [if_neg (fun z => by rw [z.2] at hb; cases hb)]
        omega
    · have ih := cb_has (h := h) hf s (by omega)
      unfold cbF cnF
      by_cases q : ft w s = true
      · rw [if_pos q]
        constructor
        · intro hb
          have := ih.1 hb
          split <;> omega
        · intro hb
          have := ih.2 hb
          split <;> omega
      · rw [if_neg q, if_neg (fun z => q z.1)]
        exact ⟨fun hb => by have := ih.1 hb; omega, fun hb => by have := ih.2 hb; omega⟩
theorem cn_1 : ∀ s, 1 ≤ cnF w s → ∃ f, f < s ∧ ft w f = true
  | 0, h => absurd h (by show ¬ 1 ≤ 0; decide)
  | s + 1, h => by
    by_cases q : ft w s = true
    · exact ⟨s, by omega, q⟩
    · unfold cnF at h
      rw [if_neg q] at h
      obtain ⟨f, h1, h2⟩ := cn_1 s h
      exact ⟨f, by omega, h2⟩
theorem cn_2 : ∀ s, 2 ≤ cnF w s → ∃ f g, f < g ∧ g < s ∧ ft w f = true ∧ ft w g = true
  | 0, h => absurd h (by show ¬ 2 ≤ 0; decide)
  | s + 1, h => by
    by_cases q : ft w s = true
    · unfold cnF at h
      rw [if_pos q] at h
      obtain ⟨f, h1, h2⟩ := cn_1 (w := w) s (by omega)
      exact ⟨f, s, h1, by omega, h2, q⟩
    · unfold cnF at h
      rw [if_neg q] at h
      obtain ⟨f, g, h1, h2, h3, h4⟩ := cn_2 s h
      exact ⟨f, g, h1, by omega, h3, h4⟩
/-- with two that fit, some hearer is in one and not in the other -/
theorem cn_mid {n s : Nat} (hs : s ≤ 2 ^ n) (h : 2 ≤ cnF w s) : ∃ k, k < n ∧ 1 ≤ cbF w k s ∧ cbF w k s + 1 ≤ cnF w s := by
  obtain ⟨f, g, h1, h2, h3, h4⟩ := cn_2 s h
  have hex : ∃ k, f.testBit k ≠ g.testBit k := Classical.byContradiction fun z => by
    have : f = g := Nat.eq_of_testBit_eq (fun i => Classical.byContradiction fun y => z ⟨i, y⟩)
    omega
  obtain ⟨k, hk⟩ := hex
  have hkn : k < n := by
    cases hb : f.testBit k with
    | true => exact bit_lt (show f < 2 ^ n by omega) hb
    | false =>
      cases hb2 : g.testBit k with
      | true => exact bit_lt (show g < 2 ^ n by omega) hb2
      | false => rw [hb, hb2] at hk; exact absurd rfl hk
  have cf := cb_has (h := k) h3 s (by omega)
  have cg := cb_has (h := k) h4 s h2
  refine ⟨k, hkn, ?_⟩
  cases hb : f.testBit k with
  | true =>
    cases hb2 : g.testBit k with
    | true => rw [hb, hb2] at hk; exact absurd rfl hk
    | false => exact ⟨cf.1 hb, cg.2 hb2⟩
  | false =>
    cases hb2 : g.testBit k with
    | true => exact ⟨cg.1 hb2, cf.2 hb⟩
    | false => rw [hb, hb2] at hk; exact absurd rfl hk
end FITS
