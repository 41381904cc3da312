/-! share -/
section SHARE
variable {w w' v0 : Arr} {LN : List Lin} {m m' m2 : Mem} {N d n j i a2 A : Nat}
def wt (w : Arr) (h : Nat) : Nat := if (zt w).testBit h = true then nv (w (57 + h)) + 1 else 0
def wS (w : Arr) : Nat → Nat
  | 0 => 0
  | n + 1 => wS w n + wt w n
theorem wt_ok (W0 : WFc w) {h : Nat} (hh : h < zh w) : wt w h ≤ 10 ∧ ((zt w).testBit h = true → w (57 + h) + nI 1 = nI (wt w h) ∧ 1 ≤ wt w h) := by
  have h1 := (W0.hea hh).2.1
  have l := h1.le (by decide)
  have e := h1.eq (by decide)
  unfold wt
  refine ⟨by split <;> omega, fun hb => ?_⟩
  rw [if_pos hb, e, nI_add, nv_nI (by omega)]
  exact ⟨rfl, by omega⟩
theorem e_weightC {h : Nat} (H : HRep 2 LN w m) (W0 : WFc w) (hh : h < zh w) : f_X11_weight N (nI h) m = some (nI (wt w h), m) := by
  unfold f_X11_weight
  simp only [li_0, li_1, li_2, li_3, li_4, li_5, li_6, li_7, li_8, li_9, li_10, li_11, li_12, li_13, li_14, li_15, li_16, li_17, li_18, li_19, li_20, li_21, li_22, li_23, li_24, li_25, li_26, li_27, li_28, li_29, li_30, li_31, li_32, li_37, li_38, li_39, li_40, li_41, li_42, li_43, li_44, li_45, li_46, li_47, li_48, li_49, li_50, li_57, li_59, li_60, li_61, li_62, li_63, li_64, li_65, li_69, li_81, li_89, li_90, li_92, li_97, li_99, li_100, li_101, li_103, li_104, li_105, li_106, li_108, li_111, li_112, li_113, li_114, li_115, li_116, li_117, li_119, li_122, li_123, li_124, li_125, li_126, li_127, li_128, li_129, li_130, li_131, li_132, li_133, li_134, li_135, li_136, li_137, li_140, li_141, li_142, li_143, li_145, li_147, li_150, li_153, li_159, li_160, li_161, li_162, li_185, li_197, li_213, li_222, li_223, li_255, li_256, li_257, li_258, li_259, li_260, li_261, li_262, li_263, li_264, li_271, li_272, li_273, li_274, li_275, li_276, li_277, li_278, li_300, li_400, li_420, li_500, li_802, li_820, li_823, li_839, li_855, li_871, li_887, li_999, li_1000, li_1001, li_1002, li_1003, li_1004, li_1005, li_1006, li_1007, li_1008, li_1009, li_1010, li_1011, li_1012, li_1013, li_1014, li_1015, li_1016, li_1017, li_1018, li_1019, li_1020, li_1021, li_1022, li_1023, li_1707, li_4096, li_9999, li_65536, li_100000, li_1000000, li_1664525, li_100000000, li_252645135, li_858993459, li_1000000007, li_1013904223, li_1431655765, li_m1]
  rw [hr_hea H W0 hh (by decide), bd_s, show heaV w h 3 = b2i ((zt w).testBit h) from rfl]
  cases hb : (zt w).testBit h with
  | false =>
    rw [if_neg (by decide)]
    unfold wt
    rw [hb, if_neg (by decide)]
  | true =>
    rw [if_pos (by rfl), hr_hea H W0 hh (by decide), bd_s, show heaV w h 1 = w (57 + h) from rfl, ((wt_ok W0 hh).2 hb).1]
theorem e_weightM {h : Nat} (hm : m 124 = w) (W0 : WFc w) (hh : h < zh w) : f_X12_weightOf N (nI h) m = some (nI (wt w h), m) := by
  have lh := W0.lzh
  unfold f_X12_weightOf
  simp only [li_0, li_1, li_2, li_3, li_4, li_5, li_6, li_7, li_8, li_9, li_10, li_11, li_12, li_13, li_14, li_15, li_16, li_17, li_18, li_19, li_20, li_21, li_22, li_23, li_24, li_25, li_26, li_27, li_28, li_29, li_30, li_31, li_32, li_37, li_38, li_39, li_40, li_41, li_42, li_43, li_44, li_45, li_46, li_47, li_48, li_49, li_50, li_57, li_59, li_60, li_61, li_62, li_63, li_64, li_65, li_69, li_81, li_89, li_90, li_92, li_97, li_99, li_100, li_101, li_103, li_104, li_105, li_106, li_108, li_111, li_112, li_113, li_114, li_115, li_116, li_117, li_119, li_122, li_123, li_124, li_125, li_126, li_127, li_128, li_129, li_130, li_131, li_132, li_133, li_134, li_135, li_136, li_137, li_140, li_141, li_142, li_143, li_145, li_147, li_150, li_153, li_159, li_160, li_161, li_162, li_185, li_197, li_213, li_222, li_223, li_255, li_256, li_257, li_258, li_259, li_260, li_261, li_262, li_263, li_264, li_271, li_272, li_273, li_274, li_275, li_276, li_277, li_278, li_300, li_400, li_420, li_500, li_802, li_820, li_823, li_839, li_855, li_871, li_887, li_999, li_1000, li_1001, li_1002, li_1003, li_1004, li_1005, li_1006, li_1007, li_1008, li_1009, li_1010, li_1011, li_1012, li_1013, li_1014, li_1015, li_1016, li_1017, li_1018, li_1019, li_1020, li_1021, li_1022, li_1023, li_1707, li_4096, li_9999, li_65536, li_100000, li_1000000, li_1664525, li_100000000, li_252645135, li_858993459, li_1000000007, li_1013904223, li_1431655765, li_m1, nI_add]
  rw [e_there hm W0 (by omega), bd_s]
  cases hb : (zt w).testBit h with
  | false =>
    rw [if_pos (by decide)]
    unfold wt
    rw [hb, if_neg (by decide)]
  | true =>
    rw [if_neg (by decide), inb_nI (by omega) (by omega), chk_t, nI_clamp (by omega), hm, ((wt_ok W0 hh).2 hb).1]
theorem wS_le (W0 : WFc w) : ∀ n, n ≤ zh w → wS w n ≤ 10 * n
  | 0, _ => Nat.le_refl _
  | n + 1, hn => by
    have h1 := wS_le W0 n (by omega)
    have h2 := (wt_ok W0 (show n < zh w by omega)).1
    unfold wS
    omega
theorem wS_pos (W0 : WFc w) (hz : zt w ≠ 0) : 1 ≤ wS w (zh w) := by
  have key : ∀ n, n ≤ zh w → (∃ h, h < n ∧ (zt w).testBit h = true) → 1 ≤ wS w n := by
    intro n
    induction n with
    | zero => rintro _ ⟨h, hh, -⟩; omega
    | succ n ih =>
      rintro hn ⟨h, hh, hb⟩
      unfold wS
      by_cases e : h = n
      · subst e
        have := ((wt_ok W0 (show h < zh w by omega)).2 hb).2
        omega
      · have := ih (by omega) ⟨h, by omega, hb⟩
        omega
  refine key _ (Nat.le_refl _) (Classical.byContradiction fun z => hz (bit_0 W0.h7.2 (fun i hi => ?_)))
  cases hb : (zt w).testBit i with
  | false => rfl
  | true => exact absurd ⟨i, hi, hb⟩ z
theorem wS_0 (hz : zt w = 0) : ∀ n, wS w n = 0
  | 0 => rfl
  | n + 1 => by
    unfold wS wt
    rw [wS_0 hz n, hz, Nat.zero_testBit, if_neg (by decide)]
theorem e_allC (hN : 20000 ≤ N) (H : HRep 2 LN w m) (W0 : WFc w) : f_X11_weightOfAll N m = some (nI (wS w (zh w)), m) := by
  have lh := W0.lzh
  refine Wp.toEq ?_
  unfold f_X11_weightOfAll
  refine wp_it2 (fun n a c m' => ∃ i, i ≤ zh w ∧ n = zh w - i ∧ a = nI (wS w i) ∧ c = nI i ∧ m' = m) ?_ N (zh w) _ _ _ (by omega) ⟨0, by omega, rfl, rfl, rfl, rfl⟩
  rintro n X a c m' ⟨i, hi, rfl, rfl, rfl, rfl⟩ hX
  unfold f_X11_weightOfAll_L4
  simp only [li_0, li_1, li_2, li_3, li_4, li_5, li_6, li_7, li_8, li_9, li_10, li_11, li_12, li_13, li_14, li_15, li_16, li_17, li_18, li_19, li_20, li_21, li_22, li_23, li_24, li_25, li_26, li_27, li_28, li_29, li_30, li_31, li_32, li_37, li_38, li_39, li_40, li_41, li_42, li_43, li_44, li_45, li_46, li_47, li_48, li_49, li_50, li_57, li_59, li_60, li_61, li_62, li_63, li_64, li_65, li_69, li_81, li_89, li_90, li_92, li_97, li_99, li_100, li_101, li_103, li_104, li_105, li_106, li_108, li_111, li_112, li_113, li_114, li_115, li_116, li_117, li_119, li_122, li_123, li_124, li_125, li_126, li_127, li_128, li_129, li_130, li_131, li_132, li_133, li_134, li_135, li_136, li_137, li_140, li_141, li_142, li_143, li_145, li_147, li_150, li_153, li_159, li_160, li_161, li_162, li_185, li_197, li_213, li_222, li_223, li_255, li_256, li_257, li_258, li_259, li_260, li_261, li_262, li_263, li_264, li_271, li_272, li_273, li_274, li_275, li_276, li_277, li_278, li_300, li_400, li_420, li_500, li_802, li_820, li_823, li_839, li_855, li_871, li_887, li_999, li_1000, li_1001, li_1002, li_1003, li_1004, li_1005, li_1006, li_1007, li_1008, li_1009, li_1010, li_1011, li_1012, li_1013, li_1014, li_1015, li_1016, li_1017, li_1018, li_1019, li_1020, li_1021, li_1022, li_1023, li_1707, li_4096, li_9999, li_65536, li_100000, li_1000000, li_1664525, li_100000000, li_252645135, li_858993459, li_1000000007, li_1013904223, li_1431655765, li_m1, nI_up]
  rw [H.hea.1, W0.h37]
  refine wp_ite (fun q => ?_) (fun q => ?_) <;> rw [nI_leI (by omega) (by omega)] at q
  · have : i = zh w := by omega
    subst this
    exact wp_ret ⟨rfl, rfl⟩
  · rw [e_weightC H W0 (by omega), bd_s, nI_add, bnd_s]
    exact hX (zh w - (i + 1)) _ _ _ (by omega) ⟨i + 1, by omega, rfl, rfl, rfl, rfl⟩
theorem e_allM (hN : 20000 ≤ N) (hm : m 124 = w) (W0 : WFc w) : f_X12_allWeights N m = some (nI (wS w (zh w)), m) := by
  have lh := W0.lzh
  refine Wp.toEq ?_
  unfold f_X12_allWeights
  refine wp_it2 (fun n a c m' => ∃ i, i ≤ zh w ∧ n = zh w - i ∧ a = nI (wS w i) ∧ c = nI i ∧ m' = m) ?_ N (zh w) _ _ _ (by omega) ⟨0, by omega, rfl, rfl, rfl, rfl⟩
  rintro n X a c m' ⟨i, hi, rfl, rfl, rfl, rfl⟩ hX
  unfold f_X12_allWeights_L4
  simp only [li_0, li_1, li_2, li_3, li_4, li_5, li_6, li_7, li_8, li_9, li_10, li_11, li_12, li_13, li_14, li_15, li_16, li_17, li_18, li_19, li_20, li_21, li_22, li_23, li_24, li_25, li_26, li_27, li_28, li_29, li_30, li_31, li_32, li_37, li_38, li_39, li_40, li_41, li_42, li_43, li_44, li_45, li_46, li_47, li_48, li_49, li_50, li_57, li_59, li_60, li_61, li_62, li_63, li_64, li_65, li_69, li_81, li_89, li_90, li_92, li_97, li_99, li_100, li_101, li_103, li_104, li_105, li_106, li_108, li_111, li_112, li_113, li_114, li_115, li_116, li_117, li_119, li_122, li_123, li_124, li_125, li_126, li_127, li_128, li_129, li_130, li_131, li_132, li_133, li_134, li_135, li_136, li_137, li_140, li_141, li_142, li_143, li_145, li_147, li_150, li_153, li_159, li_160, li_161, li_162, li_185, li_197, li_213, li_222, li_223, li_255, li_256, li_257, li_258, li_259, li_260, li_261, li_262, li_263, li_264, li_271, li_272, li_273, li_274, li_275, li_276, li_277, li_278, li_300, li_400, li_420, li_500, li_802, li_820, li_823, li_839, li_855, li_871, li_887, li_999, li_1000, li_1001, li_1002, li_1003, li_1004, li_1005, li_1006, li_1007, li_1008, li_1009, li_1010, li_1011, li_1012, li_1013, li_1014, li_1015, li_1016, li_1017, li_1018, li_1019, li_1020, li_1021, li_1022, li_1023, li_1707, li_4096, li_9999, li_65536, li_100000, li_1000000, li_1664525, li_100000000, li_252645135, li_858993459, li_1000000007, li_1013904223, li_1431655765, li_m1, nI_up]
  rw [hm, W0.h37]
  refine wp_ite (fun q => ?_) (fun q => ?_) <;> rw [nI_leI (by omega) (by omega)] at q
  · have : i = zh w := by omega
    subst this
    exact wp_ret ⟨rfl, rfl⟩
  · rw [e_weightM hm W0 (by omega), bd_s, nI_add, bnd_s]
    exact hX (zh w - (i + 1)) _ _ _ (by omega) ⟨i + 1, by omega, rfl, rfl, rfl, rfl⟩
def shq (w : Arr) (A h : Nat) : Nat := A * wt w h / wS w (zh w)
def shr' (w : Arr) (A h : Nat) : Nat := A * wt w h % wS w (zh w)
def qS (w : Arr) (A : Nat) : Nat → Nat
  | 0 => 0
  | n + 1 => qS w A n + shq w A n
def rS (w : Arr) (A : Nat) : Nat → Nat
  | 0 => 0
  | n + 1 => rS w A n + shr' w A n
def pS (w : Arr) (A : Nat) : Nat → Nat
  | 0 => 0
  | n + 1 => pS w A n + if shr' w A n = 0 then 0 else 1
/-- h comes before a2 -/
def bef (w : Arr) (A a2 h : Nat) : Bool := decide (shr' w A a2 < shr' w A h) || (decide (shr' w A h = shr' w A a2) && decide (h < a2))
theorem bef_iff {h : Nat} : bef w A a2 h = true ↔ shr' w A a2 < shr' w A h ∨ (shr' w A h = shr' w A a2 ∧ h < a2) := by
  unfold bef
  rw [Bool.or_eq_true, Bool.and_eq_true, decide_eq_true_eq, decide_eq_true_eq, decide_eq_true_eq]
def cS (w : Arr) (A a2 : Nat) : Nat → Nat
  | 0 => 0
  | n + 1 => cS w A a2 n + if wt w n ≠ 0 ∧ bef w A a2 n = true then 1 else 0
def mS (w : Arr) (A a2 : Nat) : Nat → Nat
  | 0 => 0
  | n + 1 => mS w A a2 n + if bef w A a2 n = true then 1 else 0
theorem sh_sum : ∀ n, A * wS w n = wS w (zh w) * qS w A n + rS w A n
  | 0 => by
    show A * 0 = wS w (zh w) * 0 + 0
    rw [Nat.mul_zero, Nat.mul_zero]
  | n + 1 => by
    have ih := sh_sum n
    have hd := Nat.div_add_mod (A * wt w n) (wS w (zh w))
    have e1 : wS w (n + 1) = wS w n + wt w n := rfl
    have e2 : qS w A (n + 1) = qS w A n + A * wt w n / wS w (zh w) := rfl
    have e3 : rS w A (n + 1) = rS w A n + A * wt w n % wS w (zh w) := rfl
    rw [e1, e2, e3, Nat.mul_add, Nat.mul_add]
    omega
theorem sh_rem (hW : 1 ≤ wS w (zh w)) : ∀ n, rS w A n ≤ wS w (zh w) * pS w A n
  | 0 => Nat.zero_le _
  | n + 1 => by
    have ih := sh_rem hW n
    have hl : shr' w A n < wS w (zh w) := Nat.mod_lt _ hW
    unfold rS pS
    by_cases q : shr' w A n = 0
    · rw [if_pos q, q]
      exact ih
    · rw [if_neg q, Nat.mul_add, Nat.mul_one]
      omega
theorem sh_left (hW : 1 ≤ wS w (zh w)) : qS w A (zh w) ≤ A ∧ A - qS w A (zh w) ≤ pS w A (zh w) := by
  have h1 := sh_sum (w := w) (A := A) (zh w)
  have h2 := sh_rem (A := A) hW (zh w)
  rw [Nat.mul_comm A] at h1
  have h3 : qS w A (zh w) ≤ A := Nat.le_of_mul_le_mul_left (c := wS w (zh w)) (by omega) hW
  refine ⟨h3, Nat.le_of_mul_le_mul_left (c := wS w (zh w)) ?_ hW⟩
  rw [Nat.mul_sub]
  omega
theorem q_mono : ∀ n k, n ≤ k → qS w A n ≤ qS w A k := by
  intro n k h
  induction k with
  | zero => rw [show n = 0 by omega]; exact Nat.le_refl _
  | succ k ih =>
    by_cases e : n = k + 1
    · subst e; exact Nat.le_refl _
    · have := ih (by omega)
      show _ ≤ qS w A k + shq w A k
      omega
theorem wt_0 {h : Nat} (hz : wt w h = 0) : shr' w A h = 0 := by
  unfold shr'
  rw [hz, Nat.mul_zero, Nat.zero_mod]
/-- whoever isn't there makes no difference -/
theorem sh_same (hW : 1 ≤ wS w (zh w)) : (A - qS w A (zh w) ≤ cS w A a2 (zh w)) ↔ (A - qS w A (zh w) ≤ mS w A a2 (zh w)) := by
  by_cases h0 : shr' w A a2 = 0
  · have hc : ∀ n, pS w A n ≤ cS w A a2 n := by
      intro n
      induction n with
      | zero => exact Nat.le_refl _
      | succ n ih =>
        unfold pS cS
        by_cases q : shr' w A n = 0
        · rw [if_pos q]
          omega
        · rw [if_neg q, if_pos ⟨fun z => q (wt_0 z), bef_iff.mpr (Or.inl (by omega))⟩]
          omega
    have hm : ∀ n, pS w A n ≤ mS w A a2 n := by
      intro n
      induction n with
      | zero => exact Nat.le_refl _
      | succ n ih =>
        unfold pS mS
        by_cases q : shr' w A n = 0
        · rw [if_pos q]
          omega
        · rw [if_neg q, if_pos (bef_iff.mpr (Or.inl (by omega)))]
          omega
    have h1 := (sh_left (A := A) hW).2
    have h2 := hc (zh w)
    have h3 := hm (zh w)
    constructor <;> intro _ <;> omega
  · have he : ∀ n, cS w A a2 n = mS w A a2 n := by
      intro n
      induction n with
      | zero => rfl
      | succ n ih =>
        unfold cS mS
        rw [ih]
        by_cases q : wt w n = 0
        · have hr := wt_0 (A := A) q
          have hb : ¬ bef w A a2 n = true := by
            intro z
            have := bef_iff.mp z
            omega
          rw [if_neg (fun z => z.1 q), if_neg hb]
        · by_cases hb : bef w A a2 n = true
          · rw [if_pos ⟨q, hb⟩, if_pos hb]
          · rw [if_neg (fun z => hb z.2), if_neg hb]
    rw [he]
end SHARE
