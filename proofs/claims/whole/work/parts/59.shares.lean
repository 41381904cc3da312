/-! share, brides: pairs -/
section SHARES
variable {w w' v0 : Arr} {LN : List Lin} {m m' m2 : Mem} {N d n j i a2 A : Nat}
theorem neg_sub2 : ∀ k, k < 128 → ∀ l, l < 128 → k < l → nI k - nI l < nI 0 := by decide +kernel
theorem irm_n {a b : Nat} (ha : a < 2 ^ 31) (h0 : 0 < b) (hb : b < 2 ^ 31) : irm (nI a) (nI b) = nI (a % b) := pk_rem ha h0 hb
theorem cS_le : ∀ n, cS w A a2 n ≤ n
  | 0 => Nat.le_refl _
  | n + 1 => by
    have := cS_le n
    unfold cS
    split <;> omega
theorem mS_le : ∀ n, mS w A a2 n ≤ n
  | 0 => Nat.le_refl _
  | n + 1 => by
    have := mS_le n
    unfold mS
    split <;> omega
theorem w_shareC (hN : 20000 ≤ N) (H : HRep 2 LN w m) (W0 : WFc w) (hW : 1 ≤ wS w (zh w)) (hA : A ≤ 9999) (h2 : a2 < zh w) :
    Wp (it3 (f_X11_share_L65 N (nI A) (nI a2) (nI (wS w (zh w))) (nI (A * wt w a2))) N (nI A) (nI 0) (nI 0) m) (fun v m' => v = nI (A * wt w a2 / wS w (zh w) + if A - qS w A (zh w) ≤ cS w A a2 (zh w) then 0 else 1) ∧ m' = m) := by
  have lh := W0.lzh
  have lW := wS_le W0 (zh w) (Nat.le_refl _)
  have lm : ∀ h, h < zh w → A * wt w h ≤ 9999 * 10 := fun h hh => Nat.mul_le_mul hA (wt_ok W0 hh).1
  have l2 := lm a2 h2
  have ld2 := Nat.div_le_self (A * wt w a2) (wS w (zh w))
  refine wp_it3 (fun q x y z m' => ∃ i, i ≤ zh w ∧ q = zh w - i ∧ x = nI (A - qS w A i) ∧ y = nI (cS w A a2 i) ∧ z = nI i ∧ m' = m) ?_ N (zh w) _ _ _ _ (by omega) ⟨0, by omega, rfl, rfl, rfl, rfl, rfl⟩
  rintro q X x y z m' ⟨i, hi, rfl, rfl, rfl, rfl, rfl⟩ hX
  have lc := cS_le (w := w) (A := A) (a2 := a2) i
  have hq := (sh_left (A := A) hW).1
  unfold f_X11_share_L65
  simp only [li_0, li_1, li_2, li_3, li_4, li_5, li_6, li_7, li_8, li_9, li_10, li_11, li_12, li_13, li_14, li_15, li_16, li_17, li_18, li_19, li_20, li_21, li_22, li_23, li_24, li_25, li_26, li_27, li_28, li_29, li_30, li_31, li_32, li_37, li_38, li_39, li_40, li_41, li_42, li_43, li_44, li_45, li_46, li_47, li_48, li_49, li_50, li_57, li_59, li_60, li_61, li_62, li_63, li_64, li_65, li_69, li_81, li_89, li_90, li_92, li_97, li_99, li_100, li_101, li_103, li_104, li_105, li_106, li_108, li_111, li_112, li_113, li_114, li_115, li_116, li_117, li_119, li_122, li_123, li_124, li_125, li_126, li_127, li_128, li_129, li_130, li_131, li_132, li_133, li_134, li_135, li_136, li_137, li_140, li_141, li_142, li_143, li_145, li_147, li_150, li_153, li_159, li_160, li_161, li_162, li_185, li_197, li_213, li_222, li_223, li_255, li_256, li_257, li_258, li_259, li_260, li_261, li_262, li_263, li_264, li_271, li_272, li_273, li_274, li_275, li_276, li_277, li_278, li_300, li_400, li_420, li_500, li_802, li_820, li_823, li_839, li_855, li_871, li_887, li_999, li_1000, li_1001, li_1002, li_1003, li_1004, li_1005, li_1006, li_1007, li_1008, li_1009, li_1010, li_1011, li_1012, li_1013, li_1014, li_1015, li_1016, li_1017, li_1018, li_1019, li_1020, li_1021, li_1022, li_1023, li_1707, li_4096, li_9999, li_65536, li_100000, li_1000000, li_1664525, li_100000000, li_252645135, li_858993459, li_1000000007, li_1013904223, li_1431655765, li_m1, nI_up]
  rw [H.hea.1, W0.h37]
  refine wp_ite (fun q => ?_) (fun q => ?_) <;> rw [nI_leI (by omega) (by omega)] at q
  · have : i = zh w := by omega
    subst this
    rw [decide_eq_true (nI_ne (by omega) (by omega) (by decide)), chk_t, pk_div (by omega) (by omega) (by omega), nI_add, nI_add]
    refine wp_ite (fun q2 => ?_) (fun q2 => ?_) <;> rw [nI_leI (by omega) (by omega)] at q2
    · exact wp_ret ⟨by rw [if_pos q2], rfl⟩
    · exact wp_ret ⟨by rw [if_neg q2], rfl⟩
  · have hi' : i < zh w := by omega
    have l1 := lm i hi'
    have hqi := q_mono (w := w) (A := A) (i + 1) (zh w) (by omega)
    have e1 : qS w A (i + 1) = qS w A i + A * wt w i / wS w (zh w) := rfl
    have e2 : cS w A a2 (i + 1) = cS w A a2 i + if wt w i ≠ 0 ∧ bef w A a2 i = true then 1 else 0 := rfl
    have r1 : shr' w A i < wS w (zh w) := Nat.mod_lt _ hW
    have r2 : shr' w A a2 < wS w (zh w) := Nat.mod_lt _ hW
    have l10 := (wt_ok W0 hi').1
    rw [e_weightC H W0 hi', bd_s, pk_mul, bnd_s, decide_eq_true (nI_ne (show wS w (zh w) ≠ 0 by omega) (by omega) (by decide)), chk_t, pk_div (by omega) (by omega) (by omega), pk_sub (by omega), bnd_s, chk_t, chk_t, irm_n (by omega) (by omega) (by omega), irm_n (by omega) (by omega) (by omega), chk_t, chk_t]
    have ex : A - qS w A i - A * wt w i / wS w (zh w) = A - qS w A (i + 1) := by rw [e1]; omega
    rw [ex]
    have J : ∀ b, bef w A a2 i = b → Wp (f_X11_share_J132 N (nI A) (nI a2) (nI (wS w (zh w))) (nI (A * wt w a2)) X (nI (A - qS w A (i + 1))) (nI (cS w A a2 i)) (nI i) (b2i b) m') (fun v m'_1 => v = nI (A * wt w a2 / wS w (zh w) + if A - qS w A (zh w) ≤ cS w A a2 (zh w) then 0 else 1) ∧ m'_1 = m') := by
      intro b hb
      unfold f_X11_share_J132
      simp only [li_0, li_1, li_2, li_3, li_4, li_5, li_6, li_7, li_8, li_9, li_10, li_11, li_12, li_13, li_14, li_15, li_16, li_17, li_18, li_19, li_20, li_21, li_22, li_23, li_24, li_25, li_26, li_27, li_28, li_29, li_30, li_31, li_32, li_37, li_38, li_39, li_40, li_41, li_42, li_43, li_44, li_45, li_46, li_47, li_48, li_49, li_50, li_57, li_59, li_60, li_61, li_62, li_63, li_64, li_65, li_69, li_81, li_89, li_90, li_92, li_97, li_99, li_100, li_101, li_103, li_104, li_105, li_106, li_108, li_111, li_112, li_113, li_114, li_115, li_116, li_117, li_119, li_122, li_123, li_124, li_125, li_126, li_127, li_128, li_129, li_130, li_131, li_132, li_133, li_134, li_135, li_136, li_137, li_140, li_141, li_142, li_143, li_145, li_147, li_150, li_153, li_159, li_160, li_161, li_162, li_185, li_197, li_213, li_222, li_223, li_255, li_256, li_257, li_258, li_259, li_260, li_261, li_262, li_263, li_264, li_271, li_272, li_273, li_274, li_275, li_276, li_277, li_278, li_300, li_400, li_420, li_500, li_802, li_820, li_823, li_839, li_855, li_871, li_887, li_999, li_1000, li_1001, li_1002, li_1003, li_1004, li_1005, li_1006, li_1007, li_1008, li_1009, li_1010, li_1011, li_1012, li_1013, li_1014, li_1015, li_1016, li_1017, li_1018, li_1019, li_1020, li_1021, li_1022, li_1023, li_1707, li_4096, li_9999, li_65536, li_100000, li_1000000, li_1664525, li_100000000, li_252645135, li_858993459, li_1000000007, li_1013904223, li_1431655765, li_m1, nI_up]
      rw [e_weightC H W0 hi', bd_s, if_b2i]
      refine wp_ite (fun q3 => ?_) (fun q3 => ?_) <;> rw [nI_leI (by omega) (by decide)] at q3
      · rw [if_neg (fun z => z.1 (by omega))] at e2
        exact hX (zh w - (i + 1)) _ _ _ _ (by omega) ⟨i + 1, by omega, rfl, rfl, by rw [e2]; rfl, rfl, rfl⟩
      · cases b with
        | true =>
          rw [if_pos ⟨by omega, hb⟩] at e2
          rw [if_pos rfl]
          exact hX (zh w - (i + 1)) _ _ _ _ (by omega) ⟨i + 1, by omega, rfl, rfl, by rw [e2], rfl, rfl⟩
        | false =>
          rw [if_neg (fun z => by rw [z.2] at hb; cases hb)] at e2
          rw [if_neg (by decide)]
          exact hX (zh w - (i + 1)) _ _ _ _ (by omega) ⟨i + 1, by omega, rfl, rfl, by rw [e2]; rfl, rfl, rfl⟩
    show Wp (if nI (shr' w A a2) < nI (shr' w A i) then _ else if nI (shr' w A i) = nI (shr' w A a2) then _ else _) _
    refine wp_ite (fun q3 => ?_) (fun q3 => ?_) <;> rw [nI_ltI (by omega) (by omega)] at q3
    · exact J true (bef_iff.mpr (Or.inl q3))
    · refine wp_ite (fun q4 => ?_) (fun q4 => ?_) <;> rw [nI_eq (by omega) (by omega)] at q4
      · refine wp_ite (fun q5 => ?_) (fun q5 => ?_) <;> rw [nI_leI (by omega) (by omega)] at q5
        · refine J false ?_
          cases hb : bef w A a2 i with
          | false => rfl
          | true =>
            have := bef_iff.mp hb
            omega
        · exact J true (bef_iff.mpr (Or.inr ⟨q4, by omega⟩))
      · refine J false ?_
        cases hb : bef w A a2 i with
        | false => rfl
        | true =>
          have := bef_iff.mp hb
          omega
theorem w_shareM {K : Int32 → Int32 → Mem → Ans} {Q : Int32 → Mem → Prop} (hN : 20000 ≤ N) (hm : m 124 = w) (W0 : WFc w) (hW : 1 ≤ wS w (zh w)) (hA : A ≤ 9999) (h2 : a2 < zh w)
    (hK : Wp (K (nI (A - qS w A (zh w))) (nI (mS w A a2 (zh w))) m) Q) : Wp (it3 (f_X12_share_L55 N (nI A) (nI a2) (nI (wS w (zh w))) K) N (nI A) (nI 0) (nI 0) m) Q := by
  have lh := W0.lzh
  have lW := wS_le W0 (zh w) (Nat.le_refl _)
  have lm : ∀ h, h < zh w → A * wt w h ≤ 9999 * 10 := fun h hh => Nat.mul_le_mul hA (wt_ok W0 hh).1
  have l2 := lm a2 h2
  refine wp_it3 (fun q x y z m' => ∃ i, i ≤ zh w ∧ q = zh w - i ∧ x = nI (A - qS w A i) ∧ y = nI (mS w A a2 i) ∧ z = nI i ∧ m' = m) ?_ N (zh w) _ _ _ _ (by omega) ⟨0, by omega, rfl, rfl, rfl, rfl, rfl⟩
  rintro q X x y z m' ⟨i, hi, rfl, rfl, rfl, rfl, rfl⟩ hX
  have lc := mS_le (w := w) (A := A) (a2 := a2) i
  have hq := (sh_left (A := A) hW).1
  unfold f_X12_share_L55
  simp only [li_0, li_1, li_2, li_3, li_4, li_5, li_6, li_7, li_8, li_9, li_10, li_11, li_12, li_13, li_14, li_15, li_16, li_17, li_18, li_19, li_20, li_21, li_22, li_23, li_24, li_25, li_26, li_27, li_28, li_29, li_30, li_31, li_32, li_37, li_38, li_39, li_40, li_41, li_42, li_43, li_44, li_45, li_46, li_47, li_48, li_49, li_50, li_57, li_59, li_60, li_61, li_62, li_63, li_64, li_65, li_69, li_81, li_89, li_90, li_92, li_97, li_99, li_100, li_101, li_103, li_104, li_105, li_106, li_108, li_111, li_112, li_113, li_114, li_115, li_116, li_117, li_119, li_122, li_123, li_124, li_125, li_126, li_127, li_128, li_129, li_130, li_131, li_132, li_133, li_134, li_135, li_136, li_137, li_140, li_141, li_142, li_143, li_145, li_147, li_150, li_153, li_159, li_160, li_161, li_162, li_185, li_197, li_213, li_222, li_223, li_255, li_256, li_257, li_258, li_259, li_260, li_261, li_262, li_263, li_264, li_271, li_272, li_273, li_274, li_275, li_276, li_277, li_278, li_300, li_400, li_420, li_500, li_802, li_820, li_823, li_839, li_855, li_871, li_887, li_999, li_1000, li_1001, li_1002, li_1003, li_1004, li_1005, li_1006, li_1007, li_1008, li_1009, li_1010, li_1011, li_1012, li_1013, li_1014, li_1015, li_1016, li_1017, li_1018, li_1019, li_1020, li_1021, li_1022, li_1023, li_1707, li_4096, li_9999, li_65536, li_100000, li_1000000, li_1664525, li_100000000, li_252645135, li_858993459, li_1000000007, li_1013904223, li_1431655765, li_m1, nI_up, nI_add]
  rw [hm, W0.h37]
  refine wp_ite (fun q => ?_) (fun q => ?_) <;> rw [nI_leI (by omega) (by omega)] at q
  · have : i = zh w := by omega
    subst this
    exact hK
  · have hi' : i < zh w := by omega
    have l1 := lm i hi'
    have hqi := q_mono (w := w) (A := A) (i + 1) (zh w) (by omega)
    have e1 : qS w A (i + 1) = qS w A i + A * wt w i / wS w (zh w) := rfl
    have e2 : mS w A a2 (i + 1) = mS w A a2 i + if bef w A a2 i = true then 1 else 0 := rfl
    have r1 : shr' w A i < wS w (zh w) := Nat.mod_lt _ hW
    have r2 : shr' w A a2 < wS w (zh w) := Nat.mod_lt _ hW
    rw [e_weightM hm W0 hi', bd_s, pk_mul, decide_eq_true (nI_ne (show wS w (zh w) ≠ 0 by omega) (by omega) (by decide)), chk_t, pk_div (by omega) (by omega) (by omega), pk_sub (by omega), bnd_s, e_weightM hm W0 hi', bd_s, chk_t, e_weightM hm W0 h2, bd_s, chk_t, pk_mul, pk_mul, irm_n (by omega) (by omega) (by omega), irm_n (by omega) (by omega) (by omega), bnd_s]
    have ex : A - qS w A i - A * wt w i / wS w (zh w) = A - qS w A (i + 1) := by rw [e1]; omega
    rw [ex]
    have go1 : bef w A a2 i = true → Wp (bnd (nI (mS w A a2 i + 1)) fun a5_128 => X (nI (A - qS w A (i + 1))) a5_128 (nI (i + 1)) m') Q := fun hb => by
      rw [if_pos hb] at e2
      exact hX (zh w - (i + 1)) _ _ _ _ (by omega) ⟨i + 1, by omega, rfl, rfl, by rw [e2], rfl, rfl⟩
    have go0 : bef w A a2 i = false → Wp (bnd (nI (mS w A a2 i + 0)) fun a5_128 => X (nI (A - qS w A (i + 1))) a5_128 (nI (i + 1)) m') Q := fun hb => by
      rw [hb, if_neg (by decide)] at e2
      exact hX (zh w - (i + 1)) _ _ _ _ (by omega) ⟨i + 1, by omega, rfl, rfl, by rw [e2], rfl, rfl⟩
    show Wp (if nI 0 < nI (shr' w A i) - nI (shr' w A a2) then _ else if nI (shr' w A i) - nI (shr' w A a2) = nI 0 then _ else _) Q
    by_cases c : shr' w A i < shr' w A a2
    · have hneg := neg_sub2 _ (show shr' w A i < 128 by omega) _ (show shr' w A a2 < 128 by omega) c
      rw [if_neg (fun z => Int32.lt_irrefl (Int32.lt_trans z hneg)), if_neg (fun z => by rw [z] at hneg; exact Int32.lt_irrefl hneg)]
      refine go0 ?_
      cases hb : bef w A a2 i with
      | false => rfl
      | true =>
        have := bef_iff.mp hb
        omega
    · rw [pk_sub (by omega)]
      refine wp_ite (fun q3 => ?_) (fun q3 => ?_) <;> rw [nI_ltI (by omega) (by omega)] at q3
      · exact go1 (bef_iff.mpr (Or.inl (by omega)))
      · rw [if_pos (by rw [show shr' w A i - shr' w A a2 = 0 by omega])]
        refine wp_ite (fun q5 => ?_) (fun q5 => ?_) <;> rw [nI_leI (by omega) (by omega)] at q5
        · refine go0 ?_
          cases hb : bef w A a2 i with
          | false => rfl
          | true =>
            have := bef_iff.mp hb
            omega
        · exact go1 (bef_iff.mpr (Or.inr ⟨by omega, by omega⟩))
theorem pr_share {a b : Int32} (hN : 20000 ≤ N) : Pr (f_X11_share N a b) (f_X12_share N a b) := by
  intro m hI
  obtain ⟨LN, H, G, -⟩ := id hI
  have lh := G.1.lzh
  have p := pow_le31 lh
  have lW := wS_le G.1 (zh (m 124)) (Nat.le_refl _)
  have hz7 := G.1.h7.2
  unfold f_X11_share
  simp only [li_0, li_1, li_2, li_3, li_4, li_5, li_6, li_7, li_8, li_9, li_10, li_11, li_12, li_13, li_14, li_15, li_16, li_17, li_18, li_19, li_20, li_21, li_22, li_23, li_24, li_25, li_26, li_27, li_28, li_29, li_30, li_31, li_32, li_37, li_38, li_39, li_40, li_41, li_42, li_43, li_44, li_45, li_46, li_47, li_48, li_49, li_50, li_57, li_59, li_60, li_61, li_62, li_63, li_64, li_65, li_69, li_81, li_89, li_90, li_92, li_97, li_99, li_100, li_101, li_103, li_104, li_105, li_106, li_108, li_111, li_112, li_113, li_114, li_115, li_116, li_117, li_119, li_122, li_123, li_124, li_125, li_126, li_127, li_128, li_129, li_130, li_131, li_132, li_133, li_134, li_135, li_136, li_137, li_140, li_141, li_142, li_143, li_145, li_147, li_150, li_153, li_159, li_160, li_161, li_162, li_185, li_197, li_213, li_222, li_223, li_255, li_256, li_257, li_258, li_259, li_260, li_261, li_262, li_263, li_264, li_271, li_272, li_273, li_274, li_275, li_276, li_277, li_278, li_300, li_400, li_420, li_500, li_802, li_820, li_823, li_839, li_855, li_871, li_887, li_999, li_1000, li_1001, li_1002, li_1003, li_1004, li_1005, li_1006, li_1007, li_1008, li_1009, li_1010, li_1011, li_1012, li_1013, li_1014, li_1015, li_1016, li_1017, li_1018, li_1019, li_1020, li_1021, li_1022, li_1023, li_1707, li_4096, li_9999, li_65536, li_100000, li_1000000, li_1664525, li_100000000, li_252645135, li_858993459, li_1000000007, li_1013904223, li_1431655765, li_m1]
  rw [e_allC hN H G.1, bd_s, e_within, bd_s]
  cases hq : decide (nI 0 ≤ a ∧ a ≤ nI 9999) with
  | false =>
    rw [if_pos (by decide)]
    refine wp_ret ?_
    unfold f_X12_share
    simp only [li_0, li_1, li_2, li_3, li_4, li_5, li_6, li_7, li_8, li_9, li_10, li_11, li_12, li_13, li_14, li_15, li_16, li_17, li_18, li_19, li_20, li_21, li_22, li_23, li_24, li_25, li_26, li_27, li_28, li_29, li_30, li_31, li_32, li_37, li_38, li_39, li_40, li_41, li_42, li_43, li_44, li_45, li_46, li_47, li_48, li_49, li_50, li_57, li_59, li_60, li_61, li_62, li_63, li_64, li_65, li_69, li_81, li_89, li_90, li_92, li_97, li_99, li_100, li_101, li_103, li_104, li_105, li_106, li_108, li_111, li_112, li_113, li_114, li_115, li_116, li_117, li_119, li_122, li_123, li_124, li_125, li_126, li_127, li_128, li_129, li_130, li_131, li_132, li_133, li_134, li_135, li_136, li_137, li_140, li_141, li_142, li_143, li_145, li_147, li_150, li_153, li_159, li_160, li_161, li_162, li_185, li_197, li_213, li_222, li_223, li_255, li_256, li_257, li_258, li_259, li_260, li_261, li_262, li_263, li_264, li_271, li_272, li_273, li_274, li_275, li_276, li_277, li_278, li_300, li_400, li_420, li_500, li_802, li_820, li_823, li_839, li_855, li_871, li_887, li_999, li_1000, li_1001, li_1002, li_1003, li_1004, li_1005, li_1006, li_1007, li_1008, li_1009, li_1010, li_1011, li_1012, li_1013, li_1014, li_1015, li_1016, li_1017, li_1018, li_1019, li_1020, li_1021, li_1022, li_1023, li_1707, li_4096, li_9999, li_65536, li_100000, li_1000000, li_1664525, li_100000000, li_252645135, li_858993459, li_1000000007, li_1013904223, li_1431655765, li_m1]
    rw [e_isIn, bd_s, hq, if_pos (by decide)]
    exact wp_ret ⟨rfl, hI⟩
  | true =>
    obtain ⟨A, -, hA, rfl⟩ := rng_of (by decide) (by decide) hq
    rw [if_neg (by decide), hr_hasH H G.1, bd_s]
    rcases inb_cases b (n := zh (m 124)) (by omega) with ⟨e, -⟩ | ⟨a2, h2, rfl⟩
    · rw [e, if_pos (by decide)]
      refine wp_ret ?_
      unfold f_X12_share
      simp only [li_0, li_1, li_2, li_3, li_4, li_5, li_6, li_7, li_8, li_9, li_10, li_11, li_12, li_13, li_14, li_15, li_16, li_17, li_18, li_19, li_20, li_21, li_22, li_23, li_24, li_25, li_26, li_27, li_28, li_29, li_30, li_31, li_32, li_37, li_38, li_39, li_40, li_41, li_42, li_43, li_44, li_45, li_46, li_47, li_48, li_49, li_50, li_57, li_59, li_60, li_61, li_62, li_63, li_64, li_65, li_69, li_81, li_89, li_90, li_92, li_97, li_99, li_100, li_101, li_103, li_104, li_105, li_106, li_108, li_111, li_112, li_113, li_114, li_115, li_116, li_117, li_119, li_122, li_123, li_124, li_125, li_126, li_127, li_128, li_129, li_130, li_131, li_132, li_133, li_134, li_135, li_136, li_137, li_140, li_141, li_142, li_143, li_145, li_147, li_150, li_153, li_159, li_160, li_161, li_162, li_185, li_197, li_213, li_222, li_223, li_255, li_256, li_257, li_258, li_259, li_260, li_261, li_262, li_263, li_264, li_271, li_272, li_273, li_274, li_275, li_276, li_277, li_278, li_300, li_400, li_420, li_500, li_802, li_820, li_823, li_839, li_855, li_871, li_887, li_999, li_1000, li_1001, li_1002, li_1003, li_1004, li_1005, li_1006, li_1007, li_1008, li_1009, li_1010, li_1011, li_1012, li_1013, li_1014, li_1015, li_1016, li_1017, li_1018, li_1019, li_1020, li_1021, li_1022, li_1023, li_1707, li_4096, li_9999, li_65536, li_100000, li_1000000, li_1664525, li_100000000, li_252645135, li_858993459, li_1000000007, li_1013904223, li_1431655765, li_m1]
      rw [e_isIn, bd_s, hq, if_neg (by decide), e_isHearer rfl G.1, e, bd_s, if_pos (by decide)]
      exact wp_ret ⟨rfl, hI⟩
    · have l10 := (wt_ok G.1 h2).1
      have hM : f_X12_share N (nI A) (nI a2) m = if nI (zt (m 124)) = nI 0 then some (mo1, m) else if b2i ((zt (m 124)).testBit a2) = nI 0 then some (nI 0, m) else it3 (f_X12_share_L55 N (nI A) (nI a2) (nI (wS (m 124) (zh (m 124)))) (fun k4_136 k5_136 mk136 => bd (f_X12_weightOf N (nI a2) mk136) fun r_139 m_139 =>
          chk (decide (nI (wS (m 124) (zh (m 124))) ≠ nI 0)) <|
          if k4_136 ≤ k5_136 then (some ((((nI A * r_139) / nI (wS (m 124) (zh (m 124)))) + nI 0), m_139))
          else (some ((((nI A * r_139) / nI (wS (m 124) (zh (m 124)))) + nI 1), m_139)))) N (nI A) (nI 0) (nI 0) m := by
        unfold f_X12_share
        simp only [li_0, li_1, li_2, li_3, li_4, li_5, li_6, li_7, li_8, li_9, li_10, li_11, li_12, li_13, li_14, li_15, li_16, li_17, li_18, li_19, li_20, li_21, li_22, li_23, li_24, li_25, li_26, li_27, li_28, li_29, li_30, li_31, li_32, li_37, li_38, li_39, li_40, li_41, li_42, li_43, li_44, li_45, li_46, li_47, li_48, li_49, li_50, li_57, li_59, li_60, li_61, li_62, li_63, li_64, li_65, li_69, li_81, li_89, li_90, li_92, li_97, li_99, li_100, li_101, li_103, li_104, li_105, li_106, li_108, li_111, li_112, li_113, li_114, li_115, li_116, li_117, li_119, li_122, li_123, li_124, li_125, li_126, li_127, li_128, li_129, li_130, li_131, li_132, li_133, li_134, li_135, li_136, li_137, li_140, li_141, li_142, li_143, li_145, li_147, li_150, li_153, li_159, li_160, li_161, li_162, li_185, li_197, li_213, li_222, li_223, li_255, li_256, li_257, li_258, li_259, li_260, li_261, li_262, li_263, li_264, li_271, li_272, li_273, li_274, li_275, li_276, li_277, li_278, li_300, li_400, li_420, li_500, li_802, li_820, li_823, li_839, li_855, li_871, li_887, li_999, li_1000, li_1001, li_1002, li_1003, li_1004, li_1005, li_1006, li_1007, li_1008, li_1009, li_1010, li_1011, li_1012, li_1013, li_1014, li_1015, li_1016, li_1017, li_1018, li_1019, li_1020, li_1021, li_1022, li_1023, li_1707, li_4096, li_9999, li_65536, li_100000, li_1000000, li_1664525, li_100000000, li_252645135, li_858993459, li_1000000007, li_1013904223, li_1431655765, li_m1]
        rw [e_isIn, bd_s, hq, if_neg (by decide), e_isHearer rfl G.1, inb_nI h2 (by omega), bd_s, if_neg (by decide), G.1.h7.1, e_there rfl G.1 (by omega), bd_s, e_allM hN rfl G.1, bd_s]
      rw [inb_nI h2 (by omega), if_neg (by decide)]
      by_cases hz : zt (m 124) = 0
      · rw [wS_0 hz, if_neg (by decide)]
        rw [hz, if_pos rfl] at hM
        refine wp_ret ?_
        rw [hM]
        exact wp_ret ⟨rfl, hI⟩
      · have hW := wS_pos G.1 hz
        rw [if_neg (nI_ne hz (by omega) (by decide))] at hM
        rw [if_pos (nI_le hW (by omega)), e_weightC H G.1 h2, bd_s]
        cases hb : (zt (m 124)).testBit a2 with
        | false =>
          have hw0 : wt (m 124) a2 = 0 := by
            unfold wt
            rw [hb, if_neg (by decide)]
          rw [hb, if_pos (by decide)] at hM
          rw [hw0, if_pos rfl]
          refine wp_ret ?_
          rw [hM]
          exact wp_ret ⟨rfl, hI⟩
        | true =>
          have hw1 := ((wt_ok G.1 h2).2 hb).2
          have lm : A * wt (m 124) a2 ≤ 9999 * 10 := Nat.mul_le_mul hA l10
          have ld := Nat.div_le_self (A * wt (m 124) a2) (wS (m 124) (zh (m 124)))
          have lms := mS_le (w := m 124) (A := A) (a2 := a2) (zh (m 124))
          rw [hb, if_neg (by decide)] at hM
          rw [if_neg (nI_ne (by omega) (by omega) (by decide)), e_weightC H G.1 h2, bd_s, pk_mul, bnd_s]
          refine wp_mono (w_shareC hN H G.1 hW hA h2) ?_
          rintro _ m1 ⟨rfl, rfl⟩
          rw [hM]
          refine w_shareM hN rfl G.1 hW hA h2 ?_
          rw [e_weightM rfl G.1 h2, bd_s, decide_eq_true (nI_ne (show wS (m1 124) (zh (m1 124)) ≠ 0 by omega) (by omega) (by decide)), chk_t, pk_mul, pk_div (by omega) (by omega) (by omega), nI_add, nI_add]
          have hs := sh_same (w := m1 124) (A := A) (a2 := a2) hW
          by_cases c : A - qS (m1 124) A (zh (m1 124)) ≤ mS (m1 124) A a2 (zh (m1 124))
          · rw [if_pos (nI_le c (by omega)), if_pos (hs.mpr c)]
            exact wp_ret ⟨rfl, hI⟩
          · rw [if_neg (fun z => c ((nI_leI (by omega) (by omega)).mp z)), if_neg (fun z => c (hs.mp z))]
            exact wp_ret ⟨rfl, hI⟩
end SHARES
