/-! who is there; how many hands are asked -/
section ASKS
variable {h h' : DS} {t N d hh b : Nat} {p : Plc} {w w' : Arr} {dl : Option (Nat → Int32)} {LN : List Lin} {v : Int32}
theorem h_there (hN : 20000 ≤ N) (H : HouR h t p w dl) (W0 : WFc w) : Wd (g_X12_there N t h) (fun v h' => v = nI (zt w) ∧ h' = h) := by
  have s := W0.lzh
  have q7 := W0.h7.2
  unfold g_X12_there
  refine wd_jt (fun n a h' => ∃ i, i ≤ zh w ∧ n = zh w - i ∧ a = (nI (zt w % 2 ^ i), nI i) ∧ h' = h) ?_ N (zh w) _ _ (by omega) ⟨0, by omega, rfl, by rw [Nat.pow_zero, Nat.mod_one]; rfl, rfl⟩
  rintro n X a h1 ⟨i, hi, rfl, rfl, rfl⟩ hX
  unfold g_X12_there_L4
  refine wd_bo (hs_I H (by decide) (by decide)) ?_
  rw [H.int.2.2.2.2.2.2.2.1, W0.h37]
  refine wd_ite (fun q => ?_) (fun q => ?_)
  · rw [nI_leI (by omega) (by omega)] at q
    have : i = zh w := by omega
    subst this
    exact wd_ret ⟨by rw [mod_all q7], rfl⟩
  · rw [nI_leI (by omega) (by omega)] at q
    refine wd_bo (hs_man H) (wd_bo (rw_Q H.man (by omega) (by decide)) (wd_bo (rw_A (c := 3) H.man (by omega) (by decide) (by decide)) ?_))
    rw [show heaV w i 3 = b2i ((zt w).testBit i) from rfl]
    simp only [li_0, li_1, li_2, li_3, li_4, li_5, li_6, li_7, li_8, li_9, li_10, li_11, li_12, li_13, li_14, li_15, li_16, li_17, li_18, li_19, li_20, li_21, li_22, li_23, li_24, li_25, li_26, li_27, li_28, li_29, li_30, li_31, li_32, li_37, li_38, li_39, li_40, li_41, li_42, li_43, li_44, li_45, li_46, li_47, li_48, li_49, li_50, li_57, li_59, li_60, li_61, li_62, li_63, li_64, li_65, li_69, li_81, li_89, li_90, li_92, li_97, li_99, li_100, li_101, li_103, li_104, li_105, li_106, li_108, li_111, li_112, li_113, li_114, li_115, li_116, li_117, li_119, li_122, li_123, li_124, li_125, li_126, li_127, li_128, li_129, li_130, li_131, li_132, li_133, li_134, li_135, li_136, li_137, li_140, li_141, li_142, li_143, li_145, li_147, li_150, li_153, li_159, li_160, li_161, li_162, li_185, li_197, li_213, li_222, li_223, li_255, li_256, li_257, li_258, li_259, li_260, li_261, li_262, li_263, li_264, li_271, li_272, li_273, li_274, li_275, li_276, li_277, li_278, li_300, li_400, li_420, li_500, li_802, li_820, li_823, li_839, li_855, li_871, li_887, li_999, li_1000, li_1001, li_1002, li_1003, li_1004, li_1005, li_1006, li_1007, li_1008, li_1009, li_1010, li_1011, li_1012, li_1013, li_1014, li_1015, li_1016, li_1017, li_1018, li_1019, li_1020, li_1021, li_1022, li_1023, li_1707, li_4096, li_9999, li_65536, li_100000, li_1000000, li_1664525, li_100000000, li_252645135, li_858993459, li_1000000007, li_1013904223, li_1431655765, li_m1]
    cases hb : (zt w).testBit i with
    | true =>
      refine wd_ite (fun _ => ?_) (fun z => absurd rfl z)
      rw [nz_one (by omega), nz_or, nI_up, modpow_on hb]
      exact hX (zh w - (i + 1)) _ _ (by omega) ⟨i + 1, by omega, rfl, rfl, rfl⟩
    | false =>
      refine wd_ite (fun z => absurd z (by decide)) (fun _ => ?_)
      rw [nI_up, modpow_off hb]
      exact hX (zh w - (i + 1)) _ _ (by omega) ⟨i + 1, by omega, rfl, rfl, rfl⟩
def bstF (w : Arr) (cur : Option Nat) (i : Nat) : Option Nat := if w (105 + 3 * i + 2) ≤ w 1 ∧ lowB w i cur = true then some i else cur
theorem bst_fold : ∀ n, bstS w n = ((List.range n).filter (fun i => decide (w (105 + 3 * i) = nI 7))).foldl (bstF w) none
  | 0 => rfl
  | n + 1 => by
    rw [List.range_succ, List.filter_append, List.foldl_append, ← bst_fold n]
    show (if w (105 + 3 * n) = nI 7 ∧ w (105 + 3 * n + 2) ≤ w 1 ∧ lowB w n (bstS w n) = true then some n else bstS w n) = _
    by_cases q : w (105 + 3 * n) = nI 7
    · rw [List.filter_cons_of_pos (by simp [q])]
      show _ = bstF w (bstS w n) n
      unfold bstF
      by_cases q2 : w (105 + 3 * n + 2) ≤ w 1 ∧ lowB w n (bstS w n) = true
      · rw [if_pos ⟨q, q2⟩, if_pos q2]
      · rw [if_neg (fun z => q2 z.2), if_neg q2]
    · rw [if_neg (fun z => q z.1), List.filter_cons_of_neg (by simp [q])]
      rfl
theorem h_asks (hN : 20000 ≤ N) (H : HouR h t p w dl) (W0 : WFc w) : Wd (g_X12_asks N t h) (fun v h' => v = hndS w ∧ h' = h) := by
  have s := W0.lzs
  have hl : (hnL w).length ≤ 16 := Nat.le_trans (List.length_filter_le _ _) (by rw [List.length_range]; exact s)
  have e0 : hndS w = hndV w ((hnL w).foldl (bstF w) none) := by
    unfold hndS
    rw [bst_fold]
    rfl
  obtain ⟨⟨rs, r1, -⟩, -⟩ := id H.han
  unfold g_X12_asks
  refine wd_bo (hs_han H) (wd_bo (e_aN r1) ?_)
  refine wd_jt (fun n a h' => ∃ j, j ≤ (hnL w).length ∧ n = (hnL w).length - j ∧ a = (hndV w (((hnL w).take j).foldl (bstF w) none), frmV w (((hnL w).take j).foldl (bstF w) none), nI j) ∧ h' = h) ?_ N (hnL w).length _ _ (by omega) ⟨0, by omega, rfl, rfl, rfl⟩
  rintro n X a h1 ⟨j, hj, rfl, rfl, rfl⟩ hX
  unfold g_X12_asks_L16
  dsimp only
  refine wd_ite (fun q => ?_) (fun q => ?_)
  · have q := (nI_leI (a := (hnL w).length) (b := j) (by omega) (by omega)).mp q
    have : j = (hnL w).length := by omega
    subst this
    exact wd_ret ⟨by rw [e0, List.take_length], rfl⟩
  · have q : ¬ (hnL w).length ≤ j := fun z => q ((nI_leI (by omega) (by omega)).mpr z)
    have hlt : j < (hnL w).length := by omega
    have hi := hnL_mem hlt
    have ek : (hnL w).take (j + 1) = (hnL w).take j ++ [(hnL w).getD j 0] := by
      rw [List.take_succ, List.getD_eq_getElem?_getD, List.getElem?_eq_getElem hlt]
      rfl
    have e1 := rw_Q H.han hlt (by omega)
    have e2 := rw_A (c := 1) H.han hlt (by decide) (by decide)
    have e3 := rw_A (c := 0) H.han hlt (by decide) (by decide)
    generalize hcur : ((hnL w).take j).foldl (bstF w) none = cur at *
    generalize hii : (hnL w).getD j 0 = ii at *
    have hnx : ((hnL w).take (j + 1)).foldl (bstF w) none = bstF w cur ii := by
      rw [ek, List.foldl_append, hcur]
      rfl
    have hX' := hX ((hnL w).length - (j + 1)) (hndV w (bstF w cur ii), frmV w (bstF w cur ii), nI j + 1) h1 (by omega) ⟨j + 1, by omega, rfl, by rw [hnx, nI_1], rfl⟩
    obtain ⟨fr, f1, f2⟩ := (W0.2.2.2.2.2.2.2.2.2.2.2.2.1 ii hi).2
    refine wd_bo e1 (wd_bo e2 (wd_bo (hs_I H (by decide) (by decide)) ?_))
    rw [H.int.2.2.1]
    have skip : ¬ (w (105 + 3 * ii + 2) ≤ w 1 ∧ lowB w ii cur = true) → Wd (X (hndV w cur, frmV w cur, nI j + 1) h1) (fun v h' => v = hndS w ∧ h' = h1) := fun z => by
      have eb : bstF w cur ii = cur := if_neg z
      rw [eb] at hX'
      exact hX'
    refine wd_ite (fun q1 => skip (fun z => absurd z.1 (Int32.not_le.mpr q1))) (fun q1 => ?_)
    refine wd_bo e2 ?_
    have hlo : lowB w ii cur = true ↔ ¬ w (105 + 3 * ii + 2) < frmV w cur := by
      cases cur with
      | none =>
        refine ⟨fun _ z => ?_, fun _ => rfl⟩
        have z2 : w (105 + 3 * ii + 2) < mo1 := z
        rw [f2] at z2
        have := Int32.lt_iff_toInt_lt.mp z2
        rw [nI_toInt (by omega), show mo1.toInt = -1 from by decide] at this
        omega
      | some bb =>
        show decide _ = true ↔ ¬ w (105 + 3 * ii + 2) < w (105 + 3 * bb + 2)
        rw [decide_eq_true_eq, Int32.not_lt]
    refine wd_ite (fun q2 => skip (fun z => (hlo.mp z.2) q2)) (fun q2 => ?_)
    refine wd_bo e2 (wd_bo e3 ?_)
    have eb : bstF w cur ii = some ii := if_pos ⟨Int32.not_lt.mp q1, hlo.mpr q2⟩
    rw [eb] at hX'
    exact hX'
end ASKS
