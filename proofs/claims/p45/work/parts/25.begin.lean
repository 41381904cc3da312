/-! changes of single places; hands; what comes with doing a DEED -/
def ownF (i : Nat) : Bool := i = 37 || i = 38 || i = 6 || (41 ≤ i && i ≤ 44) || i = 7 || i = 8 || (9 ≤ i && i < 21) || (45 ≤ i && i < 97) || (105 ≤ i && i < 223)
section UPS
variable {w w' : Arr} {LN : List Lin} {m m' : Mem} {N : Nat}
theorem WFc.cg6 (W0 : WFc w) (hw : ∀ i, ownF i = true → i ≠ 6 → w' i = w i) (h6 : isn (w' 6) 150) : WFc w' := by
  have s := W0.sml
  obtain ⟨s1, s2, s3, s4, s5, s6⟩ := s
  have e37 := hw 37 (by decide) (by decide)
  have e38 := hw 38 (by decide) (by decide)
  have e41 := hw 41 (by decide) (by decide)
  have e42 := hw 42 (by decide) (by decide)
  have e43 := hw 43 (by decide) (by decide)
  have e44 := hw 44 (by decide) (by decide)
  have e7 := hw 7 (by decide) (by decide)
  have e8 := hw 8 (by decide) (by decide)
  have ezh : zh w' = zh w := by unfold zh; rw [e37]
  have ezd : zd w' = zd w := by unfold zd; rw [e38]
  have ezs : zs w' = zs w := by unfold zs; rw [e41]
  have ezp : zp w' = zp w := by unfold zp; rw [e42]
  have ezq : zq w' = zq w := by unfold zq; rw [e44]
  obtain ⟨a1, a2, a3, a4, a5, a6, a7, a8, a9, b1, b2, b3, b4, b5, b6, b7⟩ := W0
  unfold WFc
  rw [ezh, ezd, ezs, ezp, ezq, e37, e38, e41, e42, e43, e44, e7, e8]
  refine ⟨a1, a2, h6, a4, a5, a6, a7, a8, a9, fun h hh => ?_, fun h hh h2 => ?_, fun d hd => ?_, fun i hi => ?_, fun i hi => ?_, fun v hv => ?_, fun i hi => ?_⟩
  · rw [hw (45 + h) (by simp [ownF]; omega) (by omega), hw (57 + h) (by simp [ownF]; omega) (by omega), hw (69 + h) (by simp [ownF]; omega) (by omega), hw (9 + h) (by simp [ownF]; omega) (by omega), hw (185 + h) (by simp [ownF]; omega) (by omega)]
    exact b1 h hh
  · rw [hw (185 + h) (by simp [ownF]; omega) (by omega)]
    exact b2 h hh h2
  · rw [hw (81 + d) (by simp [ownF]; omega) (by omega), hw (89 + d) (by simp [ownF]; omega) (by omega)]
    exact b3 d hd
  · rw [hw (105 + 3 * i) (by simp [ownF]; omega) (by omega), hw (105 + 3 * i + 1) (by simp [ownF]; omega) (by omega), hw (105 + 3 * i + 2) (by simp [ownF]; omega) (by omega)]
    exact b4 i hi
  · rw [hw (153 + 2 * i) (by simp [ownF]; omega) (by omega), hw (153 + 2 * i + 1) (by simp [ownF]; omega) (by omega)]
    exact b5 i hi
  · rw [hw (213 + v) (by simp [ownF]; omega) (by omega)]
    exact b6 v hv
  · rw [hw (197 + 2 * i) (by simp [ownF]; omega) (by omega), hw (197 + 2 * i + 1) (by simp [ownF]; omega) (by omega)]
    exact b7 i hi
theorem WFc.cg (W0 : WFc w) (hw : ∀ i, ownF i = true → w' i = w i) : WFc w' := W0.cg6 (fun i hi _ => hw i hi) (by rw [hw 6 (by decide)]; exact W0.2.2.1)
theorem WFc.up (W0 : WFc w) {i : Nat} {v : Int32} (hi : ownF i = false) : WFc (upd w i v) := W0.cg (fun j hj => ud_n (fun e => by rw [e, hi] at hj; cases hj))
theorem stAt.cg : ∀ {L : List Spt} {x : Nat}, stAt w x L → (∀ i, 887 ≤ i → w' i = w i) → stAt w' x L
  | [], _, _, _ => trivial
  | p :: r, x, h, hw => ⟨by rw [hw _ (by omega)]; exact h.1, by rw [hw _ (by omega)]; exact h.2.1, stAt.cg h.2.2 hw⟩
theorem lawW.cg (h : lawW w LN) (hw : ∀ i, (i = 40 ∨ 823 ≤ i) → w' i = w i) : lawW w' LN := by
  obtain ⟨h1, h2, h3⟩ := h
  refine ⟨by rw [hw 40 (Or.inl rfl)]; exact h1, h2, fun i l hl => ?_⟩
  obtain ⟨f, g1, g2, g3, g4, g5, g6, g7⟩ := h3 i l hl
  refine ⟨f, ?_, ?_, ?_, ?_, g5, g6.cg (fun i hi => hw i (Or.inr (by omega))), g7.cg (fun i hi => hw i (Or.inr (by omega)))⟩
  · rw [hw _ (Or.inr (by omega))]; exact g1
  · rw [hw _ (Or.inr (by omega))]; exact g2
  · rw [hw _ (Or.inr (by omega))]; exact g3
  · rw [hw _ (Or.inr (by omega))]; exact g4
theorem lawW.up (h : lawW w LN) {i : Nat} {v : Int32} (hi : i ≠ 40) (h2 : i < 823) : lawW (upd w i v) LN := h.cg (fun j hj => ud_n (by omega))
theorem HRep.hou_set {c : Nat} {v : Int32} (H : HRep 2 LN w m) (W0 : WFc w) (hc : c < 7) : HRep 2 LN (upd w (houI c) v) (mset m 8 c v) := by
  refine H.one (j0 := 5) W0.sml (by decide) (H.fx.out (by decide)) (fun k h1 h2 h3 h4 => mset_ne (by omega)) ⟨?_, fun c' hc' => ?_⟩ (fun j hj hne i hi => ud_n ?_)
  · rw [mset_ne (by decide)]; exact H.hou.1
  · show mset m 8 c v 8 c' = _
    by_cases e : c' = c
    · subst e
      rw [mset_at, ud_s]
    · have : houI c' ≠ houI c := by
        have q : ∀ c, c < 7 → ∀ c', c' < 7 → c' ≠ c → houI c' ≠ houI c := by decide
        exact q c hc c' hc' e
      rw [mset_j e, ud_n this]
      exact H.hou.2 c' hc'
  · rintro rfl
    have q : ∀ c, c < 7 → ∀ j ∈ cmps, j ≠ 5 → own j (houI c) = false := by decide
    rw [q c hc j hj hne] at hi
    cases hi
theorem hr_setHour {c : Nat} {v : Int32} (H : HRep 2 LN w m) (hc : c < 7) : f_X1_setHour N (nI c) v m = some (0, mset m 8 c v) := by
  unfold f_X1_setHour
  show bd (f_X9_put N 7 (nI 0) (nI c) v m) _ = _
  rw [e_put H.fx (show (7, 1, 7) ∈ tbs by decide) (n := 1) H.hou.1 (Nat.le_refl 1) (by decide) hc, bd_s]
  simp
def deeI (c : Nat) : Nat := if c = 0 then 81 else if c = 1 then 89 else if c = 2 then 97 else if c = 3 then 21 else 29
theorem HRep.dee_set {d c : Nat} {v : Int32} (H : HRep 2 LN w m) (W0 : WFc w) (hd : d < zd w) (hc : c < 5) : HRep 2 LN (upd w (deeI c + d) v) (mset m 6 (d * 5 + c) v) := by
  have l := W0.lzd
  have q : ∀ c, c < 5 → 21 ≤ deeI c ∧ deeI c ≤ 97 ∧ deeI c ≠ 37 ∧ deeI c ≠ 38 ∧ (deeI c + 7 < 37 ∨ 81 ≤ deeI c) := by decide
  have q := q c hc
  refine H.one (j0 := 3) W0.sml (by decide) (H.fx.out (by decide)) (fun k h1 h2 h3 h4 => mset_ne (by omega)) ⟨?_, fun d' hd' c' hc' => ?_⟩ (fun j hj hne i hi => ud_n ?_)
  · rw [mset_ne (by decide), ud_n (by omega)]; exact H.dee.1
  · have ez : zd (upd w (deeI c + d) v) = zd w := by unfold zd; rw [ud_n (by omega)]
    rw [ez] at hd'
    show mset m 6 (d * 5 + c) v 6 (d' * 5 + c') = _
    have ev : ∀ d c, deeV w d c = w ((if c = 0 then 81 else if c = 1 then 89 else if c = 2 then 97 else if c = 3 then 21 else 29) + d) := by
      intro d c
      unfold deeV
      repeat' split
      all_goals rfl
    have ev2 : ∀ (w : Arr) d c, deeV w d c = w (deeI c + d) := by
      intro w d c
      unfold deeV deeI
      repeat' split
      all_goals rfl
    rw [ev2]
    by_cases e : d' = d ∧ c' = c
    · obtain ⟨rfl, rfl⟩ := e
      rw [mset_at, ud_s]
    · have h1 : d' * 5 + c' ≠ d * 5 + c := by omega
      have h2 : deeI c' + d' ≠ deeI c + d := by
        have t : ∀ c, c < 5 → ∀ c', c' < 5 → c' ≠ c → deeI c' + 8 ≤ deeI c ∨ deeI c + 8 ≤ deeI c' := by decide
        by_cases z : c' = c
        · subst z; omega
        · have := t c hc c' hc' z
          omega
      rw [mset_j h1, ud_n h2, ← ev2 w]
      exact H.dee.2 d' hd' c' hc'
  · rintro rfl
    have hj' : j = 1 ∨ j = 3 ∨ j = 5 ∨ j = 7 ∨ j = 13 ∨ j = 15 ∨ j = 17 ∨ j = 19 ∨ j = 21 := by simpa [cmps] using hj
    rcases hj' with rfl | rfl | rfl | rfl | rfl | rfl | rfl | rfl | rfl
    all_goals simp [own] at hi
    all_goals omega
theorem hr_deePut {d c : Nat} {v : Int32} (H : HRep 2 LN w m) (W0 : WFc w) (hd : d < zd w) (hc : c < 5) : f_X9_put N 5 (nI d) (nI c) v m = some (0, mset m 6 (d * 5 + c) v) :=
  e_put H.fx (show (5, 8, 5) ∈ tbs by decide) (H.dee.1.trans W0.h38) W0.lzd hd hc
/-! hands of a set -/
def sumS (w : Arr) (set : Nat) : Nat → Nat
  | 0 => 0
  | h + 1 => sumS w set h + (if set.testBit h then nv (w (45 + h)) * cnt w h else 0)
theorem cnt_le (w : Arr) (h : Nat) : cnt w h ≤ 2 := by
  unfold cnt
  split <;> omega
theorem sumS_le (W0 : WFc w) {set n : Nat} (hn : n ≤ zh w) : sumS w set n ≤ 18 * n := by
  induction n with
  | zero => exact Nat.zero_le _
  | succ n ih =>
    have := ih (by omega)
    unfold sumS
    split
    · have h1 := (W0.hea (show n < zh w by omega)).1.le (by decide)
      have h2 := cnt_le w n
      have := Nat.mul_le_mul h1 h2
      omega
    · omega
theorem w_handsOf {set : Nat} (hN : 20000 ≤ N) (H : HRep 2 LN w m) (W0 : WFc w) (hset : set < 2 ^ 31) : f_X8_handsOf N (nI set) m = some (nI (sumS w set (zh w)), m) := by
  have l := W0.lzh
  refine Wp.toEq ?_
  unfold f_X8_handsOf
  refine wp_it2 (fun n a c m' => ∃ i, i ≤ zh w ∧ n = zh w - i ∧ a = nI (sumS w set i) ∧ c = nI i ∧ m' = m) ?_ N (zh w) _ _ _ (by omega) ⟨0, by omega, rfl, rfl, rfl, rfl⟩
  rintro n X a c m' ⟨i, hi, rfl, rfl, rfl, rfl⟩ hX
  unfold f_X8_handsOf_L4
  simp only [li_0, li_1, li_2, li_3, li_4, li_5, li_6, li_7, li_8, li_9, li_10, li_11, li_12, li_13, li_14, li_15, li_16, li_17, li_18, li_19, li_20, li_21, li_22, li_23, li_24, li_25, li_26, li_27, li_28, li_29, li_30, li_31, li_32, li_37, li_38, li_39, li_40, li_41, li_42, li_43, li_44, li_45, li_46, li_47, li_48, li_49, li_50, li_57, li_59, li_60, li_61, li_62, li_63, li_64, li_65, li_69, li_81, li_89, li_90, li_92, li_97, li_99, li_100, li_101, li_103, li_104, li_105, li_106, li_108, li_111, li_112, li_113, li_114, li_115, li_116, li_117, li_119, li_122, li_123, li_124, li_125, li_126, li_127, li_128, li_129, li_130, li_131, li_132, li_133, li_134, li_135, li_136, li_137, li_140, li_141, li_142, li_143, li_145, li_147, li_150, li_153, li_159, li_160, li_161, li_162, li_185, li_197, li_213, li_222, li_223, li_255, li_256, li_257, li_258, li_259, li_260, li_261, li_262, li_263, li_264, li_271, li_272, li_273, li_274, li_275, li_276, li_277, li_278, li_300, li_400, li_420, li_500, li_802, li_820, li_823, li_839, li_855, li_871, li_887, li_999, li_1000, li_1001, li_1002, li_1003, li_1004, li_1005, li_1006, li_1007, li_1008, li_1009, li_1010, li_1011, li_1012, li_1013, li_1014, li_1015, li_1016, li_1017, li_1018, li_1019, li_1020, li_1021, li_1022, li_1023, li_1707, li_4096, li_9999, li_65536, li_100000, li_1000000, li_1664525, li_100000000, li_252645135, li_858993459, li_1000000007, li_1013904223, li_1431655765, li_m1]
  rw [H.hea.1, W0.h37]
  refine wp_ite (fun q => ?_) (fun q => ?_)
  · rw [nI_leI (by omega) (by omega)] at q
    have : i = zh w := by omega
    subst this
    exact wp_ret ⟨rfl, rfl⟩
  · rw [nI_leI (by omega) (by omega)] at q
    rw [e_isInX _ (by omega) hset, bd_s]
    cases hb : set.testBit i with
    | false =>
      rw [if_pos (by decide), nI_up]
      exact hX (zh w - (i + 1)) _ _ _ (by omega) ⟨i + 1, by omega, rfl, by show _ = nI (_ + if _ then _ else _); rw [hb]; rfl, rfl, rfl⟩
    | true =>
      rw [if_neg (by decide), hr_hea H W0 (by omega) (by decide), bd_s, hr_hea H W0 (by omega) (by decide), bd_s, bnd_s, show heaV w i 0 = w (45 + i) from rfl, show heaV w i 7 = nI (cnt w i) from rfl,
        (W0.hea (show i < zh w by omega)).1.eq (by decide), pk_mul, nI_add, nI_up]
      exact hX (zh w - (i + 1)) _ _ _ (by omega) ⟨i + 1, by omega, rfl, by show _ = nI (_ + if _ then _ else _); rw [hb]; rfl, rfl, rfl⟩
theorem e_counts {h : Nat} (hN : 20000 ≤ N) (hm : m 124 = w) (W0 : WFc w) (hh : h < 12) : f_X12_countsAs N (nI h) m = some (nI (cnt w h), m) := by
  have s := W0.lzs
  refine Wp.toEq ?_
  unfold f_X12_countsAs
  refine wp_it1 (fun n c m' => ∃ i, i ≤ zs w ∧ n = zs w - i ∧ (∀ j, j < i → ¬ (w (105 + 3 * j) = nI 9 ∧ w (105 + 3 * j + 1) = nI h)) ∧ c = nI i ∧ m' = m) ?_ N (zs w) _ _ (by omega) ⟨0, by omega, rfl, fun j hj => absurd hj (by omega), rfl, rfl⟩
  rintro n X c m' ⟨i, hi, rfl, hno, rfl, rfl⟩ hX
  unfold f_X12_countsAs_L2
  simp only [li_0, li_1, li_2, li_3, li_4, li_5, li_6, li_7, li_8, li_9, li_10, li_11, li_12, li_13, li_14, li_15, li_16, li_17, li_18, li_19, li_20, li_21, li_22, li_23, li_24, li_25, li_26, li_27, li_28, li_29, li_30, li_31, li_32, li_37, li_38, li_39, li_40, li_41, li_42, li_43, li_44, li_45, li_46, li_47, li_48, li_49, li_50, li_57, li_59, li_60, li_61, li_62, li_63, li_64, li_65, li_69, li_81, li_89, li_90, li_92, li_97, li_99, li_100, li_101, li_103, li_104, li_105, li_106, li_108, li_111, li_112, li_113, li_114, li_115, li_116, li_117, li_119, li_122, li_123, li_124, li_125, li_126, li_127, li_128, li_129, li_130, li_131, li_132, li_133, li_134, li_135, li_136, li_137, li_140, li_141, li_142, li_143, li_145, li_147, li_150, li_153, li_159, li_160, li_161, li_162, li_185, li_197, li_213, li_222, li_223, li_255, li_256, li_257, li_258, li_259, li_260, li_261, li_262, li_263, li_264, li_271, li_272, li_273, li_274, li_275, li_276, li_277, li_278, li_300, li_400, li_420, li_500, li_802, li_820, li_823, li_839, li_855, li_871, li_887, li_999, li_1000, li_1001, li_1002, li_1003, li_1004, li_1005, li_1006, li_1007, li_1008, li_1009, li_1010, li_1011, li_1012, li_1013, li_1014, li_1015, li_1016, li_1017, li_1018, li_1019, li_1020, li_1021, li_1022, li_1023, li_1707, li_4096, li_9999, li_65536, li_100000, li_1000000, li_1664525, li_100000000, li_252645135, li_858993459, li_1000000007, li_1013904223, li_1431655765, li_m1, pk_mul, nI_add]
  rw [hm, W0.h41]
  refine wp_ite (fun q => ?_) (fun q => ?_)
  · rw [nI_leI (by omega) (by omega)] at q
    have : i = zs w := by omega
    subst this
    refine wp_ret ⟨?_, rfl⟩
    unfold cnt
    rw [if_neg]
    rw [List.any_eq_true]
    rintro ⟨j, hj, hq⟩
    rw [Bool.and_eq_true, decide_eq_true_iff, decide_eq_true_iff] at hq
    exact hno j (List.mem_range.mp hj) hq
  · rw [nI_leI (by omega) (by omega)] at q
    rw [inb_nI (by omega) (by omega), chk_t, nI_clamp (by omega), inb_nI (by omega) (by omega), chk_t, nI_clamp (by omega)]
    have stay : ∀ (hn : ¬ (w (105 + 3 * i) = nI 9 ∧ w (105 + 3 * i + 1) = nI h)), Wp (X (nI (i + 1)) m') (fun v m'' => v = nI (cnt w h) ∧ m'' = m') := by
      intro hn
      refine hX (zs w - (i + 1)) _ _ (by omega) ⟨i + 1, by omega, rfl, fun j hj => ?_, rfl, rfl⟩
      by_cases e : j = i
      · subst e; exact hn
      · exact hno j (by omega)
    refine wp_ite (fun q2 => ?_) (fun q2 => ?_)
    · refine wp_ite (fun q3 => ?_) (fun q3 => ?_)
      · refine wp_ret ⟨?_, rfl⟩
        unfold cnt
        rw [if_pos]
        rw [List.any_eq_true]
        exact ⟨i, List.mem_range.mpr (by omega), by rw [decide_eq_true q2, decide_eq_true q3]; rfl⟩
      · exact stay (fun z => q3 z.2)
    · exact stay (fun z => q2 z.1)
theorem w_handsM {set : Nat} (hN : 20000 ≤ N) (hm : m 124 = w) (W0 : WFc w) (h28 : m 123 28 = nI set) (hset : set < 2 ^ 31) : f_X12_handsClapping N m = some (nI (sumS w set (zh w)), m) := by
  have l := W0.lzh
  refine Wp.toEq ?_
  unfold f_X12_handsClapping
  refine wp_it2 (fun n a c m' => ∃ i, i ≤ zh w ∧ n = zh w - i ∧ a = nI (sumS w set i) ∧ c = nI i ∧ m' = m) ?_ N (zh w) _ _ _ (by omega) ⟨0, by omega, rfl, rfl, rfl, rfl⟩
  rintro n X a c m' ⟨i, hi, rfl, rfl, rfl, rfl⟩ hX
  unfold f_X12_handsClapping_L4
  simp only [li_0, li_1, li_2, li_3, li_4, li_5, li_6, li_7, li_8, li_9, li_10, li_11, li_12, li_13, li_14, li_15, li_16, li_17, li_18, li_19, li_20, li_21, li_22, li_23, li_24, li_25, li_26, li_27, li_28, li_29, li_30, li_31, li_32, li_37, li_38, li_39, li_40, li_41, li_42, li_43, li_44, li_45, li_46, li_47, li_48, li_49, li_50, li_57, li_59, li_60, li_61, li_62, li_63, li_64, li_65, li_69, li_81, li_89, li_90, li_92, li_97, li_99, li_100, li_101, li_103, li_104, li_105, li_106, li_108, li_111, li_112, li_113, li_114, li_115, li_116, li_117, li_119, li_122, li_123, li_124, li_125, li_126, li_127, li_128, li_129, li_130, li_131, li_132, li_133, li_134, li_135, li_136, li_137, li_140, li_141, li_142, li_143, li_145, li_147, li_150, li_153, li_159, li_160, li_161, li_162, li_185, li_197, li_213, li_222, li_223, li_255, li_256, li_257, li_258, li_259, li_260, li_261, li_262, li_263, li_264, li_271, li_272, li_273, li_274, li_275, li_276, li_277, li_278, li_300, li_400, li_420, li_500, li_802, li_820, li_823, li_839, li_855, li_871, li_887, li_999, li_1000, li_1001, li_1002, li_1003, li_1004, li_1005, li_1006, li_1007, li_1008, li_1009, li_1010, li_1011, li_1012, li_1013, li_1014, li_1015, li_1016, li_1017, li_1018, li_1019, li_1020, li_1021, li_1022, li_1023, li_1707, li_4096, li_9999, li_65536, li_100000, li_1000000, li_1664525, li_100000000, li_252645135, li_858993459, li_1000000007, li_1013904223, li_1431655765, li_m1, nI_add]
  rw [hm, W0.h37, h28]
  refine wp_ite (fun q => ?_) (fun q => ?_)
  · rw [nI_leI (by omega) (by omega)] at q
    have : i = zh w := by omega
    subst this
    exact wp_ret ⟨rfl, rfl⟩
  · rw [nI_leI (by omega) (by omega)] at q
    refine wp_ite (fun q2 => ?_) (fun q2 => ?_)
    · have hb := (nz_bit hset (by omega)).mp q2
      rw [inb_nI (by omega) (by omega), chk_t, nI_clamp (by omega), e_counts hN hm W0 (by omega), bd_s, bnd_s, (W0.hea (show i < zh w by omega)).1.eq (by decide), pk_mul, nI_add]
      exact hX (zh w - (i + 1)) _ _ _ (by omega) ⟨i + 1, by omega, rfl, by show _ = nI (_ + if _ then _ else _); rw [hb]; rfl, rfl, rfl⟩
    · have hb : set.testBit i = false := by
        cases h : set.testBit i with
        | false => rfl
        | true => exact absurd ((nz_bit hset (by omega)).mpr h) q2
      rw [bnd_s]
      exact hX (zh w - (i + 1)) _ _ _ (by omega) ⟨i + 1, by omega, rfl, by show _ = nI (_ + if _ then _ else _); rw [hb]; rfl, rfl, rfl⟩
/-! what comes with doing it -/
def againS (w : Arr) (d : Nat) : Int32 := if w 3 = nI d then w 4 + nI 1 else nI 0
def b99 (x : Int32) : Int32 := if x < nI 99 then x else nI 99
def begS (LN : List Lin) (w : Arr) (d : Nat) : Arr :=
  upd (upd (upd (upd (upd (upd w 4 (againS w d)) 3 (nI d)) 0 (w 0 + w (89 + d))) 2 (w 2 - w (97 + d))) (29 + d) (w (29 + d) + nI 1)) (21 + d) (b99 (w (21 + d) + nI (wearS LN (upd w 4 (againS w d)) d)))
theorem facD_cg {d : Nat} (h1 : w' (81 + d) = w (81 + d)) (h2 : w' (21 + d) = w (21 + d)) (h3 : w' 4 = w 4) (h4 : w' 0 = w 0) : facD w' d = facD w d := by
  funext k
  unfold facD
  rw [h1, h2, h3, h4]
theorem begS_o {d i : Nat} (h : i ≠ 4 ∧ i ≠ 3 ∧ i ≠ 0 ∧ i ≠ 2 ∧ i ≠ 29 + d ∧ i ≠ 21 + d) : begS LN w d i = w i := by
  unfold begS
  rw [ud_n h.2.2.2.2.2, ud_n h.2.2.2.2.1, ud_n h.2.2.2.1, ud_n h.2.2.1, ud_n h.2.1, ud_n h.1]
theorem WFc.beg (W0 : WFc w) {d : Nat} (hd : d < zd w) : WFc (begS LN w d) := by
  have l := W0.lzd
  refine W0.cg (fun i hi => begS_o ?_)
  refine ⟨?_, ?_, ?_, ?_, ?_, ?_⟩ <;> rintro rfl <;> simp [ownF] at hi <;> omega
theorem lawW.beg (h : lawW w LN) {d : Nat} (hd : d < 8) : lawW (begS LN w d) LN := h.cg (fun i hi => begS_o (by omega))
theorem begS_0 {d : Nat} : begS LN w d 0 = w 0 + w (89 + d) := by
  unfold begS
  rw [ud_n (by omega), ud_n (by omega), ud_n (by omega), ud_s]
theorem begS_4 {d : Nat} : begS LN w d 4 = againS w d := by
  unfold begS
  rw [ud_n (by omega), ud_n (by omega), ud_n (by omega), ud_n (by omega), ud_n (by omega), ud_s]
theorem begS_3 {d : Nat} : begS LN w d 3 = nI d := by
  unfold begS
  rw [ud_n (by omega), ud_n (by omega), ud_n (by omega), ud_n (by omega), ud_s]
theorem WFm.beg {B d : Nat} (h : WFm B w) (hB : B < 100000) (W0 : WFc w) (hd : d < zd w) : WFm (B + 60) (begS LN w d) := by
  obtain ⟨a, b, h0, h4, hba, haB⟩ := h
  obtain ⟨k, k1, k2, e⟩ := (W0.dee hd).2
  unfold WFm
  rw [begS_0, begS_4, h0, e, nI_add]
  unfold againS
  split
  · exact ⟨a + k, b + 1, rfl, by rw [h4, nI_up], by omega, by omega⟩
  · exact ⟨a + k, 0, rfl, rfl, by omega, by omega⟩
theorem w_begin {d : Nat} (hN : 20000 ≤ N) (H : HRep 2 LN w m) (W0 : WFc w) (hd : d < zd w) : Wp (f_X8_begin N (nI d) m) (fun _ m' => HRep 2 LN (begS LN w d) m' ∧ Fr [(6, 6), (8, 8), (111, 112)] m m') := by
  have l := W0.lzd
  unfold f_X8_begin
  simp only [li_0, li_1, li_2, li_3, li_4, li_5, li_6, li_7, li_8, li_9, li_10, li_11, li_12, li_13, li_14, li_15, li_16, li_17, li_18, li_19, li_20, li_21, li_22, li_23, li_24, li_25, li_26, li_27, li_28, li_29, li_30, li_31, li_32, li_37, li_38, li_39, li_40, li_41, li_42, li_43, li_44, li_45, li_46, li_47, li_48, li_49, li_50, li_57, li_59, li_60, li_61, li_62, li_63, li_64, li_65, li_69, li_81, li_89, li_90, li_92, li_97, li_99, li_100, li_101, li_103, li_104, li_105, li_106, li_108, li_111, li_112, li_113, li_114, li_115, li_116, li_117, li_119, li_122, li_123, li_124, li_125, li_126, li_127, li_128, li_129, li_130, li_131, li_132, li_133, li_134, li_135, li_136, li_137, li_140, li_141, li_142, li_143, li_145, li_147, li_150, li_153, li_159, li_160, li_161, li_162, li_185, li_197, li_213, li_222, li_223, li_255, li_256, li_257, li_258, li_259, li_260, li_261, li_262, li_263, li_264, li_271, li_272, li_273, li_274, li_275, li_276, li_277, li_278, li_300, li_400, li_420, li_500, li_802, li_820, li_823, li_839, li_855, li_871, li_887, li_999, li_1000, li_1001, li_1002, li_1003, li_1004, li_1005, li_1006, li_1007, li_1008, li_1009, li_1010, li_1011, li_1012, li_1013, li_1014, li_1015, li_1016, li_1017, li_1018, li_1019, li_1020, li_1021, li_1022, li_1023, li_1707, li_4096, li_9999, li_65536, li_100000, li_1000000, li_1664525, li_100000000, li_252645135, li_858993459, li_1000000007, li_1013904223, li_1431655765, li_m1]
  have key : Wp (f_X8_begin_J31 N (nI d) (againS w d) (nI 5) m) (fun _ m' => HRep 2 LN (begS LN w d) m' ∧ Fr [(6, 6), (8, 8), (111, 112)] m m') := by
    unfold f_X8_begin_J31
    simp only [li_0, li_1, li_2, li_3, li_4, li_5, li_6, li_7, li_8, li_9, li_10, li_11, li_12, li_13, li_14, li_15, li_16, li_17, li_18, li_19, li_20, li_21, li_22, li_23, li_24, li_25, li_26, li_27, li_28, li_29, li_30, li_31, li_32, li_37, li_38, li_39, li_40, li_41, li_42, li_43, li_44, li_45, li_46, li_47, li_48, li_49, li_50, li_57, li_59, li_60, li_61, li_62, li_63, li_64, li_65, li_69, li_81, li_89, li_90, li_92, li_97, li_99, li_100, li_101, li_103, li_104, li_105, li_106, li_108, li_111, li_112, li_113, li_114, li_115, li_116, li_117, li_119, li_122, li_123, li_124, li_125, li_126, li_127, li_128, li_129, li_130, li_131, li_132, li_133, li_134, li_135, li_136, li_137, li_140, li_141, li_142, li_143, li_145, li_147, li_150, li_153, li_159, li_160, li_161, li_162, li_185, li_197, li_213, li_222, li_223, li_255, li_256, li_257, li_258, li_259, li_260, li_261, li_262, li_263, li_264, li_271, li_272, li_273, li_274, li_275, li_276, li_277, li_278, li_300, li_400, li_420, li_500, li_802, li_820, li_823, li_839, li_855, li_871, li_887, li_999, li_1000, li_1001, li_1002, li_1003, li_1004, li_1005, li_1006, li_1007, li_1008, li_1009, li_1010, li_1011, li_1012, li_1013, li_1014, li_1015, li_1016, li_1017, li_1018, li_1019, li_1020, li_1021, li_1022, li_1023, li_1707, li_4096, li_9999, li_65536, li_100000, li_1000000, li_1664525, li_100000000, li_252645135, li_858993459, li_1000000007, li_1013904223, li_1431655765, li_m1]
    have H1 := H.hou_set (c := 5) (v := againS w d) W0 (by decide)
    have W1 : WFc (upd w (houI 5) (againS w d)) := W0.up (by decide)
    have f1 : Fr [(6, 6), (8, 8), (111, 112)] m (mset m 8 5 (againS w d)) := Fr.set Fr.rf (by decide)
    have z1 : zd (upd w (houI 5) (againS w d)) = zd w := by unfold zd; rw [ud_n (by decide)]
    rw [hr_setHour H (by decide), bd_s]
    refine wp_bind (w_wears hN H1 W1 (by rw [z1]; exact hd)) ?_
    rintro v m2 ⟨rfl, h2⟩
    have H2 := H1.fr W1.sml h2 (by decide +kernel)
    have f2 := f1.trans (h2.mono (by decide))
    rw [hr_setHour H2 (by decide), bd_s]
    have H3 := H2.hou_set (c := 4) (v := nI d) W1 (by decide)
    have W3 : WFc (upd (upd w (houI 5) (againS w d)) (houI 4) (nI d)) := W1.up (by decide)
    have f3 : Fr [(6, 6), (8, 8), (111, 112)] m (mset m2 8 4 (nI d)) := Fr.set f2 (by decide)
    have z3 : zd (upd (upd w (houI 5) (againS w d)) (houI 4) (nI d)) = zd w := by unfold zd; rw [ud_n (by decide), ud_n (by decide)]
    rw [hr_hour H3 (by decide), bd_s, hr_dee H3 W3 (by rw [z3]; exact hd) (by decide), bd_s, hr_setHour H3 (by decide), bd_s]
    have e0 : upd (upd w (houI 5) (againS w d)) (houI 4) (nI d) (houI 0) + deeV (upd (upd w (houI 5) (againS w d)) (houI 4) (nI d)) d 1 = w 0 + w (89 + d) := by
      show upd (upd w 4 _) 3 _ 0 + upd (upd w 4 _) 3 _ (89 + d) = _
      rw [ud_n (by omega), ud_n (by omega), ud_n (by omega), ud_n (by omega)]
    rw [e0]
    have H4 := H3.hou_set (c := 0) (v := w 0 + w (89 + d)) W3 (by decide)
    have W4 : WFc (upd (upd (upd w (houI 5) (againS w d)) (houI 4) (nI d)) (houI 0) (w 0 + w (89 + d))) := W3.up (by decide)
    have f4 : Fr [(6, 6), (8, 8), (111, 112)] m (mset (mset m2 8 4 (nI d)) 8 0 (w 0 + w (89 + d))) := Fr.set f3 (by decide)
    have z4 : zd (upd (upd (upd w (houI 5) (againS w d)) (houI 4) (nI d)) (houI 0) (w 0 + w (89 + d))) = zd w := by unfold zd; rw [ud_n (by decide), ud_n (by decide), ud_n (by decide)]
    rw [hr_hour H4 (by decide), bd_s, hr_dee H4 W4 (by rw [z4]; exact hd) (by decide), bd_s, hr_setHour H4 (by decide), bd_s]
    have e2 : upd (upd (upd w (houI 5) (againS w d)) (houI 4) (nI d)) (houI 0) (w 0 + w (89 + d)) (houI 2) - deeV (upd (upd (upd w (houI 5) (againS w d)) (houI 4) (nI d)) (houI 0) (w 0 + w (89 + d))) d 2 = w 2 - w (97 + d) := by
      show upd (upd (upd w 4 _) 3 _) 0 _ 2 - upd (upd (upd w 4 _) 3 _) 0 _ (97 + d) = _
      rw [ud_n (by omega), ud_n (by omega), ud_n (by omega), ud_n (by omega), ud_n (by omega), ud_n (by omega)]
    rw [e2]
    have H5 := H4.hou_set (c := 2) (v := w 2 - w (97 + d)) W4 (by decide)
    have W5 : WFc (upd (upd (upd (upd w (houI 5) (againS w d)) (houI 4) (nI d)) (houI 0) (w 0 + w (89 + d))) (houI 2) (w 2 - w (97 + d))) := W4.up (by decide)
    have f5 : Fr [(6, 6), (8, 8), (111, 112)] m (mset (mset (mset m2 8 4 (nI d)) 8 0 (w 0 + w (89 + d))) 8 2 (w 2 - w (97 + d))) := Fr.set f4 (by decide)
    generalize hm5 : mset (mset (mset m2 8 4 (nI d)) 8 0 (w 0 + w (89 + d))) 8 2 (w 2 - w (97 + d)) = m5 at H5 f5 ⊢
    have z5 : zd (upd (upd (upd (upd w (houI 5) (againS w d)) (houI 4) (nI d)) (houI 0) (w 0 + w (89 + d))) (houI 2) (w 2 - w (97 + d))) = zd w := by unfold zd; rw [ud_n (by decide), ud_n (by decide), ud_n (by decide), ud_n (by decide)]
    rw [hr_dee H5 W5 (by rw [z5]; exact hd) (by decide), bd_s, hr_deePut H5 W5 (by rw [z5]; exact hd) (by decide), bd_s]
    have e4 : deeV (upd (upd (upd (upd w (houI 5) (againS w d)) (houI 4) (nI d)) (houI 0) (w 0 + w (89 + d))) (houI 2) (w 2 - w (97 + d))) d 4 = w (29 + d) := by
      show upd (upd (upd (upd w 4 _) 3 _) 0 _) 2 _ (29 + d) = _
      rw [ud_n (by omega), ud_n (by omega), ud_n (by omega), ud_n (by omega)]
    rw [e4]
    have H6 := H5.dee_set (d := d) (c := 4) (v := w (29 + d) + nI 1) W5 (by rw [z5]; exact hd) (by decide)
    have W6 : WFc (upd (upd (upd (upd (upd w (houI 5) (againS w d)) (houI 4) (nI d)) (houI 0) (w 0 + w (89 + d))) (houI 2) (w 2 - w (97 + d))) (deeI 4 + d) (w (29 + d) + nI 1)) := W5.up (by show ownF (29 + d) = false; simp [ownF]; omega)
    have f6 : Fr [(6, 6), (8, 8), (111, 112)] m (mset m5 6 (d * 5 + 4) (w (29 + d) + nI 1)) := Fr.set f5 (by decide)
    have z6 : zd (upd (upd (upd (upd (upd w (houI 5) (againS w d)) (houI 4) (nI d)) (houI 0) (w 0 + w (89 + d))) (houI 2) (w 2 - w (97 + d))) (deeI 4 + d) (w (29 + d) + nI 1)) = zd w := by
      unfold zd
      rw [ud_n (by show 38 ≠ 29 + d; omega)]
      exact z5
    rw [hr_dee H6 W6 (by rw [z6]; exact hd) (by decide), bd_s, hr_deePut H6 W6 (by rw [z6]; exact hd) (by decide), bd_s]
    have e3 : deeV (upd (upd (upd (upd (upd w (houI 5) (againS w d)) (houI 4) (nI d)) (houI 0) (w 0 + w (89 + d))) (houI 2) (w 2 - w (97 + d))) (deeI 4 + d) (w (29 + d) + nI 1)) d 3 = w (21 + d) := by
      show upd (upd (upd (upd (upd w 4 _) 3 _) 0 _) 2 _) (29 + d) _ (21 + d) = _
      rw [ud_n (by omega), ud_n (by omega), ud_n (by omega), ud_n (by omega), ud_n (by omega)]
    rw [e3]
    have H7 := H6.dee_set (d := d) (c := 3) (v := b99 (w (21 + d) + nI (wearS LN (upd w (houI 5) (againS w d)) d))) W6 (by rw [z6]; exact hd) (by decide)
    exact wp_ret ⟨H7, Fr.set f6 (by decide)⟩
  rw [hr_hour H (by decide), bd_s]
  refine wp_ite (fun q => ?_) (fun q => ?_)
  · rw [hr_hour H (by decide), bd_s]
    have : againS w d = w (houI 5) + nI 1 := by
      unfold againS
      rw [if_pos (show w 3 = nI d from q)]; rfl
    rw [← this]
    exact key
  · have : againS w d = nI 0 := by
      unfold againS
      rw [if_neg (show ¬ w 3 = nI d from q)]
    rw [← this]
    exact key
theorem w_beginM {d : Nat} (hN : 20000 ≤ N) (hm : m 124 = w) (hd : d < 8) (hw : lawW w LN) (ho : lawOk LN) : Wp (f_X12_begins0 N (nI d) m) (fun _ m' => m' 124 = begS LN w d ∧ Fr [(124, 124), (132, 133)] m m') := by
  unfold f_X12_begins0
  simp only [li_0, li_1, li_2, li_3, li_4, li_5, li_6, li_7, li_8, li_9, li_10, li_11, li_12, li_13, li_14, li_15, li_16, li_17, li_18, li_19, li_20, li_21, li_22, li_23, li_24, li_25, li_26, li_27, li_28, li_29, li_30, li_31, li_32, li_37, li_38, li_39, li_40, li_41, li_42, li_43, li_44, li_45, li_46, li_47, li_48, li_49, li_50, li_57, li_59, li_60, li_61, li_62, li_63, li_64, li_65, li_69, li_81, li_89, li_90, li_92, li_97, li_99, li_100, li_101, li_103, li_104, li_105, li_106, li_108, li_111, li_112, li_113, li_114, li_115, li_116, li_117, li_119, li_122, li_123, li_124, li_125, li_126, li_127, li_128, li_129, li_130, li_131, li_132, li_133, li_134, li_135, li_136, li_137, li_140, li_141, li_142, li_143, li_145, li_147, li_150, li_153, li_159, li_160, li_161, li_162, li_185, li_197, li_213, li_222, li_223, li_255, li_256, li_257, li_258, li_259, li_260, li_261, li_262, li_263, li_264, li_271, li_272, li_273, li_274, li_275, li_276, li_277, li_278, li_300, li_400, li_420, li_500, li_802, li_820, li_823, li_839, li_855, li_871, li_887, li_999, li_1000, li_1001, li_1002, li_1003, li_1004, li_1005, li_1006, li_1007, li_1008, li_1009, li_1010, li_1011, li_1012, li_1013, li_1014, li_1015, li_1016, li_1017, li_1018, li_1019, li_1020, li_1021, li_1022, li_1023, li_1707, li_4096, li_9999, li_65536, li_100000, li_1000000, li_1664525, li_100000000, li_252645135, li_858993459, li_1000000007, li_1013904223, li_1431655765, li_m1]
  have key : Wp (f_X12_begins0_J27 N (nI d) (againS w d) (nI 4) m) (fun _ m' => m' 124 = begS LN w d ∧ Fr [(124, 124), (132, 133)] m m') := by
    unfold f_X12_begins0_J27
    simp only [li_0, li_1, li_2, li_3, li_4, li_5, li_6, li_7, li_8, li_9, li_10, li_11, li_12, li_13, li_14, li_15, li_16, li_17, li_18, li_19, li_20, li_21, li_22, li_23, li_24, li_25, li_26, li_27, li_28, li_29, li_30, li_31, li_32, li_37, li_38, li_39, li_40, li_41, li_42, li_43, li_44, li_45, li_46, li_47, li_48, li_49, li_50, li_57, li_59, li_60, li_61, li_62, li_63, li_64, li_65, li_69, li_81, li_89, li_90, li_92, li_97, li_99, li_100, li_101, li_103, li_104, li_105, li_106, li_108, li_111, li_112, li_113, li_114, li_115, li_116, li_117, li_119, li_122, li_123, li_124, li_125, li_126, li_127, li_128, li_129, li_130, li_131, li_132, li_133, li_134, li_135, li_136, li_137, li_140, li_141, li_142, li_143, li_145, li_147, li_150, li_153, li_159, li_160, li_161, li_162, li_185, li_197, li_213, li_222, li_223, li_255, li_256, li_257, li_258, li_259, li_260, li_261, li_262, li_263, li_264, li_271, li_272, li_273, li_274, li_275, li_276, li_277, li_278, li_300, li_400, li_420, li_500, li_802, li_820, li_823, li_839, li_855, li_871, li_887, li_999, li_1000, li_1001, li_1002, li_1003, li_1004, li_1005, li_1006, li_1007, li_1008, li_1009, li_1010, li_1011, li_1012, li_1013, li_1014, li_1015, li_1016, li_1017, li_1018, li_1019, li_1020, li_1021, li_1022, li_1023, li_1707, li_4096, li_9999, li_65536, li_100000, li_1000000, li_1664525, li_100000000, li_252645135, li_858993459, li_1000000007, li_1013904223, li_1431655765, li_m1, nI_add]
    rw [inb_nI (by decide) (by decide), chk_t, nI_clamp (by decide), bnd_s, bnd_s]
    have e1 : mset (mset m 124 4 (againS w d)) 124 3 (nI d) 124 = upd (upd w 4 (againS w d)) 3 (nI d) := by rw [mset_eq, mset_eq, hm]
    have f1 : Fr [(124, 124), (132, 133)] m (mset (mset m 124 4 (againS w d)) 124 3 (nI d)) := Fr.set (Fr.set Fr.rf (by decide)) (by decide)
    refine wp_bind (w_wearsM hN e1 hd ((hw.up (by decide) (by decide)).up (by decide) (by decide)) ho) ?_
    rintro v m2 ⟨rfl, h2⟩
    have e2 : m2 124 = upd (upd w 4 (againS w d)) 3 (nI d) := by rw [h2.at 124 (by decide)]; exact e1
    have ew : wearS LN (upd (upd w 4 (againS w d)) 3 (nI d)) d = wearS LN (upd w 4 (againS w d)) d := by
      unfold wearS
      rw [facD_cg (w := upd w 4 (againS w d)) (ud_n (by omega)) (ud_n (by omega)) (ud_n (by omega)) (ud_n (by omega))]
    rw [ew, inb_nI (by omega) (by omega), chk_t, nI_clamp (by omega), bnd_s, inb_nI (by omega) (by omega), chk_t, nI_clamp (by omega), bnd_s, inb_nI (by omega) (by omega), chk_t, chk_t, nI_clamp (by omega), bnd_s, inb_nI (by omega) (by omega), chk_t, nI_clamp (by omega), e_lesser, bd_s, chk_t, bnd_s]
    simp only [mset_eq, e2]
    refine wp_ret ⟨?_, Fr.set (Fr.set (Fr.set (Fr.set (f1.trans (h2.mono (by decide))) (by decide)) (by decide)) (by decide)) (by decide)⟩
    rw [mset_eq, mset_eq, mset_eq, mset_eq, e2]
    unfold begS b99
    rw [ud_n (show 0 ≠ 3 by decide), ud_n (show 0 ≠ 4 by decide), ud_n (show 89 + d ≠ 3 by omega), ud_n (show 89 + d ≠ 4 by omega), ud_n (show 2 ≠ 0 by decide), ud_n (show 2 ≠ 3 by decide), ud_n (show 2 ≠ 4 by decide),
      ud_n (show 97 + d ≠ 0 by omega), ud_n (show 97 + d ≠ 3 by omega), ud_n (show 97 + d ≠ 4 by omega), ud_n (show 29 + d ≠ 2 by omega), ud_n (show 29 + d ≠ 0 by omega), ud_n (show 29 + d ≠ 3 by omega), ud_n (show 29 + d ≠ 4 by omega),
      ud_n (show 21 + d ≠ 29 + d by omega), ud_n (show 21 + d ≠ 2 by omega), ud_n (show 21 + d ≠ 0 by omega), ud_n (show 21 + d ≠ 3 by omega), ud_n (show 21 + d ≠ 4 by omega)]
  rw [hm]
  refine wp_ite (fun q => ?_) (fun q => ?_)
  · have : againS w d = w 4 + nI 1 := by
      unfold againS
      rw [if_pos q]
    rw [← this]
    exact key
  · have : againS w d = nI 0 := by
      unfold againS
      rw [if_neg q]
    rw [← this]
    exact key
end UPS
