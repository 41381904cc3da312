/-! thoughts: how an evening goes, how clapping settles -/
section THINK
variable {w w' v0 : Arr} {LN : List Lin} {m m' m2 : Mem} {N d : Nat}
theorem cgS_f : cgS LN false w d = false := by
  unfold cgS cghB
  rw [Bool.false_and, Bool.false_and]
theorem oneS_f : oneS LN false w d = begS LN w d := by
  unfold oneS
  rw [if_neg (by decide)]
  unfold w4S
  rw [if_neg (by rw [cgS_f]; decide)]
  unfold w3S cghW
  rw [Bool.false_and, if_neg (by decide)]
  unfold w2S dwS
  rw [if_neg (by decide)]
theorem dosS_f {i : Nat} (hd : d < 8) (hi : 37 ≤ i) : ∀ (k : Nat) (w : Arr) (n : Nat), (dosS LN false d k w n).1 i = w i
  | 0, w, n => rfl
  | k + 1, w, n => by
    have e : oneS LN false w d i = w i := by
      rw [oneS_f]
      exact begS_o (by omega)
    unfold dosS
    split
    · exact (dosS_f hd hi k _ _).trans e
    · exact e
theorem evlS_f {i : Nat} (W0 : WFc w) (hi : 37 ≤ i) : ∀ n, n ≤ zp w → (evlS LN false w n).1 i = w i
  | 0, _ => by
    show ev0S w i = w i
    unfold ev0S
    rw [ud_n (by omega), ud_n (by omega), ud_n (by omega)]
  | n + 1, hn => by
    have ih := evlS_f W0 hi n (by omega)
    obtain ⟨-, d, hd, ed⟩ := W0.pro (show n < zp w by omega)
    have l := W0.lzd
    have e2 : nv (w (153 + 2 * n + 1)) = d := by rw [ed, nv_nI (by omega)]
    have eu : ∀ x, upd (evlS LN false w n).1 0 x i = w i := fun x => (ud_n (by omega)).trans ih
    unfold evlS
    split
    · rw [e2]
      exact (dosS_f (by omega) hi 21 _ _).trans (eu _)
    · exact eu _
theorem eveS_f {i : Nat} (W0 : WFc w) (hi : 37 ≤ i) : eveS LN false w i = w i := by
  unfold eveS
  rw [ud_n (by omega)]
  exact evlS_f W0 hi _ (Nat.le_refl _)
theorem w_layM (hN : 20000 ≤ N) : Wp (f_X12_lays N m) (fun _ m' => (∀ j, j < 37 → m' 127 j = m 124 j) ∧ m' 123 26 = nI 0 ∧ (∀ j, j ≠ 26 → m' 123 j = m 123 j) ∧ Fr [(123, 123), (127, 127)] m m') := by
  unfold f_X12_lays
  refine wp_it1 (fun n x m' => ∃ i, i ≤ 37 ∧ n = 37 - i ∧ x = nI i ∧ (∀ j, j < i → m' 127 j = m 124 j) ∧ Fr [(127, 127)] m m') ?_ N 37 _ _ (by omega) ⟨0, by omega, rfl, rfl, fun j hj => absurd hj (by omega), Fr.rf⟩
  rintro n X x m' ⟨i, hi, rfl, rfl, h1, f1⟩ hX
  unfold f_X12_lays_L2
  simp only [li_0, li_1, li_2, li_3, li_4, li_5, li_6, li_7, li_8, li_9, li_10, li_11, li_12, li_13, li_14, li_15, li_16, li_17, li_18, li_19, li_20, li_21, li_22, li_23, li_24, li_25, li_26, li_27, li_28, li_29, li_30, li_31, li_32, li_37, li_38, li_39, li_40, li_41, li_42, li_43, li_44, li_45, li_46, li_47, li_48, li_49, li_50, li_57, li_59, li_60, li_61, li_62, li_63, li_64, li_65, li_69, li_81, li_89, li_90, li_92, li_97, li_99, li_100, li_101, li_103, li_104, li_105, li_106, li_108, li_111, li_112, li_113, li_114, li_115, li_116, li_117, li_119, li_122, li_123, li_124, li_125, li_126, li_127, li_128, li_129, li_130, li_131, li_132, li_133, li_134, li_135, li_136, li_137, li_140, li_141, li_142, li_143, li_145, li_147, li_150, li_153, li_159, li_160, li_161, li_162, li_185, li_197, li_213, li_222, li_223, li_255, li_256, li_257, li_258, li_259, li_260, li_261, li_262, li_263, li_264, li_271, li_272, li_273, li_274, li_275, li_276, li_277, li_278, li_300, li_400, li_420, li_500, li_802, li_820, li_823, li_839, li_855, li_871, li_887, li_999, li_1000, li_1001, li_1002, li_1003, li_1004, li_1005, li_1006, li_1007, li_1008, li_1009, li_1010, li_1011, li_1012, li_1013, li_1014, li_1015, li_1016, li_1017, li_1018, li_1019, li_1020, li_1021, li_1022, li_1023, li_1707, li_4096, li_9999, li_65536, li_100000, li_1000000, li_1664525, li_100000000, li_252645135, li_858993459, li_1000000007, li_1013904223, li_1431655765, li_m1]
  refine wp_ite (fun q => ?_) (fun q => ?_)
  · rw [nI_leI (by decide) (by omega)] at q
    have : i = 37 := by omega
    subst this
    rw [bnd_s]
    exact wp_ret ⟨fun j hj => by rw [mset_ne (by decide)]; exact h1 j hj, mset_at _ _ _ _, fun j hj => by rw [mset_j hj, f1.at 123 (by decide)], Fr.set (f1.mono (by decide)) (by decide)⟩
  · rw [nI_leI (by decide) (by omega)] at q
    rw [inb_nI (by omega) (by omega), chk_t, inb_nI (by omega) (by omega), chk_t, nI_clamp (by omega), bnd_s, nI_up]
    refine hX (37 - (i + 1)) _ _ (by omega) ⟨i + 1, by omega, rfl, rfl, fun j hj => ?_, Fr.set f1 (by decide)⟩
    by_cases e : j = i
    · subst e
      rw [mset_at, f1.at 124 (by decide)]
    · rw [mset_j e]; exact h1 j (by omega)
theorem w_pbM (hN : 20000 ≤ N) (h7 : ∀ j, j < 37 → m 127 j = w j) (hi : ∀ j, 37 ≤ j → m 124 j = w j) : Wp (f_X12_putsBack N m) (fun _ m' => m' 124 = w ∧ Fr [(124, 124)] m m') := by
  unfold f_X12_putsBack
  refine wp_it1 (fun n x m' => ∃ i, i ≤ 37 ∧ n = 37 - i ∧ x = nI i ∧ (∀ j, j < i → m' 124 j = w j) ∧ (∀ j, 37 ≤ j → m' 124 j = w j) ∧ Fr [(124, 124)] m m') ?_ N 37 _ _ (by omega) ⟨0, by omega, rfl, rfl, fun j hj => absurd hj (by omega), hi, Fr.rf⟩
  rintro n X x m' ⟨i, hi, rfl, rfl, h1, h2, f1⟩ hX
  unfold f_X12_putsBack_L2
  simp only [li_0, li_1, li_2, li_3, li_4, li_5, li_6, li_7, li_8, li_9, li_10, li_11, li_12, li_13, li_14, li_15, li_16, li_17, li_18, li_19, li_20, li_21, li_22, li_23, li_24, li_25, li_26, li_27, li_28, li_29, li_30, li_31, li_32, li_37, li_38, li_39, li_40, li_41, li_42, li_43, li_44, li_45, li_46, li_47, li_48, li_49, li_50, li_57, li_59, li_60, li_61, li_62, li_63, li_64, li_65, li_69, li_81, li_89, li_90, li_92, li_97, li_99, li_100, li_101, li_103, li_104, li_105, li_106, li_108, li_111, li_112, li_113, li_114, li_115, li_116, li_117, li_119, li_122, li_123, li_124, li_125, li_126, li_127, li_128, li_129, li_130, li_131, li_132, li_133, li_134, li_135, li_136, li_137, li_140, li_141, li_142, li_143, li_145, li_147, li_150, li_153, li_159, li_160, li_161, li_162, li_185, li_197, li_213, li_222, li_223, li_255, li_256, li_257, li_258, li_259, li_260, li_261, li_262, li_263, li_264, li_271, li_272, li_273, li_274, li_275, li_276, li_277, li_278, li_300, li_400, li_420, li_500, li_802, li_820, li_823, li_839, li_855, li_871, li_887, li_999, li_1000, li_1001, li_1002, li_1003, li_1004, li_1005, li_1006, li_1007, li_1008, li_1009, li_1010, li_1011, li_1012, li_1013, li_1014, li_1015, li_1016, li_1017, li_1018, li_1019, li_1020, li_1021, li_1022, li_1023, li_1707, li_4096, li_9999, li_65536, li_100000, li_1000000, li_1664525, li_100000000, li_252645135, li_858993459, li_1000000007, li_1013904223, li_1431655765, li_m1]
  refine wp_ite (fun q => ?_) (fun q => ?_)
  · rw [nI_leI (by decide) (by omega)] at q
    have : i = 37 := by omega
    subst this
    refine wp_ret ⟨?_, f1⟩
    funext j
    by_cases e : j < 37
    · exact h1 j e
    · exact h2 j (by omega)
  · rw [nI_leI (by decide) (by omega)] at q
    rw [inb_nI (by omega) (by omega), chk_t, inb_nI (by omega) (by omega), chk_t, nI_clamp (by omega), bnd_s, nI_up]
    refine hX (37 - (i + 1)) _ _ (by omega) ⟨i + 1, by omega, rfl, rfl, fun j hj => ?_, fun j hj => ?_, Fr.set f1 (by decide)⟩
    · by_cases e : j = i
      · subst e
        rw [mset_at, f1.at 127 (by decide)]
        exact h7 j (by omega)
      · rw [mset_j e]; exact h1 j (by omega)
    · rw [mset_j (by omega)]; exact h2 j hj
theorem thk_in (H : HRep 2 LN w m) (W0 : WFc w) : Wp (f_X3_keep N 92 m) (fun _ m' => HRep 2 LN w m' ∧ MomR 92 w m' ∧ Fr [(92, 98)] m m') := by
  refine wp_mono (w_mkeep H W0 (show 92 ∈ moms by decide)) ?_
  rintro _ m1 ⟨hM, hF, hc⟩
  refine ⟨H.cg W0.sml hF (fun k a b => hc k (by omega)) (fun _ _ _ _ => rfl), hM, fun k hk => hc k ?_⟩
  exact hk (92, 98) List.mem_cons_self
theorem thk_out (H : HRep 2 LN v0 m) (hs : sml v0) (W0 : WFc w) (hM : MomR 92 w m) (hv : ∀ i, 37 ≤ i → v0 i = w i) : Wp (f_X3_back N 92 m) (fun _ m' => HRep 2 LN w m' ∧ Fr [(3, 9)] m m') :=
  w_mback H W0 hM (show 92 ∈ moms by decide) (fun i hi => (hv i hi).symm) hs
theorem MomR.fr {S : List (Nat × Nat)} (h : MomR 92 w m) (hs : sml w) (f : Fr S m m2) (hS : S.all (fun p => decide (p.2 < 92) || decide (98 < p.1)) = true) : MomR 92 w m2 := by
  refine h.cg hs (fun k a b => f k (fun p hp => ?_)) (fun _ _ => rfl)
  have := List.all_eq_true.mp hS p hp
  simp only [Bool.or_eq_true, decide_eq_true_eq] at this
  omega
/-- a thought is over -/
theorem Inv.th (h : Inv m) (H : HRep 2 LN (m 124) m2) (G : Good LN (m 124)) (f : Fr [(3, 24), (92, 98), (101, 102), (104, 122), (123, 124), (127, 130), (132, 200)] m m2) (e124 : m2 124 = m 124) (h4 : m2 113 4 = m 113 4) (hj : ∀ j, j = 4 ∨ j = 5 ∨ j = 16 ∨ j = 23 ∨ j = 25 → m2 123 j = m 123 j) : Inv m2 := by
  refine h.q H G (fun k hk => ?_) (by rw [f.at 103 (by decide)]; exact ⟨rfl, rfl⟩) h4 hj
  by_cases e : k = 124
  · subst e; exact e124
  · refine f k (fun p hp => ?_)
    simp only [List.mem_cons, List.not_mem_nil, or_false] at hp
    rcases hp with rfl | rfl | rfl | rfl | rfl | rfl | rfl <;> simp only <;> omega
theorem setS_lt {rdy : Nat} {dr : Nat → Int32} : ∀ k cl r, cl < 2 ^ zh w → (setS LN w d rdy dr k cl r).1 < 2 ^ zh w
  | 0, cl, r, h => h
  | k + 1, cl, r, h => by
    unfold setS
    split
    · exact h
    · exact setS_lt k _ _ (rndS_lt h _ (Nat.le_refl _))
theorem clpF_lt (hd : d < 8) : (clpS LN false w d).1 < 2 ^ zh w := by
  have e2 : w2S LN false w d = begS LN w d := by
    unfold w2S dwS
    rw [if_neg (by decide)]
  have ez : zh (begS LN w d) = zh w := by
    unfold zh
    rw [begS_o (by omega)]
  unfold clpS
  rw [e2, ← ez]
  exact setS_lt 13 0 0 (pow_pos' _)
/-- the class lets it settle, in thought -/
theorem w_settleC (hN : 20000 ≤ N) (H : HRep 2 LN w m) (W0 : WFc w) (hd : d < zd w) :
    Wp (f_X11_settle N (nI d) m) (fun v m' => v = nI (rawS LN false w d) ∧ HRep 2 LN w m' ∧ m' 113 5 = nI (clpS LN false w d).1 ∧ m' 113 6 = nI (clpS LN false w d).2 ∧ m' 113 4 = nI 0 ∧ Fr [(3, 24), (92, 98), (111, 115)] m m') := by
  have l := W0.lzd
  have W1 := W0.beg (LN := LN) hd
  have zd1 : zd (begS LN w d) = zd w := by
    unfold zd
    rw [begS_o (by omega)]
  have e2 : w2S LN false w d = begS LN w d := by
    unfold w2S dwS
    rw [if_neg (by decide)]
  have e3 : w3S LN false w d = begS LN w d := by
    unfold w3S cghW
    rw [Bool.false_and, if_neg (by decide), e2]
  unfold f_X11_settle
  simp only [li_0, li_1, li_2, li_3, li_4, li_5, li_6, li_7, li_8, li_9, li_10, li_11, li_12, li_13, li_14, li_15, li_16, li_17, li_18, li_19, li_20, li_21, li_22, li_23, li_24, li_25, li_26, li_27, li_28, li_29, li_30, li_31, li_32, li_37, li_38, li_39, li_40, li_41, li_42, li_43, li_44, li_45, li_46, li_47, li_48, li_49, li_50, li_57, li_59, li_60, li_61, li_62, li_63, li_64, li_65, li_69, li_81, li_89, li_90, li_92, li_97, li_99, li_100, li_101, li_103, li_104, li_105, li_106, li_108, li_111, li_112, li_113, li_114, li_115, li_116, li_117, li_119, li_122, li_123, li_124, li_125, li_126, li_127, li_128, li_129, li_130, li_131, li_132, li_133, li_134, li_135, li_136, li_137, li_140, li_141, li_142, li_143, li_145, li_147, li_150, li_153, li_159, li_160, li_161, li_162, li_185, li_197, li_213, li_222, li_223, li_255, li_256, li_257, li_258, li_259, li_260, li_261, li_262, li_263, li_264, li_271, li_272, li_273, li_274, li_275, li_276, li_277, li_278, li_300, li_400, li_420, li_500, li_802, li_820, li_823, li_839, li_855, li_871, li_887, li_999, li_1000, li_1001, li_1002, li_1003, li_1004, li_1005, li_1006, li_1007, li_1008, li_1009, li_1010, li_1011, li_1012, li_1013, li_1014, li_1015, li_1016, li_1017, li_1018, li_1019, li_1020, li_1021, li_1022, li_1023, li_1707, li_4096, li_9999, li_65536, li_100000, li_1000000, li_1664525, li_100000000, li_252645135, li_858993459, li_1000000007, li_1013904223, li_1431655765, li_m1]
  refine wp_bind (thk_in H W0) ?_
  rintro _ m1 ⟨H1, hM1, f1⟩
  rw [bnd_s]
  have fa : Fr [(113, 113)] m1 (mset m1 113 4 (nI 1)) := Fr.set Fr.rf (by decide)
  refine wp_bind (w_begin hN (H1.fr W0.sml fa (by decide +kernel)) W0 hd) ?_
  rintro _ m2 ⟨H2, f2⟩
  have t2 : m2 113 4 = nI 1 := by rw [f2.at 113 (by decide), mset_at]
  have hdr : ∀ h, h < zh (begS LN w d) → (rdyS (begS LN w d)).testBit h = true → (if m2 113 4 = nI 0 then m2 114 h else nI 500) = drvS false (begS LN w d) h := by
    intro h _ _
    rw [t2, if_neg (by decide)]
    unfold drvS
    rw [if_neg (by decide)]
  refine wp_bind (w_applaud (dr := drvS false (begS LN w d)) hN H2 W1 (by rw [zd1]; exact hd) hdr) ?_
  rintro _ m3 ⟨f3, t3, c5, c6⟩
  have ec : setS LN (begS LN w d) d (rdyS (begS LN w d)) (drvS false (begS LN w d)) 13 0 0 = clpS LN false w d := by
    unfold clpS
    rw [e2]
  rw [ec] at c5 c6
  have H3 := H2.fr W1.sml f3 (by decide +kernel)
  unfold f_X8_handsAt
  simp only [li_0, li_1, li_2, li_3, li_4, li_5, li_6, li_7, li_8, li_9, li_10, li_11, li_12, li_13, li_14, li_15, li_16, li_17, li_18, li_19, li_20, li_21, li_22, li_23, li_24, li_25, li_26, li_27, li_28, li_29, li_30, li_31, li_32, li_37, li_38, li_39, li_40, li_41, li_42, li_43, li_44, li_45, li_46, li_47, li_48, li_49, li_50, li_57, li_59, li_60, li_61, li_62, li_63, li_64, li_65, li_69, li_81, li_89, li_90, li_92, li_97, li_99, li_100, li_101, li_103, li_104, li_105, li_106, li_108, li_111, li_112, li_113, li_114, li_115, li_116, li_117, li_119, li_122, li_123, li_124, li_125, li_126, li_127, li_128, li_129, li_130, li_131, li_132, li_133, li_134, li_135, li_136, li_137, li_140, li_141, li_142, li_143, li_145, li_147, li_150, li_153, li_159, li_160, li_161, li_162, li_185, li_197, li_213, li_222, li_223, li_255, li_256, li_257, li_258, li_259, li_260, li_261, li_262, li_263, li_264, li_271, li_272, li_273, li_274, li_275, li_276, li_277, li_278, li_300, li_400, li_420, li_500, li_802, li_820, li_823, li_839, li_855, li_871, li_887, li_999, li_1000, li_1001, li_1002, li_1003, li_1004, li_1005, li_1006, li_1007, li_1008, li_1009, li_1010, li_1011, li_1012, li_1013, li_1014, li_1015, li_1016, li_1017, li_1018, li_1019, li_1020, li_1021, li_1022, li_1023, li_1707, li_4096, li_9999, li_65536, li_100000, li_1000000, li_1664525, li_100000000, li_252645135, li_858993459, li_1000000007, li_1013904223, li_1431655765, li_m1]
  have hcl : (clpS LN false w d).1 < 2 ^ 31 := by
    have h1 := clpF_lt (LN := LN) (w := w) (d := d) (by omega)
    have := pow_le31 W0.lzh
    omega
  rw [c5, w_handsOf hN H3 W1 hcl, bd_s]
  refine wp_bd (wp_bind (w_loud hN H3 W1 (by rw [zd1]; exact hd)) ?_)
  rintro _ m4 ⟨rfl, f4⟩
  refine wp_ret ?_
  rw [bnd_s, nI_add]
  have H4 := H3.fr W1.sml f4 (by decide +kernel)
  have fb : Fr [(113, 113)] m4 (mset m4 113 4 (nI 0)) := Fr.set Fr.rf (by decide)
  have f24 : Fr [(6, 6), (8, 8), (111, 115)] m1 m4 := ((fa.mono (by decide)).trans (f2.mono (by decide))).trans ((f3.mono (by decide)).trans (f4.mono (by decide)))
  refine wp_bind (thk_out (H4.fr W1.sml fb (by decide +kernel)) W1.sml W0 ((hM1.fr W0.sml f24 (by decide)).fr W0.sml fb (by decide)) (fun i hi => begS_o (by omega))) ?_
  rintro _ m5 ⟨H5, f5⟩
  have e113 : m5 113 = mset m4 113 4 (nI 0) 113 := f5.at 113 (by decide)
  refine wp_ret ⟨?_, H5, ?_, ?_, ?_, ?_⟩
  · unfold rawS
    rw [e3]
  · rw [e113, mset_j (by decide), f4.at 113 (by decide)]; exact c5
  · rw [e113, mset_j (by decide), f4.at 113 (by decide)]; exact c6
  · rw [e113, mset_at]
  · exact ((f1.mono (by decide)).trans (f24.mono (by decide))).trans ((fb.mono (by decide)).trans (f5.mono (by decide)))
theorem w_settlesM {c : Nat} (hN : 20000 ≤ N) (hm : m 124 = w) (G : Good LN w) (ho : lawOk LN) (hd : d < zd w) (hc : c ≤ 2) :
    Wp (f_X12_settles N (nI d) (nI c) m) (fun v m' => v = (if c = 0 then nI (clpS LN false w d).1 else if c = 1 then nI (clpS LN false w d).2 else nI (rawS LN false w d)) ∧ m' 124 = w ∧ (∀ j, j < 26 → m' 123 j = m 123 j) ∧ Fr [(123, 124), (127, 127), (132, 134)] m m') := by
  have l := G.1.lzd
  unfold f_X12_settles
  simp only [li_0, li_1, li_2, li_3, li_4, li_5, li_6, li_7, li_8, li_9, li_10, li_11, li_12, li_13, li_14, li_15, li_16, li_17, li_18, li_19, li_20, li_21, li_22, li_23, li_24, li_25, li_26, li_27, li_28, li_29, li_30, li_31, li_32, li_37, li_38, li_39, li_40, li_41, li_42, li_43, li_44, li_45, li_46, li_47, li_48, li_49, li_50, li_57, li_59, li_60, li_61, li_62, li_63, li_64, li_65, li_69, li_81, li_89, li_90, li_92, li_97, li_99, li_100, li_101, li_103, li_104, li_105, li_106, li_108, li_111, li_112, li_113, li_114, li_115, li_116, li_117, li_119, li_122, li_123, li_124, li_125, li_126, li_127, li_128, li_129, li_130, li_131, li_132, li_133, li_134, li_135, li_136, li_137, li_140, li_141, li_142, li_143, li_145, li_147, li_150, li_153, li_159, li_160, li_161, li_162, li_185, li_197, li_213, li_222, li_223, li_255, li_256, li_257, li_258, li_259, li_260, li_261, li_262, li_263, li_264, li_271, li_272, li_273, li_274, li_275, li_276, li_277, li_278, li_300, li_400, li_420, li_500, li_802, li_820, li_823, li_839, li_855, li_871, li_887, li_999, li_1000, li_1001, li_1002, li_1003, li_1004, li_1005, li_1006, li_1007, li_1008, li_1009, li_1010, li_1011, li_1012, li_1013, li_1014, li_1015, li_1016, li_1017, li_1018, li_1019, li_1020, li_1021, li_1022, li_1023, li_1707, li_4096, li_9999, li_65536, li_100000, li_1000000, li_1664525, li_100000000, li_252645135, li_858993459, li_1000000007, li_1013904223, li_1431655765, li_m1]
  rw [e_isDeed hm G.1, inb_nI hd (by omega), bd_s, if_neg (by decide), e_isIn, bd_s, rng_is (by omega) (by decide) (by decide), decide_eq_true (by omega), if_neg (by decide)]
  refine wp_bind (w_layM hN) ?_
  rintro _ m1 ⟨h7, h26, hj, f1⟩
  have e124 : m1 124 = w := (f1.at 124 (by decide)).trans hm
  refine wp_bind (w_beginM hN e124 (by omega) G.2.2 ho) ?_
  rintro _ m2 ⟨h2, f2⟩
  have e123 : m2 123 = m1 123 := f2.at 123 (by decide)
  refine wp_bind (w_clapsM (tru := false) hN h2 G.1 hd G.2.2 ho (by rw [e123]; exact h26)) ?_
  rintro _ m3 ⟨h3, -, c28, c29, c30, j3, f3⟩
  refine wp_bind (w_pbM (w := w) hN (fun j hj => ?_) (fun j hj => ?_)) ?_
  · rw [f3.at 127 (by decide), f2.at 127 (by decide), h7 j hj, hm]
  · rw [h3, oneS_f]
    exact begS_o (by omega)
  rintro _ m4 ⟨h4, f4⟩
  have e4 : m4 123 = m3 123 := f4.at 123 (by decide)
  have hj' : ∀ j, j < 26 → m4 123 j = m 123 j := fun j hj2 => by rw [e4, j3 j (by omega), e123, hj j (by omega)]
  have ff : Fr [(123, 124), (127, 127), (132, 134)] m m4 := ((f1.mono (by decide)).trans (f2.mono (by decide))).trans ((f3.mono (by decide)).trans (f4.mono (by decide)))
  have eh : hanS LN false w d = nI (rawS LN false w d) := by
    unfold hanS
    rw [cgS_f, if_neg (by decide)]
  rw [eh] at c30
  refine wp_ite (fun q => ?_) (fun q => ?_)
  · rw [nI_eq (by omega) (by decide)] at q
    rw [if_pos q]
    exact wp_ret ⟨by rw [e4]; exact c28, h4, hj', ff⟩
  · rw [nI_eq (by omega) (by decide)] at q
    rw [if_neg q]
    refine wp_ite (fun q => ?_) (fun q => ?_)
    · rw [nI_eq (by omega) (by decide)] at q
      rw [if_pos q]
      exact wp_ret ⟨by rw [e4]; exact c29, h4, hj', ff⟩
    · rw [nI_eq (by omega) (by decide)] at q
      rw [if_neg q]
      exact wp_ret ⟨by rw [e4]; exact c30, h4, hj', ff⟩
/-- both have thought it -/
theorem Inv.th2 (h : Inv m) (H : HRep 2 LN (m 124) m') (G : Good LN (m 124)) (f1 : Fr [(3, 24), (92, 98), (111, 115)] m m') (t : m' 113 4 = nI 0) (e124 : m2 124 = m 124) (hj : ∀ j, j < 26 → m2 123 j = m' 123 j) (f2 : Fr [(123, 124), (127, 127), (132, 134)] m' m2) : Inv m2 := by
  refine h.th (LN := LN) ?_ G ((f1.mono (by decide)).trans (f2.mono (by decide))) e124 ?_ (fun j hj2 => ?_)
  · exact H.fr G.1.sml f2 (by decide +kernel)
  · obtain ⟨_, _, _, _, _, _, _, h4⟩ := h
    rw [f2.at 113 (by decide), t, h4]
  · rw [hj j (by omega), f1.at 123 (by decide)]
theorem pr_settles {a b : Int32} (hN : 20000 ≤ N) : Pr (f_X11_settles N a b) (f_X12_settles N a b) := by
  intro m hI
  obtain ⟨LN, H, G, -⟩ := id hI
  have ld := G.1.lzd
  unfold f_X11_settles
  simp only [li_0, li_1, li_2, li_3, li_4, li_5, li_6, li_7, li_8, li_9, li_10, li_11, li_12, li_13, li_14, li_15, li_16, li_17, li_18, li_19, li_20, li_21, li_22, li_23, li_24, li_25, li_26, li_27, li_28, li_29, li_30, li_31, li_32, li_37, li_38, li_39, li_40, li_41, li_42, li_43, li_44, li_45, li_46, li_47, li_48, li_49, li_50, li_57, li_59, li_60, li_61, li_62, li_63, li_64, li_65, li_69, li_81, li_89, li_90, li_92, li_97, li_99, li_100, li_101, li_103, li_104, li_105, li_106, li_108, li_111, li_112, li_113, li_114, li_115, li_116, li_117, li_119, li_122, li_123, li_124, li_125, li_126, li_127, li_128, li_129, li_130, li_131, li_132, li_133, li_134, li_135, li_136, li_137, li_140, li_141, li_142, li_143, li_145, li_147, li_150, li_153, li_159, li_160, li_161, li_162, li_185, li_197, li_213, li_222, li_223, li_255, li_256, li_257, li_258, li_259, li_260, li_261, li_262, li_263, li_264, li_271, li_272, li_273, li_274, li_275, li_276, li_277, li_278, li_300, li_400, li_420, li_500, li_802, li_820, li_823, li_839, li_855, li_871, li_887, li_999, li_1000, li_1001, li_1002, li_1003, li_1004, li_1005, li_1006, li_1007, li_1008, li_1009, li_1010, li_1011, li_1012, li_1013, li_1014, li_1015, li_1016, li_1017, li_1018, li_1019, li_1020, li_1021, li_1022, li_1023, li_1707, li_4096, li_9999, li_65536, li_100000, li_1000000, li_1664525, li_100000000, li_252645135, li_858993459, li_1000000007, li_1013904223, li_1431655765, li_m1]
  rw [hr_hasD H G.1, bd_s]
  rcases inb_cases a (n := zd (m 124)) (by omega) with ⟨e, -⟩ | ⟨d, hd, rfl⟩
  · rw [e, if_pos (by decide)]
    refine wp_ret ?_
    unfold f_X12_settles
    simp only [li_0, li_1, li_2, li_3, li_4, li_5, li_6, li_7, li_8, li_9, li_10, li_11, li_12, li_13, li_14, li_15, li_16, li_17, li_18, li_19, li_20, li_21, li_22, li_23, li_24, li_25, li_26, li_27, li_28, li_29, li_30, li_31, li_32, li_37, li_38, li_39, li_40, li_41, li_42, li_43, li_44, li_45, li_46, li_47, li_48, li_49, li_50, li_57, li_59, li_60, li_61, li_62, li_63, li_64, li_65, li_69, li_81, li_89, li_90, li_92, li_97, li_99, li_100, li_101, li_103, li_104, li_105, li_106, li_108, li_111, li_112, li_113, li_114, li_115, li_116, li_117, li_119, li_122, li_123, li_124, li_125, li_126, li_127, li_128, li_129, li_130, li_131, li_132, li_133, li_134, li_135, li_136, li_137, li_140, li_141, li_142, li_143, li_145, li_147, li_150, li_153, li_159, li_160, li_161, li_162, li_185, li_197, li_213, li_222, li_223, li_255, li_256, li_257, li_258, li_259, li_260, li_261, li_262, li_263, li_264, li_271, li_272, li_273, li_274, li_275, li_276, li_277, li_278, li_300, li_400, li_420, li_500, li_802, li_820, li_823, li_839, li_855, li_871, li_887, li_999, li_1000, li_1001, li_1002, li_1003, li_1004, li_1005, li_1006, li_1007, li_1008, li_1009, li_1010, li_1011, li_1012, li_1013, li_1014, li_1015, li_1016, li_1017, li_1018, li_1019, li_1020, li_1021, li_1022, li_1023, li_1707, li_4096, li_9999, li_65536, li_100000, li_1000000, li_1664525, li_100000000, li_252645135, li_858993459, li_1000000007, li_1013904223, li_1431655765, li_m1]
    rw [e_isDeed rfl G.1, e, bd_s, if_pos (by decide)]
    exact wp_ret ⟨rfl, hI⟩
  · rw [inb_nI hd (by omega), if_neg (by decide), e_within, bd_s]
    cases hq : decide (nI 0 ≤ b ∧ b ≤ nI 2) with
    | false =>
      rw [if_pos (by decide)]
      refine wp_ret ?_
      unfold f_X12_settles
      simp only [li_0, li_1, li_2, li_3, li_4, li_5, li_6, li_7, li_8, li_9, li_10, li_11, li_12, li_13, li_14, li_15, li_16, li_17, li_18, li_19, li_20, li_21, li_22, li_23, li_24, li_25, li_26, li_27, li_28, li_29, li_30, li_31, li_32, li_37, li_38, li_39, li_40, li_41, li_42, li_43, li_44, li_45, li_46, li_47, li_48, li_49, li_50, li_57, li_59, li_60, li_61, li_62, li_63, li_64, li_65, li_69, li_81, li_89, li_90, li_92, li_97, li_99, li_100, li_101, li_103, li_104, li_105, li_106, li_108, li_111, li_112, li_113, li_114, li_115, li_116, li_117, li_119, li_122, li_123, li_124, li_125, li_126, li_127, li_128, li_129, li_130, li_131, li_132, li_133, li_134, li_135, li_136, li_137, li_140, li_141, li_142, li_143, li_145, li_147, li_150, li_153, li_159, li_160, li_161, li_162, li_185, li_197, li_213, li_222, li_223, li_255, li_256, li_257, li_258, li_259, li_260, li_261, li_262, li_263, li_264, li_271, li_272, li_273, li_274, li_275, li_276, li_277, li_278, li_300, li_400, li_420, li_500, li_802, li_820, li_823, li_839, li_855, li_871, li_887, li_999, li_1000, li_1001, li_1002, li_1003, li_1004, li_1005, li_1006, li_1007, li_1008, li_1009, li_1010, li_1011, li_1012, li_1013, li_1014, li_1015, li_1016, li_1017, li_1018, li_1019, li_1020, li_1021, li_1022, li_1023, li_1707, li_4096, li_9999, li_65536, li_100000, li_1000000, li_1664525, li_100000000, li_252645135, li_858993459, li_1000000007, li_1013904223, li_1431655765, li_m1]
      rw [e_isDeed rfl G.1, inb_nI hd (by omega), bd_s, if_neg (by decide), e_isIn, bd_s, hq, if_pos (by decide)]
      exact wp_ret ⟨rfl, hI⟩
    | true =>
      rw [if_neg (by decide)]
      obtain ⟨c, -, hc, rfl⟩ := rng_of (by decide) (by decide) hq
      refine wp_bind (w_settleC hN H G.1 hd) ?_
      rintro _ m1 ⟨rfl, H1, c5, c6, t1, f1⟩
      have e124 : m1 124 = m 124 := f1.at 124 (by decide)
      have fin : ∀ x, x = (if c = 0 then nI (clpS LN false (m 124) d).1 else if c = 1 then nI (clpS LN false (m 124) d).2 else nI (rawS LN false (m 124) d)) → Wp (some (x, m1)) (fun v1 m1 => Wp (f_X12_settles N (nI d) (nI c) m1) (fun v2 m2 => v1 = v2 ∧ Inv m2)) := by
        rintro x rfl
        refine wp_ret (wp_mono (w_settlesM hN e124 G H.lawk hd hc) ?_)
        rintro _ m2 ⟨rfl, h2, j2, f2⟩
        exact ⟨rfl, hI.th2 H1 G f1 t1 h2 j2 f2⟩
      rcases (show c = 0 ∨ c = 1 ∨ c = 2 by omega) with rfl | rfl | rfl
      · rw [if_neg (by decide), if_pos rfl]
        exact fin _ c5
      · rw [if_neg (by decide), if_neg (by decide)]
        exact fin _ c6
      · rw [if_pos rfl]
        exact fin _ rfl
end THINK
