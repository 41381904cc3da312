/-! a DEED done once, and with all agains -/
def w2S (LN : List Lin) (tru : Bool) (w : Arr) (d : Nat) : Arr := dwS tru (begS LN w d)
def clpS (LN : List Lin) (tru : Bool) (w : Arr) (d : Nat) : Nat × Nat := setS LN (w2S LN tru w d) d (rdyS (w2S LN tru w d)) (drvS tru (begS LN w d)) 13 0 0
def w3S (LN : List Lin) (tru : Bool) (w : Arr) (d : Nat) : Arr := cghW tru (w2S LN tru w d)
def cgS (LN : List Lin) (tru : Bool) (w : Arr) (d : Nat) : Bool := cghB tru (w2S LN tru w d)
def rawS (LN : List Lin) (tru : Bool) (w : Arr) (d : Nat) : Nat := sumS (w3S LN tru w d) (clpS LN tru w d).1 (zh (w3S LN tru w d)) + loudS LN (w3S LN tru w d) d
def hanS (LN : List Lin) (tru : Bool) (w : Arr) (d : Nat) : Int32 := if cgS LN tru w d = true then nI 0 else nI (rawS LN tru w d)
def gonS (LN : List Lin) (tru : Bool) (w : Arr) (d : Nat) : Bool := !cgS LN tru w d && decide (hndS (w3S LN tru w d) ≤ hanS LN tru w d) && mayS (w3S LN tru w d)
def w4S (LN : List Lin) (tru : Bool) (w : Arr) (d : Nat) : Arr := if cgS LN tru w d = true then nteS (w3S LN tru w d) (nI 2) (nI d) (nI 0) else w3S LN tru w d
def oneS (LN : List Lin) (tru : Bool) (w : Arr) (d : Nat) : Arr := if tru = true then nteS (w4S LN tru w d) (if w4S LN tru w d 4 = nI 0 then nI 0 else nI 1) (nI d) (hanS LN tru w d) else w4S LN tru w d
def dosS (LN : List Lin) (tru : Bool) (d : Nat) : Nat → Arr → Nat → Arr × Nat
  | 0, w, n => (w, n)
  | k + 1, w, n => if gonS LN tru w d = true then dosS LN tru d k (oneS LN tru w d) (n + 1) else (oneS LN tru w d, n + 1)
section DOES
variable {w w' : Arr} {LN : List Lin} {m m' : Mem} {N d : Nat} {tru : Bool}
theorem bstS_cg (hw : ∀ i, i = 1 ∨ (105 ≤ i ∧ i < 153) → w' i = w i) : ∀ n, n ≤ 16 → bstS w' n = bstS w n
  | 0, _ => rfl
  | n + 1, hn => by
    have ih := bstS_cg hw n (by omega)
    have el : lowB w' n (bstS w n) = lowB w n (bstS w n) := by
      cases hb : bstS w n with
      | none => rfl
      | some b =>
        have := bstS_lt hb
        show decide _ = decide _
        rw [hw _ (Or.inr (by omega)), hw _ (Or.inr (by omega))]
    unfold bstS
    rw [ih, el, hw _ (Or.inr (by omega)), hw _ (Or.inr (by omega)), hw 1 (Or.inl rfl)]
theorem hndS_cg (W0 : WFc w) (hw : ∀ i, i = 1 ∨ i = 41 ∨ (105 ≤ i ∧ i < 153) → w' i = w i) : hndS w' = hndS w := by
  have s := W0.lzs
  have ez : zs w' = zs w := by unfold zs; rw [hw 41 (Or.inr (Or.inl rfl))]
  unfold hndS
  rw [ez, bstS_cg (w := w) (fun i hi => hw i (by omega)) (zs w) s]
  cases hb : bstS w (zs w) with
  | none => rfl
  | some b =>
    have := bstS_lt hb
    exact hw _ (Or.inr (Or.inr (by omega)))
theorem lstS_cg {k : Nat} {wo : Int32} (hw : ∀ i, 105 ≤ i ∧ i < 153 → w' i = w i) : ∀ n, n ≤ 16 → lstS w' k wo n = lstS w k wo n
  | 0, _ => rfl
  | n + 1, hn => by
    unfold lstS
    rw [lstS_cg hw n (by omega), hw _ (by omega), hw _ (by omega)]
theorem mayS_cg (W0 : WFc w) (hw : ∀ i, i = 0 ∨ i = 4 ∨ i = 41 ∨ (105 ≤ i ∧ i < 153) → w' i = w i) : mayS w' = mayS w := by
  have s := W0.lzs
  have ez : zs w' = zs w := by unfold zs; rw [hw 41 (by omega)]
  unfold mayS
  rw [ez, lstS_cg (w := w) (fun i hi => hw i (by omega)) (zs w) s, lstS_cg (w := w) (fun i hi => hw i (by omega)) (zs w) s, hw 0 (by omega), hw 4 (by omega)]
theorem w2S_o {i : Nat} (h : i ≠ 5) : w2S LN tru w d i = begS LN w d i := dwS_o h
theorem w3S_o {i : Nat} (h : i ≠ 5) : w3S LN tru w d i = begS LN w d i := (cghW_o h).trans (w2S_o h)
theorem w4S_o {i : Nat} (h : i ≠ 5) (h6 : i ≠ 6) (h2 : i < 223) : w4S LN tru w d i = begS LN w d i := by
  unfold w4S
  split
  · exact (nteS_o h6 h2).trans (w3S_o h)
  · exact w3S_o h
theorem oneS_o {i : Nat} (h : i ≠ 5) (h6 : i ≠ 6) (h2 : i < 223) : oneS LN tru w d i = begS LN w d i := by
  unfold oneS
  split
  · exact (nteS_o h6 h2).trans (w4S_o h h6 h2)
  · exact w4S_o h h6 h2
theorem WFc.w2 (W0 : WFc w) (hd : d < zd w) : WFc (w2S LN tru w d) := (W0.beg hd).dw
theorem WFc.w3 (W0 : WFc w) (hd : d < zd w) : WFc (w3S LN tru w d) := (W0.w2 hd).cgh
theorem WFc.w4 (W0 : WFc w) (hd : d < zd w) : WFc (w4S LN tru w d) := by
  unfold w4S
  split
  · exact (W0.w3 hd).nte
  · exact W0.w3 hd
theorem WFc.one (W0 : WFc w) (hd : d < zd w) : WFc (oneS LN tru w d) := by
  unfold oneS
  split
  · exact (W0.w4 hd).nte
  · exact W0.w4 hd
theorem lawW.w3 (h : lawW w LN) (hd : d < 8) : lawW (w3S LN tru w d) LN := (h.beg hd).cg (fun i hi => w3S_o (by omega))
theorem lawW.w4 (h : lawW w LN) (W0 : WFc w) (hd : d < zd w) : lawW (w4S LN tru w d) LN := by
  have l := W0.lzd
  unfold w4S
  split
  · exact (h.w3 (by omega)).nte (W0.w3 hd)
  · exact h.w3 (by omega)
theorem lawW.one (h : lawW w LN) (W0 : WFc w) (hd : d < zd w) : lawW (oneS LN tru w d) LN := by
  unfold oneS
  split
  · exact (h.w4 W0 hd).nte (W0.w4 hd)
  · exact h.w4 W0 hd
theorem zd_one (hd : d < 8) : zd (oneS LN tru w d) = zd w := by
  unfold zd
  rw [oneS_o (by decide) (by decide) (by decide), begS_o (by omega)]
theorem WFm.one {B : Nat} (h : WFm B w) (hB : B < 100000) (W0 : WFc w) (hd : d < zd w) : WFm (B + 60) (oneS LN tru w d) := by
  unfold WFm
  rw [oneS_o (by decide) (by decide) (by decide), oneS_o (by decide) (by decide) (by decide)]
  exact h.beg hB W0 hd
/-- the class does it once -/
theorem w_oneC {B n i : Nat} {X : Int32 → Int32 → Int32 → Mem → Ans} {Q : Int32 → Mem → Prop} (hN : 20000 ≤ N) (H : HRep 2 LN w m) (W0 : WFc w) (hm : WFm B w) (hB : B < 100000) (hd : d < zd w) (ht : m 113 4 = nI (if tru = true then 0 else 1)) (hi : i ≤ 20)
    (k : ∀ m', HRep 2 LN (oneS LN tru w d) m' → Fr [(6, 6), (8, 10), (111, 115)] m m' → m' 113 4 = m 113 4 → Wp (X (nI (n + 1)) (b2i (gonS LN tru w d)) (nI (i + 1)) m') Q) :
    Wp (f_X8_doWithAgains_L7 N (nI d) X (nI n) (nI 1) (nI i) m) Q := by
  have l := W0.lzd
  have W1 := W0.beg (LN := LN) hd
  have W2 := W0.w2 (LN := LN) (tru := tru) hd
  have W3 := W0.w3 (LN := LN) (tru := tru) hd
  have ez1 : zd (begS LN w d) = zd w := by unfold zd; rw [begS_o (by omega)]
  unfold f_X8_doWithAgains_L7
  simp only [li_0, li_1, li_2, li_3, li_4, li_5, li_6, li_7, li_8, li_9, li_10, li_11, li_12, li_13, li_14, li_15, li_16, li_17, li_18, li_19, li_20, li_21, li_22, li_23, li_24, li_25, li_26, li_27, li_28, li_29, li_30, li_31, li_32, li_37, li_38, li_39, li_40, li_41, li_42, li_43, li_44, li_45, li_46, li_47, li_48, li_49, li_50, li_57, li_59, li_60, li_61, li_62, li_63, li_64, li_65, li_69, li_81, li_89, li_90, li_92, li_97, li_99, li_100, li_101, li_103, li_104, li_105, li_106, li_108, li_111, li_112, li_113, li_114, li_115, li_116, li_117, li_119, li_122, li_123, li_124, li_125, li_126, li_127, li_128, li_129, li_130, li_131, li_132, li_133, li_134, li_135, li_136, li_137, li_140, li_141, li_142, li_143, li_145, li_147, li_150, li_153, li_159, li_160, li_161, li_162, li_185, li_197, li_213, li_222, li_223, li_255, li_256, li_257, li_258, li_259, li_260, li_261, li_262, li_263, li_264, li_271, li_272, li_273, li_274, li_275, li_276, li_277, li_278, li_300, li_400, li_420, li_500, li_802, li_820, li_823, li_839, li_855, li_871, li_887, li_999, li_1000, li_1001, li_1002, li_1003, li_1004, li_1005, li_1006, li_1007, li_1008, li_1009, li_1010, li_1011, li_1012, li_1013, li_1014, li_1015, li_1016, li_1017, li_1018, li_1019, li_1020, li_1021, li_1022, li_1023, li_1707, li_4096, li_9999, li_65536, li_100000, li_1000000, li_1664525, li_100000000, li_252645135, li_858993459, li_1000000007, li_1013904223, li_1431655765, li_m1]
  rw [if_neg (nI_nlt (by omega) (by decide)), if_neg (nI_ne (by decide) (by decide) (by decide))]
  refine wp_bind (w_begin hN H W0 hd) ?_
  rintro _ m1 ⟨H1, f1⟩
  have t1 : m1 113 = m 113 := f1.at 113 (by decide)
  refine wp_bind (w_draws (tru := tru) hN H1 W1 (by rw [t1]; exact ht)) ?_
  rintro _ m2 ⟨H2, f2, hdr⟩
  have t2 : m2 113 = m 113 := (f2.at 113 (by decide)).trans t1
  have z2 : zh (w2S LN tru w d) = zh (begS LN w d) := by unfold zh; rw [w2S_o (by decide)]
  have zt2 : zt (w2S LN tru w d) = zt (begS LN w d) := by unfold zt; rw [w2S_o (by decide)]
  refine wp_bind (w_applaud (dr := drvS tru (begS LN w d)) hN (show HRep 2 LN (w2S LN tru w d) m2 from H2) W2 (by
    have : zd (w2S LN tru w d) = zd w := by rw [← ez1]; unfold zd; rw [w2S_o (by decide)]
    rw [this]; exact hd) (fun h hh hr => hdr h (by rw [← z2]; exact hh) ?_)) ?_
  · unfold rdyS at hr
    rw [sdf_bit, Bool.and_eq_true] at hr
    rw [← zt2]
    exact hr.1
  rintro _ m3 ⟨f3, t3, c5, c6⟩
  have H3 : HRep 2 LN (w2S LN tru w d) m3 := HRep.fr H2 W2.sml f3 (by decide +kernel)
  have t3' : m3 113 4 = m 113 4 := t3.trans (by rw [t2])
  refine wp_bind (w_coughs (tru := tru) H3 W2 (by rw [t3']; exact ht)) ?_
  rintro _ m4 ⟨rfl, H4, f4⟩
  have t4 : m4 113 = m3 113 := f4.at 113 (by decide)
  have H4 : HRep 2 LN (w3S LN tru w d) m4 := H4
  have f14 : Fr [(6, 6), (8, 10), (111, 115)] m m4 := (((f1.mono (by decide)).trans (f2.mono (by decide))).trans (f3.mono (by decide))).trans (f4.mono (by decide))
  have zd3 : zd (w3S LN tru w d) = zd w := by rw [← ez1]; unfold zd; rw [w3S_o (by decide)]
  have hcl : (clpS LN tru w d).1 < 2 ^ 31 := by
    have : ∀ k cl r, cl < 2 ^ zh (w2S LN tru w d) → (setS LN (w2S LN tru w d) d (rdyS (w2S LN tru w d)) (drvS tru (begS LN w d)) k cl r).1 < 2 ^ zh (w2S LN tru w d) := by
      intro k
      induction k with
      | zero => intro cl r h; exact h
      | succ k ih =>
        intro cl r h
        unfold setS
        split
        · exact h
        · exact ih _ _ (rndS_lt h _ (Nat.le_refl _))
    have := this 13 0 0 (pow_pos' _)
    have p := W2.p12
    unfold clpS
    omega
  have J : ∀ m5, HRep 2 LN (w3S LN tru w d) m5 → Fr [(6, 6), (8, 10), (111, 115)] m m5 → m5 113 4 = m 113 4 → Wp (f_X8_doWithAgains_J52 N (nI d) X (nI n) (nI i) (b2i (cgS LN tru w d)) (hanS LN tru w d) m5) Q := by
    intro m5 H5 f5 t5
    have N5 : Wp (f_X8_noteDone N (nI d) (b2i (cgS LN tru w d)) (hanS LN tru w d) m5) (fun _ m6 => HRep 2 LN (oneS LN tru w d) m6 ∧ Fr [(6, 6), (8, 10), (111, 115)] m m6 ∧ m6 113 4 = m 113 4) := by
      unfold f_X8_noteDone
      simp only [li_0, li_1, li_2, li_3, li_4, li_5, li_6, li_7, li_8, li_9, li_10, li_11, li_12, li_13, li_14, li_15, li_16, li_17, li_18, li_19, li_20, li_21, li_22, li_23, li_24, li_25, li_26, li_27, li_28, li_29, li_30, li_31, li_32, li_37, li_38, li_39, li_40, li_41, li_42, li_43, li_44, li_45, li_46, li_47, li_48, li_49, li_50, li_57, li_59, li_60, li_61, li_62, li_63, li_64, li_65, li_69, li_81, li_89, li_90, li_92, li_97, li_99, li_100, li_101, li_103, li_104, li_105, li_106, li_108, li_111, li_112, li_113, li_114, li_115, li_116, li_117, li_119, li_122, li_123, li_124, li_125, li_126, li_127, li_128, li_129, li_130, li_131, li_132, li_133, li_134, li_135, li_136, li_137, li_140, li_141, li_142, li_143, li_145, li_147, li_150, li_153, li_159, li_160, li_161, li_162, li_185, li_197, li_213, li_222, li_223, li_255, li_256, li_257, li_258, li_259, li_260, li_261, li_262, li_263, li_264, li_271, li_272, li_273, li_274, li_275, li_276, li_277, li_278, li_300, li_400, li_420, li_500, li_802, li_820, li_823, li_839, li_855, li_871, li_887, li_999, li_1000, li_1001, li_1002, li_1003, li_1004, li_1005, li_1006, li_1007, li_1008, li_1009, li_1010, li_1011, li_1012, li_1013, li_1014, li_1015, li_1016, li_1017, li_1018, li_1019, li_1020, li_1021, li_1022, li_1023, li_1707, li_4096, li_9999, li_65536, li_100000, li_1000000, li_1664525, li_100000000, li_252645135, li_858993459, li_1000000007, li_1013904223, li_1431655765, li_m1]
      rw [t5.trans ht]
      cases htru : tru with
      | false =>
        rw [if_neg (by decide)]
        refine wp_ret ⟨?_, f5, t5⟩
        have e0 : cgS LN tru w d = false := by rw [htru]; rfl
        have : oneS LN false w d = w3S LN false w d := by
          unfold oneS w4S
          rw [if_neg (by decide), if_neg (by rw [htru] at e0; rw [e0]; decide)]
        rw [this]
        rw [htru] at H5
        exact H5
      | true =>
        rw [if_pos (by decide)]
        have fin : ∀ m6, HRep 2 LN (w4S LN true w d) m6 → Fr [(6, 6), (8, 10), (111, 115)] m m6 → m6 113 4 = m 113 4 → Wp (f_X8_noteDone_J22 N (nI d) (b2i (cgS LN true w d)) (hanS LN true w d) m6) (fun _ m6 => HRep 2 LN (oneS LN true w d) m6 ∧ Fr [(6, 6), (8, 10), (111, 115)] m m6 ∧ m6 113 4 = m 113 4) := by
          intro m6 H6 f6 t6
          have W4 := W0.w4 (LN := LN) (tru := true) hd
          obtain ⟨a, b, h0, h4, hba, haB⟩ := hm.beg (LN := LN) hB W0 hd
          have e4 : w4S LN true w d 4 = nI b := (w4S_o (by decide) (by decide) (by decide)).trans h4
          unfold f_X8_noteDone_J22
          simp only [li_0, li_1, li_2, li_3, li_4, li_5, li_6, li_7, li_8, li_9, li_10, li_11, li_12, li_13, li_14, li_15, li_16, li_17, li_18, li_19, li_20, li_21, li_22, li_23, li_24, li_25, li_26, li_27, li_28, li_29, li_30, li_31, li_32, li_37, li_38, li_39, li_40, li_41, li_42, li_43, li_44, li_45, li_46, li_47, li_48, li_49, li_50, li_57, li_59, li_60, li_61, li_62, li_63, li_64, li_65, li_69, li_81, li_89, li_90, li_92, li_97, li_99, li_100, li_101, li_103, li_104, li_105, li_106, li_108, li_111, li_112, li_113, li_114, li_115, li_116, li_117, li_119, li_122, li_123, li_124, li_125, li_126, li_127, li_128, li_129, li_130, li_131, li_132, li_133, li_134, li_135, li_136, li_137, li_140, li_141, li_142, li_143, li_145, li_147, li_150, li_153, li_159, li_160, li_161, li_162, li_185, li_197, li_213, li_222, li_223, li_255, li_256, li_257, li_258, li_259, li_260, li_261, li_262, li_263, li_264, li_271, li_272, li_273, li_274, li_275, li_276, li_277, li_278, li_300, li_400, li_420, li_500, li_802, li_820, li_823, li_839, li_855, li_871, li_887, li_999, li_1000, li_1001, li_1002, li_1003, li_1004, li_1005, li_1006, li_1007, li_1008, li_1009, li_1010, li_1011, li_1012, li_1013, li_1014, li_1015, li_1016, li_1017, li_1018, li_1019, li_1020, li_1021, li_1022, li_1023, li_1707, li_4096, li_9999, li_65536, li_100000, li_1000000, li_1664525, li_100000000, li_252645135, li_858993459, li_1000000007, li_1013904223, li_1431655765, li_m1]
          rw [hr_hour H6 (by decide), bd_s, show houI 5 = 4 from rfl, e4]
          have eo : oneS LN true w d = nteS (w4S LN true w d) (if nI b = nI 0 then nI 0 else nI 1) (nI d) (hanS LN true w d) := by
            unfold oneS
            rw [if_pos rfl, e4]
          rw [eo]
          refine wp_ite (fun q => ?_) (fun q => ?_)
          · have hb0 : b = 0 := by
              rw [nI_leI (by omega) (by omega)] at q
              omega
            rw [if_pos (by rw [hb0])]
            refine wp_bind (w_note hN H6 W4) ?_
            rintro _ m7 ⟨H7, f7⟩
            exact wp_ret ⟨H7, f6.trans (f7.mono (by decide)), by rw [f7.at 113 (by decide)]; exact t6⟩
          · have hb0 : b ≠ 0 := fun z => q (by rw [z]; decide)
            rw [if_neg (nI_ne hb0 (by omega) (by decide))]
            refine wp_bind (w_note hN H6 W4) ?_
            rintro _ m7 ⟨H7, f7⟩
            exact wp_ret ⟨H7, f6.trans (f7.mono (by decide)), by rw [f7.at 113 (by decide)]; exact t6⟩
        rw [htru] at H5 W3
        cases hcg : cgS LN true w d with
        | false =>
          have : w4S LN true w d = w3S LN true w d := by
            unfold w4S
            rw [if_neg (by rw [hcg]; decide)]
          rw [if_pos (by decide)]
          rw [hcg] at fin
          exact fin m5 (by rw [this]; exact H5) f5 t5
        | true =>
          have : w4S LN true w d = nteS (w3S LN true w d) (nI 2) (nI d) (nI 0) := by
            unfold w4S
            rw [if_pos hcg]
          rw [if_neg (by decide)]
          rw [hcg] at fin
          refine wp_bind (w_note hN H5 W3) ?_
          rintro _ m6 ⟨H6, f6⟩
          exact fin m6 (by rw [this]; exact H6) (f5.trans (f6.mono (by decide))) (by rw [f6.at 113 (by decide)]; exact t5)
    unfold f_X8_doWithAgains_J52
    simp only [li_0, li_1, li_2, li_3, li_4, li_5, li_6, li_7, li_8, li_9, li_10, li_11, li_12, li_13, li_14, li_15, li_16, li_17, li_18, li_19, li_20, li_21, li_22, li_23, li_24, li_25, li_26, li_27, li_28, li_29, li_30, li_31, li_32, li_37, li_38, li_39, li_40, li_41, li_42, li_43, li_44, li_45, li_46, li_47, li_48, li_49, li_50, li_57, li_59, li_60, li_61, li_62, li_63, li_64, li_65, li_69, li_81, li_89, li_90, li_92, li_97, li_99, li_100, li_101, li_103, li_104, li_105, li_106, li_108, li_111, li_112, li_113, li_114, li_115, li_116, li_117, li_119, li_122, li_123, li_124, li_125, li_126, li_127, li_128, li_129, li_130, li_131, li_132, li_133, li_134, li_135, li_136, li_137, li_140, li_141, li_142, li_143, li_145, li_147, li_150, li_153, li_159, li_160, li_161, li_162, li_185, li_197, li_213, li_222, li_223, li_255, li_256, li_257, li_258, li_259, li_260, li_261, li_262, li_263, li_264, li_271, li_272, li_273, li_274, li_275, li_276, li_277, li_278, li_300, li_400, li_420, li_500, li_802, li_820, li_823, li_839, li_855, li_871, li_887, li_999, li_1000, li_1001, li_1002, li_1003, li_1004, li_1005, li_1006, li_1007, li_1008, li_1009, li_1010, li_1011, li_1012, li_1013, li_1014, li_1015, li_1016, li_1017, li_1018, li_1019, li_1020, li_1021, li_1022, li_1023, li_1707, li_4096, li_9999, li_65536, li_100000, li_1000000, li_1664525, li_100000000, li_252645135, li_858993459, li_1000000007, li_1013904223, li_1431655765, li_m1]
    refine wp_bind N5 ?_
    rintro _ m6 ⟨H6, f6, t6⟩
    have W6 := W0.one (LN := LN) (tru := tru) hd
    have eh : hndS (oneS LN tru w d) = hndS (w3S LN tru w d) := hndS_cg W3 (fun i hi => by
      rw [w3S_o (by omega)]
      exact oneS_o (by omega) (by omega) (by omega))
    have em : mayS (oneS LN tru w d) = mayS (w3S LN tru w d) := mayS_cg W3 (fun i hi => by
      rw [w3S_o (by omega)]
      exact oneS_o (by omega) (by omega) (by omega))
    have kk := k m6 H6 f6 t6
    unfold gonS at kk
    cases hcg : cgS LN tru w d with
    | true =>
      rw [hcg] at kk
      rw [if_neg (by decide), nI_up, nI_up]
      exact kk
    | false =>
      rw [hcg] at kk
      rw [if_pos (by decide), e_hands hN H6 W6, bd_s, eh]
      refine wp_ite (fun q => ?_) (fun q => ?_)
      · rw [decide_eq_false (Int32.not_le.mpr q)] at kk
        rw [nI_up, nI_up]
        exact kk
      · rw [decide_eq_true (Int32.not_lt.mp q)] at kk
        rw [e_may hN H6 W6, bd_s, em]
        cases hmay : mayS (w3S LN tru w d) with
        | false =>
          rw [hmay] at kk
          rw [if_pos (by decide), nI_up, nI_up]
          exact kk
        | true =>
          rw [hmay] at kk
          rw [if_neg (by decide), nI_up, nI_up]
          exact kk
  have J' := J
  unfold hanS at J'
  rw [show cghB tru (w2S LN tru w d) = cgS LN tru w d from rfl]
  cases hcg : cgS LN tru w d with
  | true =>
    rw [if_neg (by decide)]
    rw [hcg, if_pos rfl] at J'
    exact J' m4 H4 f14 (by rw [t4]; exact t3')
  | false =>
    rw [if_pos (by decide)]
    rw [hcg, if_neg (by decide)] at J'
    unfold f_X8_handsAt
    simp only [li_0, li_1, li_2, li_3, li_4, li_5, li_6, li_7, li_8, li_9, li_10, li_11, li_12, li_13, li_14, li_15, li_16, li_17, li_18, li_19, li_20, li_21, li_22, li_23, li_24, li_25, li_26, li_27, li_28, li_29, li_30, li_31, li_32, li_37, li_38, li_39, li_40, li_41, li_42, li_43, li_44, li_45, li_46, li_47, li_48, li_49, li_50, li_57, li_59, li_60, li_61, li_62, li_63, li_64, li_65, li_69, li_81, li_89, li_90, li_92, li_97, li_99, li_100, li_101, li_103, li_104, li_105, li_106, li_108, li_111, li_112, li_113, li_114, li_115, li_116, li_117, li_119, li_122, li_123, li_124, li_125, li_126, li_127, li_128, li_129, li_130, li_131, li_132, li_133, li_134, li_135, li_136, li_137, li_140, li_141, li_142, li_143, li_145, li_147, li_150, li_153, li_159, li_160, li_161, li_162, li_185, li_197, li_213, li_222, li_223, li_255, li_256, li_257, li_258, li_259, li_260, li_261, li_262, li_263, li_264, li_271, li_272, li_273, li_274, li_275, li_276, li_277, li_278, li_300, li_400, li_420, li_500, li_802, li_820, li_823, li_839, li_855, li_871, li_887, li_999, li_1000, li_1001, li_1002, li_1003, li_1004, li_1005, li_1006, li_1007, li_1008, li_1009, li_1010, li_1011, li_1012, li_1013, li_1014, li_1015, li_1016, li_1017, li_1018, li_1019, li_1020, li_1021, li_1022, li_1023, li_1707, li_4096, li_9999, li_65536, li_100000, li_1000000, li_1664525, li_100000000, li_252645135, li_858993459, li_1000000007, li_1013904223, li_1431655765, li_m1]
    have c5' : m4 113 5 = nI (clpS LN tru w d).1 := by rw [t4]; exact c5
    rw [c5', w_handsOf hN H4 W3 hcl, bd_s]
    refine wp_bd (wp_bind (w_loud hN H4 W3 (by rw [zd3]; exact hd)) ?_)
    rintro _ m5 ⟨rfl, f5⟩
    refine wp_ret ?_
    rw [nI_add]
    exact J' m5 (H4.fr W3.sml f5 (by decide +kernel)) (f14.trans (f5.mono (by decide))) (by rw [f5.at 113 (by decide), t4]; exact t3')
theorem dosS_wf {B : Nat} : ∀ (k : Nat) (w : Arr) (n : Nat), WFc w → WFm B w → B + 60 * k < 100000 → d < zd w → WFc (dosS LN tru d k w n).1 ∧ WFm (B + 60 * k) (dosS LN tru d k w n).1 ∧ zd (dosS LN tru d k w n).1 = zd w
  | 0, w, n, W0, h, hB, hd => ⟨W0, h, rfl⟩
  | k + 1, w, n, W0, h, hB, hd => by
    have l := W0.lzd
    have hz := zd_one (LN := LN) (tru := tru) (w := w) (d := d) (by omega)
    have W1 := W0.one (LN := LN) (tru := tru) hd
    have h1 := h.one (LN := LN) (tru := tru) (by omega) W0 hd
    unfold dosS
    split
    · have := dosS_wf (B := B + 60) k (oneS LN tru w d) (n + 1) W1 h1 (by omega) (by rw [hz]; exact hd)
      refine ⟨this.1, ?_, this.2.2.trans hz⟩
      rw [show B + 60 * (k + 1) = B + 60 + 60 * k by omega]
      exact this.2.1
    · refine ⟨W1, ?_, hz⟩
      obtain ⟨a, b, h0, h4, hba, haB⟩ := h1
      exact ⟨a, b, h0, h4, hba, by omega⟩
theorem dosS_law {B : Nat} : ∀ (k : Nat) (w : Arr) (n : Nat), WFc w → lawW w LN → d < zd w → lawW (dosS LN tru d k w n).1 LN
  | 0, w, n, W0, h, hd => h
  | k + 1, w, n, W0, h, hd => by
    have l := W0.lzd
    have hz := zd_one (LN := LN) (tru := tru) (w := w) (d := d) (by omega)
    unfold dosS
    split
    · exact dosS_law (B := B) k _ _ (W0.one hd) (h.one W0 hd) (by rw [hz]; exact hd)
    · exact h.one W0 hd
/-- places that doing leaves alone -/
theorem dosS_o {i : Nat} : ∀ (k : Nat) (w : Arr) (n : Nat), i ≠ 4 ∧ i ≠ 3 ∧ i ≠ 0 ∧ i ≠ 2 ∧ i ≠ 29 + d ∧ i ≠ 21 + d → i ≠ 5 → i ≠ 6 → i < 223 → (dosS LN tru d k w n).1 i = w i
  | 0, w, n, h, h5, h6, h2 => rfl
  | k + 1, w, n, h, h5, h6, h2 => by
    have e : oneS LN tru w d i = w i := (oneS_o h5 h6 h2).trans (begS_o h)
    unfold dosS
    split
    · exact (dosS_o k _ _ h h5 h6 h2).trans e
    · exact e
theorem dosS_n : ∀ (k : Nat) (w : Arr) (n : Nat), (dosS LN tru d k w n).2 ≤ n + k
  | 0, w, n => Nat.le_refl _
  | k + 1, w, n => by
    unfold dosS
    split
    · have := dosS_n k (oneS LN tru w d) (n + 1)
      omega
    · show n + 1 ≤ _
      omega
theorem w_doesC {B : Nat} (hN : 20000 ≤ N) (H : HRep 2 LN w m) (W0 : WFc w) (hm : WFm B w) (hB : B < 90000) (hd : d < zd w) (ht : m 113 4 = nI (if tru = true then 0 else 1)) :
    Wp (f_X8_doWithAgains N (nI d) m) (fun v m' => v = nI (dosS LN tru d 21 w 0).2 ∧ HRep 2 LN (dosS LN tru d 21 w 0).1 m' ∧ Fr [(6, 6), (8, 10), (111, 115)] m m' ∧ m' 113 4 = m 113 4) := by
  have l := W0.lzd
  unfold f_X8_doWithAgains
  generalize hT : dosS LN tru d 21 w 0 = T
  refine wp_it3 (fun q a b c m2 => (∃ k w1 n, k ≤ 21 ∧ q = k + 1 ∧ a = nI n ∧ b = nI 1 ∧ c = nI (21 - k) ∧ dosS LN tru d k w1 n = T ∧ HRep 2 LN w1 m2 ∧ WFc w1 ∧ WFm (B + 60 * (21 - k)) w1 ∧ zd w1 = zd w ∧ Fr [(6, 6), (8, 10), (111, 115)] m m2 ∧ m2 113 4 = m 113 4)
    ∨ (a = nI T.2 ∧ b = nI 0 ∧ HRep 2 LN T.1 m2 ∧ Fr [(6, 6), (8, 10), (111, 115)] m m2 ∧ m2 113 4 = m 113 4)) ?_ N 22 _ _ _ _ (by omega)
    (Or.inl ⟨21, w, 0, Nat.le_refl _, rfl, rfl, rfl, rfl, hT, H, W0, by simpa using hm, rfl, Fr.rf, rfl⟩)
  rintro q X a b c m2 (⟨k, w1, n, hk, rfl, rfl, rfl, rfl, hs, H1, W1, hm1, hz, f1, t1⟩ | ⟨rfl, rfl, H1, f1, t1⟩) hX
  · match k, hk, hs, hm1, hX with
    | 0, _, hs, hm1, hX =>
      unfold f_X8_doWithAgains_L7
      simp only [li_0, li_1, li_2, li_3, li_4, li_5, li_6, li_7, li_8, li_9, li_10, li_11, li_12, li_13, li_14, li_15, li_16, li_17, li_18, li_19, li_20, li_21, li_22, li_23, li_24, li_25, li_26, li_27, li_28, li_29, li_30, li_31, li_32, li_37, li_38, li_39, li_40, li_41, li_42, li_43, li_44, li_45, li_46, li_47, li_48, li_49, li_50, li_57, li_59, li_60, li_61, li_62, li_63, li_64, li_65, li_69, li_81, li_89, li_90, li_92, li_97, li_99, li_100, li_101, li_103, li_104, li_105, li_106, li_108, li_111, li_112, li_113, li_114, li_115, li_116, li_117, li_119, li_122, li_123, li_124, li_125, li_126, li_127, li_128, li_129, li_130, li_131, li_132, li_133, li_134, li_135, li_136, li_137, li_140, li_141, li_142, li_143, li_145, li_147, li_150, li_153, li_159, li_160, li_161, li_162, li_185, li_197, li_213, li_222, li_223, li_255, li_256, li_257, li_258, li_259, li_260, li_261, li_262, li_263, li_264, li_271, li_272, li_273, li_274, li_275, li_276, li_277, li_278, li_300, li_400, li_420, li_500, li_802, li_820, li_823, li_839, li_855, li_871, li_887, li_999, li_1000, li_1001, li_1002, li_1003, li_1004, li_1005, li_1006, li_1007, li_1008, li_1009, li_1010, li_1011, li_1012, li_1013, li_1014, li_1015, li_1016, li_1017, li_1018, li_1019, li_1020, li_1021, li_1022, li_1023, li_1707, li_4096, li_9999, li_65536, li_100000, li_1000000, li_1664525, li_100000000, li_252645135, li_858993459, li_1000000007, li_1013904223, li_1431655765, li_m1]
      rw [if_pos (nI_lt (by decide) (by decide))]
      cases hs
      exact wp_ret ⟨rfl, H1, f1, t1⟩
    | k + 1, hk, hs, hm1, hX =>
      refine w_oneC (tru := tru) hN H1 W1 hm1 (by omega) (by rw [hz]; exact hd) (by rw [t1]; exact ht) (by omega) ?_
      intro m3 H3 f3 t3
      have hz3 := zd_one (LN := LN) (tru := tru) (w := w1) (d := d) (by omega)
      unfold dosS at hs
      cases hg : gonS LN tru w1 d with
      | true =>
        rw [if_pos hg] at hs
        refine hX (k + 1) _ _ _ _ (by omega) (Or.inl ⟨k, oneS LN tru w1 d, n + 1, by omega, rfl, rfl, rfl, by congr 1; omega, hs, H3, W1.one (by rw [hz]; exact hd), ?_, hz3.trans hz, f1.trans f3, t3.trans t1⟩)
        have := hm1.one (LN := LN) (tru := tru) (by omega) W1 (by rw [hz]; exact hd)
        rw [show B + 60 * (21 - k) = B + 60 * (21 - (k + 1)) + 60 by omega]
        exact this
      | false =>
        rw [if_neg (by rw [hg]; decide)] at hs
        refine hX 0 _ _ _ _ (by omega) (Or.inr ⟨by rw [← hs], rfl, by rw [← hs]; exact H3, f1.trans f3, t3.trans t1⟩)
  · unfold f_X8_doWithAgains_L7
    simp only [li_0, li_1, li_2, li_3, li_4, li_5, li_6, li_7, li_8, li_9, li_10, li_11, li_12, li_13, li_14, li_15, li_16, li_17, li_18, li_19, li_20, li_21, li_22, li_23, li_24, li_25, li_26, li_27, li_28, li_29, li_30, li_31, li_32, li_37, li_38, li_39, li_40, li_41, li_42, li_43, li_44, li_45, li_46, li_47, li_48, li_49, li_50, li_57, li_59, li_60, li_61, li_62, li_63, li_64, li_65, li_69, li_81, li_89, li_90, li_92, li_97, li_99, li_100, li_101, li_103, li_104, li_105, li_106, li_108, li_111, li_112, li_113, li_114, li_115, li_116, li_117, li_119, li_122, li_123, li_124, li_125, li_126, li_127, li_128, li_129, li_130, li_131, li_132, li_133, li_134, li_135, li_136, li_137, li_140, li_141, li_142, li_143, li_145, li_147, li_150, li_153, li_159, li_160, li_161, li_162, li_185, li_197, li_213, li_222, li_223, li_255, li_256, li_257, li_258, li_259, li_260, li_261, li_262, li_263, li_264, li_271, li_272, li_273, li_274, li_275, li_276, li_277, li_278, li_300, li_400, li_420, li_500, li_802, li_820, li_823, li_839, li_855, li_871, li_887, li_999, li_1000, li_1001, li_1002, li_1003, li_1004, li_1005, li_1006, li_1007, li_1008, li_1009, li_1010, li_1011, li_1012, li_1013, li_1014, li_1015, li_1016, li_1017, li_1018, li_1019, li_1020, li_1021, li_1022, li_1023, li_1707, li_4096, li_9999, li_65536, li_100000, li_1000000, li_1664525, li_100000000, li_252645135, li_858993459, li_1000000007, li_1013904223, li_1431655765, li_m1]
    refine wp_ite (fun _ => wp_ret ⟨rfl, H1, f1, t1⟩) (fun _ => ?_)
    rw [if_pos trivial]
    exact wp_ret ⟨rfl, H1, f1, t1⟩
end DOES
