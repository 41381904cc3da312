/-! draws, coughs, notes -/
def drwS (s : Int32) : Int32 := s * nI 1664525 + nI 1013904223
def valS (s : Int32) : Int32 := irm (ushr s (nI 8)) (nI 1000)
def dstS (w : Arr) : Nat → Int32
  | 0 => w 5
  | i + 1 => if (zt w).testBit i = true then drwS (dstS w i) else dstS w i
def drvS (tru : Bool) (w : Arr) (h : Nat) : Int32 := if tru = true then valS (drwS (dstS w h)) else nI 500
def dwS (tru : Bool) (w : Arr) : Arr := if tru = true then upd w 5 (dstS w (zh w)) else w
def cghB (tru : Bool) (w : Arr) : Bool := tru && decide (nI 0 < w 39) && decide (valS (drwS (w 5)) < w 39)
def cghW (tru : Bool) (w : Arr) : Arr := if (tru && decide (nI 0 < w 39)) = true then upd w 5 (drwS (w 5)) else w
def nteS (w : Arr) (a b c : Int32) : Arr := if w 6 = nI 150 then w else upd (upd (upd (upd (upd w (223 + 4 * zb w) (w 1)) (223 + 4 * zb w + 1) a) (223 + 4 * zb w + 2) b) (223 + 4 * zb w + 3) c) 6 (nI (zb w + 1))
section ONE
variable {w w' : Arr} {LN : List Lin} {m m' : Mem} {N d : Nat} {tru : Bool}
theorem upd_self {f : Arr} {i : Nat} : upd f i (f i) = f := by
  funext j
  by_cases e : j = i
  · subst e; exact ud_s
  · exact ud_n e
theorem upd_twice {f : Arr} {i : Nat} {a b : Int32} : upd (upd f i a) i b = upd f i b := by
  funext j
  by_cases e : j = i
  · subst e; rw [ud_s, ud_s]
  · rw [ud_n e, ud_n e, ud_n e]
theorem nteS_o {a b c : Int32} {i : Nat} (h : i ≠ 6) (h2 : i < 223) : nteS w a b c i = w i := by
  unfold nteS
  split
  · rfl
  · rw [ud_n h, ud_n (by omega), ud_n (by omega), ud_n (by omega), ud_n (by omega)]
theorem nteS_hi {a b c : Int32} {i : Nat} (W0 : WFc w) (h2 : 823 ≤ i) : nteS w a b c i = w i := by
  have l := W0.lzb
  have e := W0.h6
  unfold nteS
  split
  · rfl
  · rename_i hne
    have : zb w ≠ 150 := fun z => hne (by rw [e, z])
    rw [ud_n (by omega), ud_n (by omega), ud_n (by omega), ud_n (by omega), ud_n (by omega)]
theorem WFc.nte (W0 : WFc w) {a b c : Int32} : WFc (nteS w a b c) := by
  have l := W0.lzb
  have e := W0.h6
  refine W0.cg6 (fun i hi h6 => nteS_o h6 (by simp [ownF] at hi; omega)) ?_
  unfold nteS
  split
  · exact W0.2.2.1
  · rename_i hne
    have : zb w ≠ 150 := fun z => hne (by rw [e, z])
    rw [ud_s]
    exact isn.nI (by omega)
theorem lawW.nte (h : lawW w LN) (W0 : WFc w) {a b c : Int32} : lawW (nteS w a b c) LN := h.cg (fun i hi => by
  rcases hi with rfl | hi
  · exact nteS_o (by decide) (by decide)
  · exact nteS_hi W0 hi)
theorem WFc.dw (W0 : WFc w) : WFc (dwS tru w) := by
  unfold dwS
  split
  · exact W0.up (by decide)
  · exact W0
theorem dwS_o {i : Nat} (h : i ≠ 5) : dwS tru w i = w i := by
  unfold dwS
  split
  · exact ud_n h
  · rfl
theorem cghW_o {i : Nat} (h : i ≠ 5) : cghW tru w i = w i := by
  unfold cghW
  split
  · exact ud_n h
  · rfl
theorem WFc.cgh (W0 : WFc w) : WFc (cghW tru w) := by
  unfold cghW
  split
  · exact W0.up (by decide)
  · exact W0
/-- a note of the class -/
theorem w_note {a b c : Int32} (hN : 20000 ≤ N) (H : HRep 2 LN w m) (W0 : WFc w) : Wp (f_X1_note N a b c m) (fun _ m' => HRep 2 LN (nteS w a b c) m' ∧ Fr [(9, 10)] m m') := by
  have l := W0.lzb
  have e := W0.h6
  have hb := H.boo
  unfold f_X1_note
  simp only [li_0, li_1, li_2, li_3, li_4, li_5, li_6, li_7, li_8, li_9, li_10, li_11, li_12, li_13, li_14, li_15, li_16, li_17, li_18, li_19, li_20, li_21, li_22, li_23, li_24, li_25, li_26, li_27, li_28, li_29, li_30, li_31, li_32, li_37, li_38, li_39, li_40, li_41, li_42, li_43, li_44, li_45, li_46, li_47, li_48, li_49, li_50, li_57, li_59, li_60, li_61, li_62, li_63, li_64, li_65, li_69, li_81, li_89, li_90, li_92, li_97, li_99, li_100, li_101, li_103, li_104, li_105, li_106, li_108, li_111, li_112, li_113, li_114, li_115, li_116, li_117, li_119, li_122, li_123, li_124, li_125, li_126, li_127, li_128, li_129, li_130, li_131, li_132, li_133, li_134, li_135, li_136, li_137, li_140, li_141, li_142, li_143, li_145, li_147, li_150, li_153, li_159, li_160, li_161, li_162, li_185, li_197, li_213, li_222, li_223, li_255, li_256, li_257, li_258, li_259, li_260, li_261, li_262, li_263, li_264, li_271, li_272, li_273, li_274, li_275, li_276, li_277, li_278, li_300, li_400, li_420, li_500, li_802, li_820, li_823, li_839, li_855, li_871, li_887, li_999, li_1000, li_1001, li_1002, li_1003, li_1004, li_1005, li_1006, li_1007, li_1008, li_1009, li_1010, li_1011, li_1012, li_1013, li_1014, li_1015, li_1016, li_1017, li_1018, li_1019, li_1020, li_1021, li_1022, li_1023, li_1707, li_4096, li_9999, li_65536, li_100000, li_1000000, li_1664525, li_100000000, li_252645135, li_858993459, li_1000000007, li_1013904223, li_1431655765, li_m1]
  rw [hr_hou H (by decide), bd_s, show houI 1 = 1 from rfl]
  have e3 : m 9 3 = nI (zb w) := hb.1.trans e
  by_cases hq : zb w = 150
  · rw [e_addF H.fx (show (9, 150, 4) ∈ tbs by decide) (by rw [e3, hq]), bd_s]
    have : nteS w a b c = w := by
      unfold nteS
      rw [if_pos (by rw [e, hq])]
    rw [this]
    exact wp_ret ⟨H, Fr.rf⟩
  · rw [e_add hN H.fx (show (9, 150, 4) ∈ tbs by decide) e3 (by omega), bd_s]
    have en : nteS w a b c = upd (upd (upd (upd (upd w (223 + 4 * zb w) (w 1)) (223 + 4 * zb w + 1) a) (223 + 4 * zb w + 2) b) (223 + 4 * zb w + 3) c) 6 (nI (zb w + 1)) := by
      unfold nteS
      rw [if_neg (by rw [e]; exact nI_ne (by omega) (by omega) (by omega))]
    have e6 : nteS w a b c 6 = nI (zb w + 1) := by rw [en, ud_s]
    have ez : zb (nteS w a b c) = zb w + 1 := by
      unfold zb at *
      rw [e6, nv_nI (by omega)]
    refine wp_ret ⟨H.one (j0 := 7) W0.sml (by decide) (H.fx.add (show (9, 150, 4) ∈ tbs by decide)) (fun k h1 h2 h3 h4 => ?_) ⟨?_, fun i hi c' hc' => ?_⟩ (fun j hj hne i hi => nteS_o ?_ ?_), ?_⟩
    · unfold madd
      rw [mset_ne (by omega)]
      funext j
      exact mrow_o (by omega)
    · show madd m 9 4 (zb w) (w 1) a b c 9 3 = _
      rw [e6]
      exact mset_at _ _ _ _
    · show madd m 9 4 (zb w) (w 1) a b c 10 (i * 4 + c') = _
      unfold madd
      rw [mset_k (by decide)]
      by_cases hi2 : i = zb w
      · subst hi2
        unfold mrow
        rw [if_pos ⟨rfl, by omega, by omega⟩, Nat.add_sub_cancel_left, en, ud_n (by omega)]
        match c', hc' with
        | 0, _ => rw [ud_n (by omega), ud_n (by omega), ud_n (by omega), Nat.add_zero, ud_s]; rfl
        | 1, _ => rw [ud_n (by omega), ud_n (by omega), ud_s]; rfl
        | 2, _ => rw [ud_n (by omega), ud_s]; rfl
        | 3, _ => rw [ud_s]; rfl
      · unfold mrow
        rw [if_neg (by omega), en, ud_n (by omega), ud_n (by omega), ud_n (by omega), ud_n (by omega), ud_n (by omega)]
        exact hb.2 i hi c' hc'
    · rintro rfl
      have q : ∀ j ∈ cmps, j ≠ 7 → own j 6 = true → j = 5 := by decide
      have := q j hj hne hi
      subst this
      simp [own] at hi
    · have hj' : j = 1 ∨ j = 3 ∨ j = 5 ∨ j = 7 ∨ j = 13 ∨ j = 15 ∨ j = 17 ∨ j = 19 ∨ j = 21 := by simpa [cmps] using hj
      rcases hj' with rfl | rfl | rfl | rfl | rfl | rfl | rfl | rfl | rfl
      all_goals simp [own] at hi
      all_goals omega
    · intro k hk
      have := hk (9, 10) List.mem_cons_self
      simp only at this
      unfold madd
      rw [mset_ne (by omega)]
      funext j
      exact mrow_o (by omega)
/-- a note of the reference -/
theorem w_noteM {a b c : Int32} (hm : m 124 = w) (W0 : WFc w) (h26 : m 123 26 = nI 1) : Wp (f_X12_notes N a b c m) (fun _ m' => m' 124 = nteS w a b c ∧ Fr [(124, 124)] m m') := by
  have l := W0.lzb
  have e := W0.h6
  unfold f_X12_notes
  simp only [li_0, li_1, li_2, li_3, li_4, li_5, li_6, li_7, li_8, li_9, li_10, li_11, li_12, li_13, li_14, li_15, li_16, li_17, li_18, li_19, li_20, li_21, li_22, li_23, li_24, li_25, li_26, li_27, li_28, li_29, li_30, li_31, li_32, li_37, li_38, li_39, li_40, li_41, li_42, li_43, li_44, li_45, li_46, li_47, li_48, li_49, li_50, li_57, li_59, li_60, li_61, li_62, li_63, li_64, li_65, li_69, li_81, li_89, li_90, li_92, li_97, li_99, li_100, li_101, li_103, li_104, li_105, li_106, li_108, li_111, li_112, li_113, li_114, li_115, li_116, li_117, li_119, li_122, li_123, li_124, li_125, li_126, li_127, li_128, li_129, li_130, li_131, li_132, li_133, li_134, li_135, li_136, li_137, li_140, li_141, li_142, li_143, li_145, li_147, li_150, li_153, li_159, li_160, li_161, li_162, li_185, li_197, li_213, li_222, li_223, li_255, li_256, li_257, li_258, li_259, li_260, li_261, li_262, li_263, li_264, li_271, li_272, li_273, li_274, li_275, li_276, li_277, li_278, li_300, li_400, li_420, li_500, li_802, li_820, li_823, li_839, li_855, li_871, li_887, li_999, li_1000, li_1001, li_1002, li_1003, li_1004, li_1005, li_1006, li_1007, li_1008, li_1009, li_1010, li_1011, li_1012, li_1013, li_1014, li_1015, li_1016, li_1017, li_1018, li_1019, li_1020, li_1021, li_1022, li_1023, li_1707, li_4096, li_9999, li_65536, li_100000, li_1000000, li_1664525, li_100000000, li_252645135, li_858993459, li_1000000007, li_1013904223, li_1431655765, li_m1]
  rw [h26, if_neg (nI_ne (by decide) (by decide) (by decide)), hm, e]
  refine wp_ite (fun q => ?_) (fun q => ?_)
  · refine wp_ret ⟨?_, Fr.rf⟩
    unfold nteS
    rw [if_pos (by rw [e]; exact q), hm]
  · have hq : zb w ≠ 150 := fun z => q (by rw [z])
    simp only [pk_mul, nI_add]
    rw [bnd_s, inb_nI (by omega) (by omega), chk_t, nI_clamp (by omega), bnd_s]
    simp only [nI_add]
    rw [inb_nI (by omega) (by omega), chk_t, nI_clamp (by omega), bnd_s, inb_nI (by omega) (by omega), chk_t, nI_clamp (by omega), bnd_s, inb_nI (by omega) (by omega), chk_t, nI_clamp (by omega), bnd_s, bnd_s]
    refine wp_ret ⟨?_, Fr.set (Fr.set (Fr.set (Fr.set (Fr.set Fr.rf (by decide)) (by decide)) (by decide)) (by decide)) (by decide)⟩
    rw [mset_eq, mset_eq, mset_eq, mset_eq, mset_eq, hm]
    unfold nteS
    rw [if_neg (by rw [e]; exact nI_ne hq (by omega) (by decide)), ud_n (show 6 ≠ 223 + 4 * zb w + 3 by omega), ud_n (show 6 ≠ 223 + 4 * zb w + 2 by omega), ud_n (show 6 ≠ 223 + 4 * zb w + 1 by omega), ud_n (show 6 ≠ 223 + 4 * zb w by omega), e, nI_add]
/-- a draw of the class -/
theorem w_draw (H : HRep 2 LN w m) (W0 : WFc w) : Wp (f_X8_draw N (nI 1000) m) (fun v m' => v = valS (drwS (w 5)) ∧ m' = mset m 8 6 (drwS (w 5)) ∧ HRep 2 LN (upd w 5 (drwS (w 5))) m') := by
  unfold f_X8_draw
  simp only [li_0, li_1, li_2, li_3, li_4, li_5, li_6, li_7, li_8, li_9, li_10, li_11, li_12, li_13, li_14, li_15, li_16, li_17, li_18, li_19, li_20, li_21, li_22, li_23, li_24, li_25, li_26, li_27, li_28, li_29, li_30, li_31, li_32, li_37, li_38, li_39, li_40, li_41, li_42, li_43, li_44, li_45, li_46, li_47, li_48, li_49, li_50, li_57, li_59, li_60, li_61, li_62, li_63, li_64, li_65, li_69, li_81, li_89, li_90, li_92, li_97, li_99, li_100, li_101, li_103, li_104, li_105, li_106, li_108, li_111, li_112, li_113, li_114, li_115, li_116, li_117, li_119, li_122, li_123, li_124, li_125, li_126, li_127, li_128, li_129, li_130, li_131, li_132, li_133, li_134, li_135, li_136, li_137, li_140, li_141, li_142, li_143, li_145, li_147, li_150, li_153, li_159, li_160, li_161, li_162, li_185, li_197, li_213, li_222, li_223, li_255, li_256, li_257, li_258, li_259, li_260, li_261, li_262, li_263, li_264, li_271, li_272, li_273, li_274, li_275, li_276, li_277, li_278, li_300, li_400, li_420, li_500, li_802, li_820, li_823, li_839, li_855, li_871, li_887, li_999, li_1000, li_1001, li_1002, li_1003, li_1004, li_1005, li_1006, li_1007, li_1008, li_1009, li_1010, li_1011, li_1012, li_1013, li_1014, li_1015, li_1016, li_1017, li_1018, li_1019, li_1020, li_1021, li_1022, li_1023, li_1707, li_4096, li_9999, li_65536, li_100000, li_1000000, li_1664525, li_100000000, li_252645135, li_858993459, li_1000000007, li_1013904223, li_1431655765, li_m1]
  rw [hr_hour H (by decide), bd_s, bnd_s, hr_setHour H (by decide), bd_s, if_neg (show ¬ nI 1000 ≤ nI 0 by decide), decide_eq_true (show nI 1000 ≠ nI 0 by decide), chk_t]
  exact wp_ret ⟨rfl, rfl, H.hou_set (c := 6) W0 (by decide)⟩
theorem w_drawM (hm : m 124 = w) : Wp (f_X12_draw N (nI 1000) m) (fun v m' => v = valS (drwS (w 5)) ∧ m' 124 = upd w 5 (drwS (w 5)) ∧ Fr [(124, 124)] m m') := by
  unfold f_X12_draw
  simp only [li_0, li_1, li_2, li_3, li_4, li_5, li_6, li_7, li_8, li_9, li_10, li_11, li_12, li_13, li_14, li_15, li_16, li_17, li_18, li_19, li_20, li_21, li_22, li_23, li_24, li_25, li_26, li_27, li_28, li_29, li_30, li_31, li_32, li_37, li_38, li_39, li_40, li_41, li_42, li_43, li_44, li_45, li_46, li_47, li_48, li_49, li_50, li_57, li_59, li_60, li_61, li_62, li_63, li_64, li_65, li_69, li_81, li_89, li_90, li_92, li_97, li_99, li_100, li_101, li_103, li_104, li_105, li_106, li_108, li_111, li_112, li_113, li_114, li_115, li_116, li_117, li_119, li_122, li_123, li_124, li_125, li_126, li_127, li_128, li_129, li_130, li_131, li_132, li_133, li_134, li_135, li_136, li_137, li_140, li_141, li_142, li_143, li_145, li_147, li_150, li_153, li_159, li_160, li_161, li_162, li_185, li_197, li_213, li_222, li_223, li_255, li_256, li_257, li_258, li_259, li_260, li_261, li_262, li_263, li_264, li_271, li_272, li_273, li_274, li_275, li_276, li_277, li_278, li_300, li_400, li_420, li_500, li_802, li_820, li_823, li_839, li_855, li_871, li_887, li_999, li_1000, li_1001, li_1002, li_1003, li_1004, li_1005, li_1006, li_1007, li_1008, li_1009, li_1010, li_1011, li_1012, li_1013, li_1014, li_1015, li_1016, li_1017, li_1018, li_1019, li_1020, li_1021, li_1022, li_1023, li_1707, li_4096, li_9999, li_65536, li_100000, li_1000000, li_1664525, li_100000000, li_252645135, li_858993459, li_1000000007, li_1013904223, li_1431655765, li_m1]
  rw [bnd_s, decide_eq_true (show nI 1000 ≠ nI 0 by decide), chk_t, mset_at, hm]
  have e : nI 1664525 * w 5 + nI 1013904223 = drwS (w 5) := by
    unfold drwS
    rw [Int32.mul_comm]
  rw [e]
  exact wp_ret ⟨rfl, by rw [mset_eq, hm], Fr.set Fr.rf (by decide)⟩
theorem zt_5 {v : Int32} : zt (upd w 5 v) = zt w := by unfold zt; rw [ud_n (by decide)]
theorem zh_5 {v : Int32} : zh (upd w 5 v) = zh w := by unfold zh; rw [ud_n (by decide)]
theorem w_draws (hN : 20000 ≤ N) (H : HRep 2 LN w m) (W0 : WFc w) (ht : m 113 4 = nI (if tru = true then 0 else 1)) :
    Wp (f_X8_drawEach N m) (fun _ m' => HRep 2 LN (dwS tru w) m' ∧ Fr [(8, 8), (114, 114)] m m' ∧ ∀ h, h < zh w → (zt w).testBit h = true → (if m' 113 4 = nI 0 then m' 114 h else nI 500) = drvS tru w h) := by
  have l := W0.lzh
  unfold f_X8_drawEach
  refine wp_it1 (fun n a m' => ∃ i, i ≤ zh w ∧ n = zh w - i ∧ a = nI i ∧ HRep 2 LN (upd w 5 (if tru = true then dstS w i else w 5)) m' ∧ Fr [(8, 8), (114, 114)] m m' ∧ (tru = true → ∀ h, h < i → (zt w).testBit h = true → m' 114 h = valS (drwS (dstS w h)))) ?_ N (zh w) _ _ (by omega)
    ⟨0, by omega, rfl, rfl, by
      have : (if tru = true then dstS w 0 else w 5) = w 5 := by
        split <;> rfl
      rw [this, upd_self]
      exact H, Fr.rf, fun _ h hh => absurd hh (by omega)⟩
  rintro n X a m' ⟨i, hi, rfl, rfl, H', f', hd⟩ hX
  have e113 : m' 113 = m 113 := f'.at 113 (by decide)
  have W1 : WFc (upd w 5 (if tru = true then dstS w i else w 5)) := W0.up (by decide)
  unfold f_X8_drawEach_L2
  simp only [li_0, li_1, li_2, li_3, li_4, li_5, li_6, li_7, li_8, li_9, li_10, li_11, li_12, li_13, li_14, li_15, li_16, li_17, li_18, li_19, li_20, li_21, li_22, li_23, li_24, li_25, li_26, li_27, li_28, li_29, li_30, li_31, li_32, li_37, li_38, li_39, li_40, li_41, li_42, li_43, li_44, li_45, li_46, li_47, li_48, li_49, li_50, li_57, li_59, li_60, li_61, li_62, li_63, li_64, li_65, li_69, li_81, li_89, li_90, li_92, li_97, li_99, li_100, li_101, li_103, li_104, li_105, li_106, li_108, li_111, li_112, li_113, li_114, li_115, li_116, li_117, li_119, li_122, li_123, li_124, li_125, li_126, li_127, li_128, li_129, li_130, li_131, li_132, li_133, li_134, li_135, li_136, li_137, li_140, li_141, li_142, li_143, li_145, li_147, li_150, li_153, li_159, li_160, li_161, li_162, li_185, li_197, li_213, li_222, li_223, li_255, li_256, li_257, li_258, li_259, li_260, li_261, li_262, li_263, li_264, li_271, li_272, li_273, li_274, li_275, li_276, li_277, li_278, li_300, li_400, li_420, li_500, li_802, li_820, li_823, li_839, li_855, li_871, li_887, li_999, li_1000, li_1001, li_1002, li_1003, li_1004, li_1005, li_1006, li_1007, li_1008, li_1009, li_1010, li_1011, li_1012, li_1013, li_1014, li_1015, li_1016, li_1017, li_1018, li_1019, li_1020, li_1021, li_1022, li_1023, li_1707, li_4096, li_9999, li_65536, li_100000, li_1000000, li_1664525, li_100000000, li_252645135, li_858993459, li_1000000007, li_1013904223, li_1431655765, li_m1]
  rw [H'.hea.1, ud_n (by decide), W0.h37]
  have done : (tru = false ∨ i = zh w) → Wp (some (nI 0, m')) (fun _ m' => HRep 2 LN (dwS tru w) m' ∧ Fr [(8, 8), (114, 114)] m m' ∧ ∀ h, h < zh w → (zt w).testBit h = true → (if m' 113 4 = nI 0 then m' 114 h else nI 500) = drvS tru w h) := by
    intro hq
    refine wp_ret ⟨?_, f', fun h hh hb => ?_⟩
    · cases htru : tru with
      | false =>
        rw [htru, if_neg (by decide), upd_self] at H'
        exact H'
      | true =>
        have hi2 : i = zh w := hq.resolve_left (by rw [htru]; decide)
        rw [htru, if_pos rfl, hi2] at H'
        exact H'
    · rw [e113, ht]
      cases htru : tru with
      | false =>
        rw [if_neg (by decide)]
        unfold drvS
        rw [if_neg (by decide)]
      | true =>
        have hi2 : i = zh w := hq.resolve_left (by rw [htru]; decide)
        rw [if_pos (by decide)]
        unfold drvS
        rw [if_pos rfl]
        exact hd htru h (by omega) hb
  refine wp_ite (fun q => ?_) (fun q => ?_)
  · rw [nI_leI (by omega) (by omega)] at q
    exact done (Or.inr (by omega))
  · rw [nI_leI (by omega) (by omega)] at q
    rw [if_neg (nI_ge (by omega) (by omega)), e113, ht]
    cases tru with
    | false =>
      rw [if_neg (by decide)]
      exact done (Or.inl rfl)
    | true =>
      rw [if_pos rfl] at H' W1
      rw [if_pos (by decide), hr_hea H' W1 (by rw [zh_5]; omega) (by decide), bd_s, show heaV (upd w 5 (dstS w i)) i 3 = b2i ((zt (upd w 5 (dstS w i))).testBit i) from rfl, zt_5]
      cases hb : (zt w).testBit i with
      | false =>
        rw [if_neg (by decide), nI_up]
        refine hX (zh w - (i + 1)) _ _ (by omega) ⟨i + 1, by omega, rfl, rfl, ?_, f', fun ht h hh hb2 => ?_⟩
        · rw [if_pos rfl]
          show HRep 2 LN (upd w 5 (if _ then _ else _)) m'
          rw [if_neg (by rw [hb]; decide)]
          exact H'
        · by_cases e : h = i
          · subst e; rw [hb] at hb2; cases hb2
          · exact hd ht h (by omega) hb2
      | true =>
        rw [if_pos (by decide)]
        refine wp_bind (w_draw H' W1) ?_
        rintro v m2 ⟨rfl, rfl, H2⟩
        rw [ud_s] at H2 ⊢
        rw [inb_nI (by omega) (by omega), chk_t, nI_clamp (by omega), bnd_s, nI_up]
        have f2 : Fr [(8, 8), (114, 114)] m (mset (mset m' 8 6 (drwS (dstS w i))) 114 i (valS (drwS (dstS w i)))) := Fr.set (Fr.set f' (by decide)) (by decide)
        refine hX (zh w - (i + 1)) _ _ (by omega) ⟨i + 1, by omega, rfl, rfl, ?_, f2, fun ht h hh hb2 => ?_⟩
        · rw [if_pos rfl]
          show HRep 2 LN (upd w 5 (if _ then _ else _)) _
          rw [if_pos hb]
          rw [upd_twice] at H2
          exact H2.fr (W0.up (by decide)).sml (Fr.set (S := [(114, 114)]) Fr.rf (by decide)) (by decide +kernel)
        · by_cases e : h = i
          · subst e; exact mset_at _ _ _ _
          · rw [mset_j e, mset_k (by decide)]
            exact hd ht h (by omega) hb2
theorem w_coughs (H : HRep 2 LN w m) (W0 : WFc w) (ht : m 113 4 = nI (if tru = true then 0 else 1)) : Wp (f_X8_coughs N m) (fun v m' => v = b2i (cghB tru w) ∧ HRep 2 LN (cghW tru w) m' ∧ Fr [(8, 8)] m m') := by
  unfold f_X8_coughs
  simp only [li_0, li_1, li_2, li_3, li_4, li_5, li_6, li_7, li_8, li_9, li_10, li_11, li_12, li_13, li_14, li_15, li_16, li_17, li_18, li_19, li_20, li_21, li_22, li_23, li_24, li_25, li_26, li_27, li_28, li_29, li_30, li_31, li_32, li_37, li_38, li_39, li_40, li_41, li_42, li_43, li_44, li_45, li_46, li_47, li_48, li_49, li_50, li_57, li_59, li_60, li_61, li_62, li_63, li_64, li_65, li_69, li_81, li_89, li_90, li_92, li_97, li_99, li_100, li_101, li_103, li_104, li_105, li_106, li_108, li_111, li_112, li_113, li_114, li_115, li_116, li_117, li_119, li_122, li_123, li_124, li_125, li_126, li_127, li_128, li_129, li_130, li_131, li_132, li_133, li_134, li_135, li_136, li_137, li_140, li_141, li_142, li_143, li_145, li_147, li_150, li_153, li_159, li_160, li_161, li_162, li_185, li_197, li_213, li_222, li_223, li_255, li_256, li_257, li_258, li_259, li_260, li_261, li_262, li_263, li_264, li_271, li_272, li_273, li_274, li_275, li_276, li_277, li_278, li_300, li_400, li_420, li_500, li_802, li_820, li_823, li_839, li_855, li_871, li_887, li_999, li_1000, li_1001, li_1002, li_1003, li_1004, li_1005, li_1006, li_1007, li_1008, li_1009, li_1010, li_1011, li_1012, li_1013, li_1014, li_1015, li_1016, li_1017, li_1018, li_1019, li_1020, li_1021, li_1022, li_1023, li_1707, li_4096, li_9999, li_65536, li_100000, li_1000000, li_1664525, li_100000000, li_252645135, li_858993459, li_1000000007, li_1013904223, li_1431655765, li_m1]
  rw [ht]
  cases tru with
  | false =>
    rw [if_neg (by decide)]
    exact wp_ret ⟨rfl, H, Fr.rf⟩
  | true =>
    rw [if_pos (by decide), hr_hour H (by decide), bd_s, show houI 3 = 39 from rfl]
    unfold cghB cghW
    by_cases hq : nI 0 < w 39
    · rw [if_neg (Int32.not_le.mpr hq), decide_eq_true hq]
      refine wp_bind (w_draw H W0) ?_
      rintro v m2 ⟨rfl, rfl, H2⟩
      rw [hr_hour H2 (by decide), bd_s, show houI 3 = 39 from rfl, ud_n (by decide)]
      have f2 : Fr [(8, 8)] m (mset m 8 6 (drwS (w 5))) := Fr.set Fr.rf (by decide)
      by_cases h2 : valS (drwS (w 5)) < w 39
      · rw [if_neg (Int32.not_le.mpr h2), decide_eq_true h2]
        exact wp_ret ⟨rfl, H2, f2⟩
      · rw [if_pos (Int32.not_lt.mp h2), decide_eq_false h2]
        exact wp_ret ⟨rfl, H2, f2⟩
    · rw [if_pos (Int32.not_lt.mp hq), decide_eq_false hq, if_neg (by decide)]
      exact wp_ret ⟨rfl, H, Fr.rf⟩
end ONE
