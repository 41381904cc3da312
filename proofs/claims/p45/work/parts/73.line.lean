/-! a line of THE LAW as the class reads it: it goes as the machine goes -/
def hOp (a : Int32) : Int32 := if a = 42 then 2 else if a = 43 then 4 else if a = 45 then 5 else if a = 47 then 3 else if a = 60 then 6 else if a = 61 then 7 else if a = 62 then 8 else if a = 260 then 11 else if a = 261 then 10 else -1
def opI (k : Nat) : Int32 := if opO k = 0 then mo1 else nI (opO k)
theorem hOp_ok : ∀ k, k < 279 → hOp (nI k) = opI k := by decide +kernel
theorem opO_in : ∀ k, k < 279 → opO k ≤ 11 ∧ opO k ≠ 9 ∧ opO k ≠ 1 := by decide +kernel
section LINE
variable {N : Nat} {m0 m m1 m' : Mem} {B : Nat → Nat} {n M li : Nat} {W : List Nat} {C : Cod} {ex j sd md fn fl : Nat}
theorem e_opOf {k : Nat} (hk : k < 279) : f_X6_opOf N (nI k) m = some (opI k, m) := by
  rw [← hOp_ok k hk]
  unfold f_X6_opOf hOp
  repeat' split <;> first | rfl | skip
theorem e_wop {k a b : Nat} (hk : k < 279) (ha : 1 ≤ a) (hb : b < 20) (ha2 : a < 20) : f_X11_within N (opI k) (nI a) (nI b) m = some (b2i (decide (a ≤ opO k ∧ opO k ≤ b)), m) := by
  have := opO_in k hk
  rw [e_within]
  unfold opI
  split
  · rename_i z
    rw [z, decide_eq_false, decide_eq_false (by omega)]
    rintro ⟨q, -⟩
    exact absurd (Int32.le_trans (show nI 0 ≤ nI a from nI_le (by omega) (by omega)) q) (by decide)
  · rw [rng_is (by omega) (by omega) (by omega)]
theorem opI_is {k o : Nat} (hk : k < 279) (ho : 1 ≤ o) (ho2 : o < 20) : (opI k = nI o) ↔ opO k = o := by
  have := opO_in k hk
  unfold opI
  split
  · constructor
    · intro q; exact absurd q.symm (nI_no1 (by omega))
    · intro q; omega
  · rw [nI_eq (by omega) (by omega)]
theorem w_fail (h : CMa B n M li m0 m (ex, j, W, C, sd, md, fn, 0)) {f : Nat} (hf : f ≠ 0) : Wp (f_X6_failed N (nI f) m) (fun v m' => v = nI 5 ∧ CMa B n M li m0 m' (5, j, W, C, sd, md, fn, f)) := by
  obtain ⟨h1, h2⟩ := h.fault (N := N) (ex' := 5) hf
  unfold f_X6_failed
  rw [h1, bd_s]
  exact wp_ret ⟨rfl, h2⟩
/-- the numbers keep in bounds -/
def Nm (M : Nat) (s : Mst) : Prop := s.2.2.2.1.length + s.2.2.1.length ≤ s.2.1 ∧ s.2.1 ≤ M
theorem CMa.K (h : CMa B n M li m0 m (ex, j, W, C, sd, md, fn, fl)) : m 99 3 = nI (tkK B n j) ∧ m 99 5 = tkV B n j ∧ tkK B n j < 279 := ⟨h.1.2.2.2.1, h.1.2.2.2.2.2, kT_lt h.1.1.2.2.2⟩
theorem Mt.lt (h : Mt B n M) (hj : j ≤ M) {k : Nat} (hk : tkK B n j = k) (h0 : k ≠ 0) : j < M := by
  refine Nat.lt_of_le_of_ne hj ?_
  rintro rfl
  exact h0 (hk ▸ h.2.1)
theorem w_joinL {o ex' : Nat} (hN : 20000 ≤ N) (hM : Mt B n M) (h : CMa B n M li m0 m (ex, j, W, C, sd, md, fn, 0)) (hn : C.length + W.length ≤ j) (hj : j < M) (ho : 2 ≤ o ∧ o ≤ 11 ∧ o ≠ 9) :
    Wp (f_X6_join N (nI o) m) (fun _ m' => CMa B n M li m0 m' (ex', j + 1, o :: (drp (stg o) W C).1, (drp (stg o) W C).2, sd, md, fn, 0)) := by
  have hM4 := hM.1
  have l1 := drp_le (l := stg o) W C
  unfold f_X6_join
  simp only [li_0, li_1, li_2, li_3, li_4, li_5, li_6, li_7, li_8, li_9, li_10, li_11, li_12, li_13, li_14, li_15, li_16, li_17, li_18, li_19, li_20, li_21, li_22, li_23, li_24, li_25, li_26, li_27, li_28, li_29, li_30, li_31, li_32, li_37, li_38, li_39, li_40, li_41, li_42, li_43, li_44, li_45, li_46, li_47, li_48, li_49, li_50, li_57, li_59, li_60, li_61, li_62, li_63, li_64, li_65, li_69, li_81, li_89, li_90, li_92, li_97, li_99, li_100, li_101, li_103, li_104, li_105, li_106, li_108, li_111, li_112, li_113, li_114, li_115, li_116, li_117, li_119, li_122, li_123, li_124, li_125, li_126, li_127, li_128, li_129, li_130, li_131, li_132, li_133, li_134, li_135, li_136, li_137, li_140, li_141, li_142, li_143, li_145, li_147, li_150, li_153, li_159, li_160, li_161, li_162, li_185, li_197, li_213, li_222, li_223, li_255, li_256, li_257, li_258, li_259, li_260, li_261, li_262, li_263, li_264, li_271, li_272, li_273, li_274, li_275, li_276, li_277, li_278, li_300, li_400, li_420, li_500, li_802, li_820, li_823, li_839, li_855, li_871, li_887, li_999, li_1000, li_1001, li_1002, li_1003, li_1004, li_1005, li_1006, li_1007, li_1008, li_1009, li_1010, li_1011, li_1012, li_1013, li_1014, li_1015, li_1016, li_1017, li_1018, li_1019, li_1020, li_1021, li_1022, li_1023, li_1707, li_4096, li_9999, li_65536, li_100000, li_1000000, li_1664525, li_100000000, li_252645135, li_858993459, li_1000000007, li_1013904223, li_1431655765, li_m1]
  rw [e_stg (by omega), bd_s]
  refine wp_bind (h.drop hN (stg_le o) (by omega)) ?_
  intro _ m2 h2
  rw [h2.e_row hN (nI o) (by omega), bd_s]
  refine wp_bind ((h2.push ho (by omega)).nx (ex' := ex') hM4 hj) ?_
  intro _ m3 h3
  exact wp_ret h3
theorem w_rC (hN : 20000 ≤ N) (hM : Mt B n M) (h : CMa B n M li m0 m (0, j, W, C, sd, md, fn, 0)) (hn : C.length + W.length ≤ j) (hj : j ≤ M) :
    Wp (f_X6_readCondition N m) (fun v m' => v = nI (stp0 (tkK B n j) j W C sd md fn 0).1 ∧ CMa B n M li m0 m' (stp0 (tkK B n j) j W C sd md fn 0)) := by
  obtain ⟨k1, k2, k3⟩ := h.K
  have hM4 := hM.1
  have hop : m 103 6 = nI (opn W) := h.2.1.2.2.2.2.1
  have hbr : m 103 7 = nI (brk W) := h.2.2.1
  have ho4 : ∀ U : List Nat, opn U ≤ U.length := by
    intro U
    induction U with
    | nil => exact Nat.le_refl _
    | cons o U ih =>
      show (if o = 9 ∨ o = 12 then 1 else 0) + opn U ≤ U.length + 1
      split <;> omega
  have ho5 := ho4 W
  -- a bracket, or a not
  have key : ∀ (s1 o : Nat), (o = 9 ∨ o = 12) → s1 = (if o = 12 then 1 else 0) → tkK B n j ≠ 0 →
      Wp (f_X6_readCondition_J42 N (nI s1) m) (fun v m' => v = nI (if 8 ≤ opn W then ((5, j, W, C, sd, md, fn, 3) : Mst) else (0, j + 1, o :: W, C, sd, md, fn, 0)).1 ∧ CMa B n M li m0 m' (if 8 ≤ opn W then (5, j, W, C, sd, md, fn, 3) else (0, j + 1, o :: W, C, sd, md, fn, 0))) := by
    intro s1 o ho hs1 hk0
    have hjM : j < M := hM.lt hj rfl hk0
    unfold f_X6_readCondition_J42
    simp only [li_0, li_1, li_2, li_3, li_4, li_5, li_6, li_7, li_8, li_9, li_10, li_11, li_12, li_13, li_14, li_15, li_16, li_17, li_18, li_19, li_20, li_21, li_22, li_23, li_24, li_25, li_26, li_27, li_28, li_29, li_30, li_31, li_32, li_37, li_38, li_39, li_40, li_41, li_42, li_43, li_44, li_45, li_46, li_47, li_48, li_49, li_50, li_57, li_59, li_60, li_61, li_62, li_63, li_64, li_65, li_69, li_81, li_89, li_90, li_92, li_97, li_99, li_100, li_101, li_103, li_104, li_105, li_106, li_108, li_111, li_112, li_113, li_114, li_115, li_116, li_117, li_119, li_122, li_123, li_124, li_125, li_126, li_127, li_128, li_129, li_130, li_131, li_132, li_133, li_134, li_135, li_136, li_137, li_140, li_141, li_142, li_143, li_145, li_147, li_150, li_153, li_159, li_160, li_161, li_162, li_185, li_197, li_213, li_222, li_223, li_255, li_256, li_257, li_258, li_259, li_260, li_261, li_262, li_263, li_264, li_271, li_272, li_273, li_274, li_275, li_276, li_277, li_278, li_300, li_400, li_420, li_500, li_802, li_820, li_823, li_839, li_855, li_871, li_887, li_999, li_1000, li_1001, li_1002, li_1003, li_1004, li_1005, li_1006, li_1007, li_1008, li_1009, li_1010, li_1011, li_1012, li_1013, li_1014, li_1015, li_1016, li_1017, li_1018, li_1019, li_1020, li_1021, li_1022, li_1023, li_1707, li_4096, li_9999, li_65536, li_100000, li_1000000, li_1664525, li_100000000, li_252645135, li_858993459, li_1000000007, li_1013904223, li_1431655765, li_m1]
    rw [hop]
    by_cases q : 8 ≤ opn W
    · rw [if_neg (nI_nlt q (by omega)), if_pos q]
      refine wp_bind (w_fail h (f := 3) (by decide)) ?_
      rintro _ m2 ⟨rfl, h2⟩
      exact wp_ret ⟨rfl, h2⟩
    · rw [if_pos (nI_lt (by omega) (by omega)), if_neg q]
      have fin : Wp (f_X6_readCondition_J72 N (nI s1) (nI o) m) (fun v m' => v = nI 0 ∧ CMa B n M li m0 m' (0, j + 1, o :: W, C, sd, md, fn, 0)) := by
        unfold f_X6_readCondition_J72
        simp only [li_0, li_1, li_2, li_3, li_4, li_5, li_6, li_7, li_8, li_9, li_10, li_11, li_12, li_13, li_14, li_15, li_16, li_17, li_18, li_19, li_20, li_21, li_22, li_23, li_24, li_25, li_26, li_27, li_28, li_29, li_30, li_31, li_32, li_37, li_38, li_39, li_40, li_41, li_42, li_43, li_44, li_45, li_46, li_47, li_48, li_49, li_50, li_57, li_59, li_60, li_61, li_62, li_63, li_64, li_65, li_69, li_81, li_89, li_90, li_92, li_97, li_99, li_100, li_101, li_103, li_104, li_105, li_106, li_108, li_111, li_112, li_113, li_114, li_115, li_116, li_117, li_119, li_122, li_123, li_124, li_125, li_126, li_127, li_128, li_129, li_130, li_131, li_132, li_133, li_134, li_135, li_136, li_137, li_140, li_141, li_142, li_143, li_145, li_147, li_150, li_153, li_159, li_160, li_161, li_162, li_185, li_197, li_213, li_222, li_223, li_255, li_256, li_257, li_258, li_259, li_260, li_261, li_262, li_263, li_264, li_271, li_272, li_273, li_274, li_275, li_276, li_277, li_278, li_300, li_400, li_420, li_500, li_802, li_820, li_823, li_839, li_855, li_871, li_887, li_999, li_1000, li_1001, li_1002, li_1003, li_1004, li_1005, li_1006, li_1007, li_1008, li_1009, li_1010, li_1011, li_1012, li_1013, li_1014, li_1015, li_1016, li_1017, li_1018, li_1019, li_1020, li_1021, li_1022, li_1023, li_1707, li_4096, li_9999, li_65536, li_100000, li_1000000, li_1664525, li_100000000, li_252645135, li_858993459, li_1000000007, li_1013904223, li_1431655765, li_m1]
        rw [h.e_row hN (nI o) (by omega), bd_s, bnd_s]
        have hrow := (SC.row (W := W) (C := C) h.2.1 o (by omega)).2.2.1
        have e103 : (madd m 108 1 W.length (nI o) (nI 0) (nI 0) (nI 0)) 103 = m 103 := hrow.at 103 (by decide)
        rw [mset_j (by decide), e103, hop, hbr]
        rcases ho with rfl | rfl
        · have : s1 = 0 := hs1
          subst this
          rw [if_pos rfl, bnd_s]
          refine wp_bind ((h.opens (Or.inl rfl) (by omega) (nI 0) rfl).nx (ex' := 0) hM4 hjM) ?_
          intro _ m3 h3
          exact wp_ret ⟨rfl, h3⟩
        · have : s1 = 1 := hs1
          subst this
          rw [if_neg (by decide), bnd_s]
          refine wp_bind ((h.opens (Or.inr rfl) (by omega) (nI 1) rfl).nx (ex' := 0) hM4 hjM) ?_
          intro _ m3 h3
          exact wp_ret ⟨rfl, h3⟩
      rcases ho with rfl | rfl
      · have : s1 = 0 := hs1
        subst this
        rw [if_pos rfl]
        exact fin
      · have : s1 = 1 := hs1
        subst this
        rw [if_neg (by decide)]
        exact fin
  unfold f_X6_readCondition f_X6_readCondition_J17 stp0
  simp only [li_0, li_1, li_2, li_3, li_4, li_5, li_6, li_7, li_8, li_9, li_10, li_11, li_12, li_13, li_14, li_15, li_16, li_17, li_18, li_19, li_20, li_21, li_22, li_23, li_24, li_25, li_26, li_27, li_28, li_29, li_30, li_31, li_32, li_37, li_38, li_39, li_40, li_41, li_42, li_43, li_44, li_45, li_46, li_47, li_48, li_49, li_50, li_57, li_59, li_60, li_61, li_62, li_63, li_64, li_65, li_69, li_81, li_89, li_90, li_92, li_97, li_99, li_100, li_101, li_103, li_104, li_105, li_106, li_108, li_111, li_112, li_113, li_114, li_115, li_116, li_117, li_119, li_122, li_123, li_124, li_125, li_126, li_127, li_128, li_129, li_130, li_131, li_132, li_133, li_134, li_135, li_136, li_137, li_140, li_141, li_142, li_143, li_145, li_147, li_150, li_153, li_159, li_160, li_161, li_162, li_185, li_197, li_213, li_222, li_223, li_255, li_256, li_257, li_258, li_259, li_260, li_261, li_262, li_263, li_264, li_271, li_272, li_273, li_274, li_275, li_276, li_277, li_278, li_300, li_400, li_420, li_500, li_802, li_820, li_823, li_839, li_855, li_871, li_887, li_999, li_1000, li_1001, li_1002, li_1003, li_1004, li_1005, li_1006, li_1007, li_1008, li_1009, li_1010, li_1011, li_1012, li_1013, li_1014, li_1015, li_1016, li_1017, li_1018, li_1019, li_1020, li_1021, li_1022, li_1023, li_1707, li_4096, li_9999, li_65536, li_100000, li_1000000, li_1664525, li_100000000, li_252645135, li_858993459, li_1000000007, li_1013904223, li_1431655765, li_m1]
  rw [k1]
  by_cases q40 : tkK B n j = 40
  · rw [if_pos (by rw [q40]), if_neg (by decide)]
    simp only [if_pos q40]
    exact key 1 12 (Or.inr rfl) rfl (by omega)
  · rw [if_neg (nI_ne q40 (by omega) (by omega)), if_pos trivial]
    simp only [if_neg q40]
    by_cases q262 : tkK B n j = 262
    · rw [if_pos (by rw [q262])]
      simp only [if_pos q262]
      exact key 0 9 (Or.inl rfl) rfl (by omega)
    · rw [if_neg (nI_ne q262 (by omega) (by omega)), bnd_s]
      simp only [if_neg q262]
      exact wp_ret ⟨rfl, h.side 1⟩
theorem w_rU (hN : 20000 ≤ N) (hM : Mt B n M) (h : CMa B n M li m0 m (ex, j, W, C, sd, md, fn, 0)) (hn : C.length + W.length ≤ j) (hj : j ≤ M) :
    Wp (f_X6_readUnit N m) (fun v m' => v = nI (stp1 (tkK B n j) (tkV B n j) j W C sd md fn 0).1 ∧ CMa B n M li m0 m' (stp1 (tkK B n j) (tkV B n j) j W C sd md fn 0)) := by
  obtain ⟨k1, k2, k3⟩ := h.K
  have hM4 := hM.1
  unfold f_X6_readUnit stp1
  simp only [li_0, li_1, li_2, li_3, li_4, li_5, li_6, li_7, li_8, li_9, li_10, li_11, li_12, li_13, li_14, li_15, li_16, li_17, li_18, li_19, li_20, li_21, li_22, li_23, li_24, li_25, li_26, li_27, li_28, li_29, li_30, li_31, li_32, li_37, li_38, li_39, li_40, li_41, li_42, li_43, li_44, li_45, li_46, li_47, li_48, li_49, li_50, li_57, li_59, li_60, li_61, li_62, li_63, li_64, li_65, li_69, li_81, li_89, li_90, li_92, li_97, li_99, li_100, li_101, li_103, li_104, li_105, li_106, li_108, li_111, li_112, li_113, li_114, li_115, li_116, li_117, li_119, li_122, li_123, li_124, li_125, li_126, li_127, li_128, li_129, li_130, li_131, li_132, li_133, li_134, li_135, li_136, li_137, li_140, li_141, li_142, li_143, li_145, li_147, li_150, li_153, li_159, li_160, li_161, li_162, li_185, li_197, li_213, li_222, li_223, li_255, li_256, li_257, li_258, li_259, li_260, li_261, li_262, li_263, li_264, li_271, li_272, li_273, li_274, li_275, li_276, li_277, li_278, li_300, li_400, li_420, li_500, li_802, li_820, li_823, li_839, li_855, li_871, li_887, li_999, li_1000, li_1001, li_1002, li_1003, li_1004, li_1005, li_1006, li_1007, li_1008, li_1009, li_1010, li_1011, li_1012, li_1013, li_1014, li_1015, li_1016, li_1017, li_1018, li_1019, li_1020, li_1021, li_1022, li_1023, li_1707, li_4096, li_9999, li_65536, li_100000, li_1000000, li_1664525, li_100000000, li_252645135, li_858993459, li_1000000007, li_1013904223, li_1431655765, li_m1]
  rw [k1, k2]
  by_cases q1 : tkK B n j = 1
  · have hjM := hM.lt hj q1 (by decide)
    rw [if_pos (by rw [q1])]
    simp only [if_pos q1]
    rw [h.e_code hN (nI 0) (tkV B n j) (by omega), bd_s]
    refine wp_bind ((h.code (nI 0) (tkV B n j) (by omega)).nx (ex' := 3) hM4 hjM) ?_
    intro _ m3 h3
    exact wp_ret ⟨rfl, h3⟩
  · rw [if_neg (nI_ne q1 (by omega) (by omega))]
    simp only [if_neg q1]
    rw [e_within, bd_s, rng_is (by omega) (by omega) (by omega), if_b2i]
    by_cases q2 : 263 ≤ tkK B n j ∧ tkK B n j ≤ 272
    · have hjM := hM.lt (j := j) hj rfl (by omega)
      rw [decide_eq_true q2, if_pos rfl, k1, pk_sub q2.1]
      simp only [if_pos q2]
      rw [h.e_code hN (nI 1) (nI (tkK B n j - 263)) (by omega), bd_s]
      refine wp_bind ((h.code (nI 1) (nI (tkK B n j - 263)) (by omega)).nx (ex' := 3) hM4 hjM) ?_
      intro _ m3 h3
      exact wp_ret ⟨rfl, h3⟩
    · rw [decide_eq_false q2, if_neg (by decide)]
      simp only [if_neg q2]
      refine wp_bind (w_fail h (f := 1) (by decide)) ?_
      rintro _ m2 ⟨rfl, h2⟩
      exact wp_ret ⟨rfl, h2⟩
theorem w_rD (hN : 20000 ≤ N) (hM : Mt B n M) (h : CMa B n M li m0 m (ex, j, W, C, sd, md, fn, 0)) (hn : C.length + W.length ≤ j) (hj : j ≤ M) :
    Wp (f_X6_readDivisor N m) (fun v m' => v = nI (stp2 (tkK B n j) (tkV B n j) j W C sd md fn 0).1 ∧ CMa B n M li m0 m' (stp2 (tkK B n j) (tkV B n j) j W C sd md fn 0)) := by
  obtain ⟨k1, k2, k3⟩ := h.K
  unfold f_X6_readDivisor f_X6_readDivisor_J27 stp2
  simp only [li_0, li_1, li_2, li_3, li_4, li_5, li_6, li_7, li_8, li_9, li_10, li_11, li_12, li_13, li_14, li_15, li_16, li_17, li_18, li_19, li_20, li_21, li_22, li_23, li_24, li_25, li_26, li_27, li_28, li_29, li_30, li_31, li_32, li_37, li_38, li_39, li_40, li_41, li_42, li_43, li_44, li_45, li_46, li_47, li_48, li_49, li_50, li_57, li_59, li_60, li_61, li_62, li_63, li_64, li_65, li_69, li_81, li_89, li_90, li_92, li_97, li_99, li_100, li_101, li_103, li_104, li_105, li_106, li_108, li_111, li_112, li_113, li_114, li_115, li_116, li_117, li_119, li_122, li_123, li_124, li_125, li_126, li_127, li_128, li_129, li_130, li_131, li_132, li_133, li_134, li_135, li_136, li_137, li_140, li_141, li_142, li_143, li_145, li_147, li_150, li_153, li_159, li_160, li_161, li_162, li_185, li_197, li_213, li_222, li_223, li_255, li_256, li_257, li_258, li_259, li_260, li_261, li_262, li_263, li_264, li_271, li_272, li_273, li_274, li_275, li_276, li_277, li_278, li_300, li_400, li_420, li_500, li_802, li_820, li_823, li_839, li_855, li_871, li_887, li_999, li_1000, li_1001, li_1002, li_1003, li_1004, li_1005, li_1006, li_1007, li_1008, li_1009, li_1010, li_1011, li_1012, li_1013, li_1014, li_1015, li_1016, li_1017, li_1018, li_1019, li_1020, li_1021, li_1022, li_1023, li_1707, li_4096, li_9999, li_65536, li_100000, li_1000000, li_1664525, li_100000000, li_252645135, li_858993459, li_1000000007, li_1013904223, li_1431655765, li_m1]
  rw [k1, k2]
  by_cases q1 : tkK B n j = 1
  · rw [if_pos (by rw [q1])]
    simp only [if_pos q1]
    by_cases qv : tkV B n j = nI 0
    · rw [if_pos qv]
      simp only [if_pos qv]
      refine wp_bind (w_fail h (f := 2) (by decide)) ?_
      rintro _ m2 ⟨rfl, h2⟩
      exact wp_ret ⟨rfl, h2⟩
    · rw [if_neg qv, if_pos (by rw [q1])]
      simp only [if_neg qv]
      have := w_rU hN hM h hn hj
      unfold stp1 at this
      simp only [if_pos q1] at this
      refine wp_bind this ?_
      rintro _ m2 ⟨rfl, h2⟩
      exact wp_ret ⟨rfl, h2⟩
  · rw [if_neg (nI_ne q1 (by omega) (by omega)), if_neg (nI_ne q1 (by omega) (by omega))]
    simp only [if_neg q1]
    refine wp_bind (w_fail h (f := 1) (by decide)) ?_
    rintro _ m2 ⟨rfl, h2⟩
    exact wp_ret ⟨rfl, h2⟩
theorem w_fin (hN : 20000 ≤ N) (hM : Mt B n M) (h : CMa B n M li m0 m (ex, j, W, C, sd, md, fn, 0)) (hli : li < 16) (hj : j < M) :
    Wp (f_X6_finish N m) (fun v m' => v = nI 5 ∧ CMa B n M li m0 m' (5, j + 1, W, C, sd, md, C.length, 0)) := by
  unfold f_X6_finish
  simp only [li_0, li_1, li_2, li_3, li_4, li_5, li_6, li_7, li_8, li_9, li_10, li_11, li_12, li_13, li_14, li_15, li_16, li_17, li_18, li_19, li_20, li_21, li_22, li_23, li_24, li_25, li_26, li_27, li_28, li_29, li_30, li_31, li_32, li_37, li_38, li_39, li_40, li_41, li_42, li_43, li_44, li_45, li_46, li_47, li_48, li_49, li_50, li_57, li_59, li_60, li_61, li_62, li_63, li_64, li_65, li_69, li_81, li_89, li_90, li_92, li_97, li_99, li_100, li_101, li_103, li_104, li_105, li_106, li_108, li_111, li_112, li_113, li_114, li_115, li_116, li_117, li_119, li_122, li_123, li_124, li_125, li_126, li_127, li_128, li_129, li_130, li_131, li_132, li_133, li_134, li_135, li_136, li_137, li_140, li_141, li_142, li_143, li_145, li_147, li_150, li_153, li_159, li_160, li_161, li_162, li_185, li_197, li_213, li_222, li_223, li_255, li_256, li_257, li_258, li_259, li_260, li_261, li_262, li_263, li_264, li_271, li_272, li_273, li_274, li_275, li_276, li_277, li_278, li_300, li_400, li_420, li_500, li_802, li_820, li_823, li_839, li_855, li_871, li_887, li_999, li_1000, li_1001, li_1002, li_1003, li_1004, li_1005, li_1006, li_1007, li_1008, li_1009, li_1010, li_1011, li_1012, li_1013, li_1014, li_1015, li_1016, li_1017, li_1018, li_1019, li_1020, li_1021, li_1022, li_1023, li_1707, li_4096, li_9999, li_65536, li_100000, li_1000000, li_1664525, li_100000000, li_252645135, li_858993459, li_1000000007, li_1013904223, li_1431655765, li_m1]
  obtain ⟨e1, e2⟩ := h.put (N := N) hli (c := 3) (Or.inr rfl)
  rw [e1, bd_s]
  refine wp_bind (CMa.nx (ex' := 5) e2 hM.1 hj) ?_
  intro _ m3 h3
  exact wp_ret ⟨rfl, h3⟩
theorem w_rB (hN : 20000 ≤ N) (hM : Mt B n M) (h : CMa B n M li m0 m (ex, j, W, C, sd, md, fn, 0)) (hn : C.length + W.length ≤ j) (hj : j ≤ M) (hli : li < 16) (hsd : sd < 3) :
    Wp (f_X6_readBehindUnit N m) (fun v m' => v = nI (stp3 (tkK B n j) j W C sd md fn 0).1 ∧ CMa B n M li m0 m' (stp3 (tkK B n j) j W C sd md fn 0)) := by
  obtain ⟨k1, k2, k3⟩ := h.K
  have hM4 := hM.1
  have hi := opO_in _ k3
  have h8 : m 103 8 = nI sd := h.2.2.2.1
  have last : Wp (if m 103 8 = nI 2 then some (nI 4, m) else bd (f_X6_failed N (nI 1) m) fun r_182 m_182 => some (r_182, m_182)) (fun v m' => v = nI (if sd = 2 then ((4, j, W, C, sd, md, fn, 0) : Mst) else (5, j, W, C, sd, md, fn, 1)).1 ∧ CMa B n M li m0 m' (if sd = 2 then (4, j, W, C, sd, md, fn, 0) else (5, j, W, C, sd, md, fn, 1))) := by
    rw [h8]
    by_cases q : sd = 2
    · rw [if_pos (by rw [q]), if_pos q]
      exact wp_ret ⟨rfl, h⟩
    · rw [if_neg (nI_ne q (by omega) (by omega)), if_neg q]
      refine wp_bind (w_fail h (f := 1) (by decide)) ?_
      rintro _ m2 ⟨rfl, h2⟩
      exact wp_ret ⟨rfl, h2⟩
  have semi : ¬ (tkK B n j = 259 ∧ sd = 0) → Wp (f_X6_readBehindUnit_J120 N m) (fun v m' => v = nI (if tkK B n j = 59 ∧ sd = 0 then ((5, j + 1, (drp 0 W C).1, (drp 0 W C).2, sd, (drp 0 W C).2.length, (drp 0 W C).2.length, 0) : Mst) else if sd = 2 then (4, j, W, C, sd, md, fn, 0) else (5, j, W, C, sd, md, fn, 1)).1 ∧
      CMa B n M li m0 m' (if tkK B n j = 59 ∧ sd = 0 then (5, j + 1, (drp 0 W C).1, (drp 0 W C).2, sd, (drp 0 W C).2.length, (drp 0 W C).2.length, 0) else if sd = 2 then (4, j, W, C, sd, md, fn, 0) else (5, j, W, C, sd, md, fn, 1))) := by
    intro _
    unfold f_X6_readBehindUnit_J120
    simp only [li_0, li_1, li_2, li_3, li_4, li_5, li_6, li_7, li_8, li_9, li_10, li_11, li_12, li_13, li_14, li_15, li_16, li_17, li_18, li_19, li_20, li_21, li_22, li_23, li_24, li_25, li_26, li_27, li_28, li_29, li_30, li_31, li_32, li_37, li_38, li_39, li_40, li_41, li_42, li_43, li_44, li_45, li_46, li_47, li_48, li_49, li_50, li_57, li_59, li_60, li_61, li_62, li_63, li_64, li_65, li_69, li_81, li_89, li_90, li_92, li_97, li_99, li_100, li_101, li_103, li_104, li_105, li_106, li_108, li_111, li_112, li_113, li_114, li_115, li_116, li_117, li_119, li_122, li_123, li_124, li_125, li_126, li_127, li_128, li_129, li_130, li_131, li_132, li_133, li_134, li_135, li_136, li_137, li_140, li_141, li_142, li_143, li_145, li_147, li_150, li_153, li_159, li_160, li_161, li_162, li_185, li_197, li_213, li_222, li_223, li_255, li_256, li_257, li_258, li_259, li_260, li_261, li_262, li_263, li_264, li_271, li_272, li_273, li_274, li_275, li_276, li_277, li_278, li_300, li_400, li_420, li_500, li_802, li_820, li_823, li_839, li_855, li_871, li_887, li_999, li_1000, li_1001, li_1002, li_1003, li_1004, li_1005, li_1006, li_1007, li_1008, li_1009, li_1010, li_1011, li_1012, li_1013, li_1014, li_1015, li_1016, li_1017, li_1018, li_1019, li_1020, li_1021, li_1022, li_1023, li_1707, li_4096, li_9999, li_65536, li_100000, li_1000000, li_1664525, li_100000000, li_252645135, li_858993459, li_1000000007, li_1013904223, li_1431655765, li_m1]
    rw [k1]
    by_cases q : tkK B n j = 59
    · rw [if_pos (by rw [q]), h8]
      by_cases q0 : sd = 0
      · rw [if_pos (by rw [q0]), if_pos ⟨q, q0⟩]
        have hjM := hM.lt hj q (by decide)
        refine wp_bind (h.drop hN (l := 0) (by decide) (by omega)) ?_
        intro _ m2 h2
        obtain ⟨e1, e2⟩ := h2.put (N := N) hli (c := 2) (Or.inl rfl)
        rw [e1, bd_s]
        refine wp_bind (w_fin hN hM e2 hli hjM) ?_
        rintro _ m3 ⟨rfl, h3⟩
        exact wp_ret ⟨rfl, h3⟩
      · have z : ¬ (tkK B n j = 59 ∧ sd = 0) := fun z => q0 z.2
        rw [if_neg (nI_ne q0 (by omega) (by omega))]
        simp only [if_neg z]
        rw [h8] at last
        exact last
    · have z : ¬ (tkK B n j = 59 ∧ sd = 0) := fun z => q z.1
      rw [if_neg (nI_ne q (by omega) (by omega))]
      simp only [if_neg z]
      exact last
  have when : Wp (f_X6_readBehindUnit_J67 N m) (fun v m' => v = nI (if tkK B n j = 259 ∧ sd = 0 then ((0, j + 1, (drp 0 W C).1, (drp 0 W C).2, sd, (drp 0 W C).2.length, fn, 0) : Mst) else if tkK B n j = 59 ∧ sd = 0 then (5, j + 1, (drp 0 W C).1, (drp 0 W C).2, sd, (drp 0 W C).2.length, (drp 0 W C).2.length, 0) else if sd = 2 then (4, j, W, C, sd, md, fn, 0) else (5, j, W, C, sd, md, fn, 1)).1 ∧
      CMa B n M li m0 m' (if tkK B n j = 259 ∧ sd = 0 then (0, j + 1, (drp 0 W C).1, (drp 0 W C).2, sd, (drp 0 W C).2.length, fn, 0) else if tkK B n j = 59 ∧ sd = 0 then (5, j + 1, (drp 0 W C).1, (drp 0 W C).2, sd, (drp 0 W C).2.length, (drp 0 W C).2.length, 0) else if sd = 2 then (4, j, W, C, sd, md, fn, 0) else (5, j, W, C, sd, md, fn, 1))) := by
    unfold f_X6_readBehindUnit_J67
    simp only [li_0, li_1, li_2, li_3, li_4, li_5, li_6, li_7, li_8, li_9, li_10, li_11, li_12, li_13, li_14, li_15, li_16, li_17, li_18, li_19, li_20, li_21, li_22, li_23, li_24, li_25, li_26, li_27, li_28, li_29, li_30, li_31, li_32, li_37, li_38, li_39, li_40, li_41, li_42, li_43, li_44, li_45, li_46, li_47, li_48, li_49, li_50, li_57, li_59, li_60, li_61, li_62, li_63, li_64, li_65, li_69, li_81, li_89, li_90, li_92, li_97, li_99, li_100, li_101, li_103, li_104, li_105, li_106, li_108, li_111, li_112, li_113, li_114, li_115, li_116, li_117, li_119, li_122, li_123, li_124, li_125, li_126, li_127, li_128, li_129, li_130, li_131, li_132, li_133, li_134, li_135, li_136, li_137, li_140, li_141, li_142, li_143, li_145, li_147, li_150, li_153, li_159, li_160, li_161, li_162, li_185, li_197, li_213, li_222, li_223, li_255, li_256, li_257, li_258, li_259, li_260, li_261, li_262, li_263, li_264, li_271, li_272, li_273, li_274, li_275, li_276, li_277, li_278, li_300, li_400, li_420, li_500, li_802, li_820, li_823, li_839, li_855, li_871, li_887, li_999, li_1000, li_1001, li_1002, li_1003, li_1004, li_1005, li_1006, li_1007, li_1008, li_1009, li_1010, li_1011, li_1012, li_1013, li_1014, li_1015, li_1016, li_1017, li_1018, li_1019, li_1020, li_1021, li_1022, li_1023, li_1707, li_4096, li_9999, li_65536, li_100000, li_1000000, li_1664525, li_100000000, li_252645135, li_858993459, li_1000000007, li_1013904223, li_1431655765, li_m1]
    rw [k1]
    by_cases q : tkK B n j = 259
    · rw [if_pos (by rw [q]), h8]
      by_cases q0 : sd = 0
      · rw [if_pos (by rw [q0]), if_pos ⟨q, q0⟩]
        have hjM := hM.lt hj q (by decide)
        refine wp_bind (h.drop hN (l := 0) (by decide) (by omega)) ?_
        intro _ m2 h2
        obtain ⟨e1, e2⟩ := h2.put (N := N) hli (c := 2) (Or.inl rfl)
        rw [e1, bd_s]
        refine wp_bind (CMa.nx (ex' := 0) e2 hM4 hjM) ?_
        intro _ m3 h3
        exact wp_ret ⟨rfl, h3⟩
      · have z : ¬ (tkK B n j = 259 ∧ sd = 0) := fun z => q0 z.2
        rw [if_neg (nI_ne q0 (by omega) (by omega))]
        simp only [if_neg z]
        exact semi z
    · have z : ¬ (tkK B n j = 259 ∧ sd = 0) := fun z => q z.1
      rw [if_neg (nI_ne q (by omega) (by omega))]
      simp only [if_neg z]
      exact semi z
  unfold f_X6_readBehindUnit stp3
  simp only [li_0, li_1, li_2, li_3, li_4, li_5, li_6, li_7, li_8, li_9, li_10, li_11, li_12, li_13, li_14, li_15, li_16, li_17, li_18, li_19, li_20, li_21, li_22, li_23, li_24, li_25, li_26, li_27, li_28, li_29, li_30, li_31, li_32, li_37, li_38, li_39, li_40, li_41, li_42, li_43, li_44, li_45, li_46, li_47, li_48, li_49, li_50, li_57, li_59, li_60, li_61, li_62, li_63, li_64, li_65, li_69, li_81, li_89, li_90, li_92, li_97, li_99, li_100, li_101, li_103, li_104, li_105, li_106, li_108, li_111, li_112, li_113, li_114, li_115, li_116, li_117, li_119, li_122, li_123, li_124, li_125, li_126, li_127, li_128, li_129, li_130, li_131, li_132, li_133, li_134, li_135, li_136, li_137, li_140, li_141, li_142, li_143, li_145, li_147, li_150, li_153, li_159, li_160, li_161, li_162, li_185, li_197, li_213, li_222, li_223, li_255, li_256, li_257, li_258, li_259, li_260, li_261, li_262, li_263, li_264, li_271, li_272, li_273, li_274, li_275, li_276, li_277, li_278, li_300, li_400, li_420, li_500, li_802, li_820, li_823, li_839, li_855, li_871, li_887, li_999, li_1000, li_1001, li_1002, li_1003, li_1004, li_1005, li_1006, li_1007, li_1008, li_1009, li_1010, li_1011, li_1012, li_1013, li_1014, li_1015, li_1016, li_1017, li_1018, li_1019, li_1020, li_1021, li_1022, li_1023, li_1707, li_4096, li_9999, li_65536, li_100000, li_1000000, li_1664525, li_100000000, li_252645135, li_858993459, li_1000000007, li_1013904223, li_1431655765, li_m1]
  rw [k1, e_opOf k3, bd_s, e_wop k3 (by decide) (by decide) (by decide), bd_s, if_b2i]
  by_cases q1 : 2 ≤ opO (tkK B n j) ∧ opO (tkK B n j) ≤ 5
  · have hjM : j < M := hM.lt (j := j) hj rfl (by intro z; rw [z] at q1; exact absurd q1 (by decide))
    rw [decide_eq_true q1, if_pos rfl]
    simp only [if_pos q1]
    have eop : opI (tkK B n j) = nI (opO (tkK B n j)) := (opI_is k3 (by omega) (by omega)).mpr rfl
    rw [eop]
    refine wp_bind (w_joinL (ex' := if opO (tkK B n j) = 3 then 2 else 1) hN hM h hn hjM (by omega)) ?_
    intro _ m2 h2
    by_cases q3 : opO (tkK B n j) = 3
    · rw [if_pos (by rw [q3])]
      exact wp_ret ⟨by rw [if_pos q3], h2⟩
    · rw [if_neg (nI_ne q3 (by omega) (by omega))]
      exact wp_ret ⟨by rw [if_neg q3], h2⟩
  · rw [decide_eq_false q1, if_neg (by decide), e_wop k3 (by decide) (by decide) (by decide), bd_s, if_b2i]
    simp only [if_neg q1]
    by_cases q2 : 6 ≤ opO (tkK B n j) ∧ opO (tkK B n j) ≤ 8
    · rw [decide_eq_true q2, if_pos rfl, h8]
      by_cases q3 : sd = 1
      · have hjM : j < M := hM.lt (j := j) hj rfl (by intro z; rw [z] at q2; exact absurd q2 (by decide))
        rw [if_pos (by rw [q3]), if_pos ⟨q2, q3⟩, bnd_s]
        have eop : opI (tkK B n j) = nI (opO (tkK B n j)) := (opI_is k3 (by omega) (by omega)).mpr rfl
        have es : stg (opO (tkK B n j)) = 4 := by
          have : opO (tkK B n j) = 6 ∨ opO (tkK B n j) = 7 ∨ opO (tkK B n j) = 8 := by omega
          rcases this with z | z | z <;> rw [z] <;> rfl
        rw [eop]
        refine wp_bind (w_joinL (ex' := 1) hN hM (h.side 2) hn hjM (by omega)) ?_
        intro _ m2 h2
        rw [es] at h2
        exact wp_ret ⟨rfl, h2⟩
      · rw [if_neg (nI_ne q3 (by omega) (by omega)), if_neg (fun z => q3 z.2)]
        exact when
    · rw [decide_eq_false q2, if_neg (by decide), if_neg (fun z => q2 z.1)]
      exact when
theorem w_rE (hN : 20000 ≤ N) (hM : Mt B n M) (h : CMa B n M li m0 m (ex, j, W, C, sd, md, fn, 0)) (hn : C.length + W.length ≤ j) (hj : j ≤ M) (hli : li < 16) :
    Wp (f_X6_readBehindCondition N m) (fun v m' => v = nI (stp4 (tkK B n j) j W C sd md fn 0).1 ∧ CMa B n M li m0 m' (stp4 (tkK B n j) j W C sd md fn 0)) := by
  obtain ⟨k1, k2, k3⟩ := h.K
  have hM4 := hM.1
  have hi := opO_in _ k3
  have h7 : m 103 7 = nI (brk W) := h.2.2.1
  have hbl : ∀ U : List Nat, brk U ≤ U.length := by
    intro U
    induction U with
    | nil => exact Nat.le_refl _
    | cons o U ih =>
      show (if o = 12 then 1 else 0) + brk U ≤ U.length + 1
      split <;> omega
  have hb4 := hbl W
  have semi : ¬ (tkK B n j = 41 ∧ 0 < brk W) → Wp (f_X6_readBehindCondition_J103 N m) (fun v m' => v = nI (if tkK B n j = 59 ∧ brk W = 0 then ((5, j + 1, (drp 0 W C).1, (drp 0 W C).2, sd, md, (drp 0 W C).2.length, 0) : Mst) else (5, j, W, C, sd, md, fn, 1)).1 ∧
      CMa B n M li m0 m' (if tkK B n j = 59 ∧ brk W = 0 then (5, j + 1, (drp 0 W C).1, (drp 0 W C).2, sd, md, (drp 0 W C).2.length, 0) else (5, j, W, C, sd, md, fn, 1))) := by
    intro _
    unfold f_X6_readBehindCondition_J103
    simp only [li_0, li_1, li_2, li_3, li_4, li_5, li_6, li_7, li_8, li_9, li_10, li_11, li_12, li_13, li_14, li_15, li_16, li_17, li_18, li_19, li_20, li_21, li_22, li_23, li_24, li_25, li_26, li_27, li_28, li_29, li_30, li_31, li_32, li_37, li_38, li_39, li_40, li_41, li_42, li_43, li_44, li_45, li_46, li_47, li_48, li_49, li_50, li_57, li_59, li_60, li_61, li_62, li_63, li_64, li_65, li_69, li_81, li_89, li_90, li_92, li_97, li_99, li_100, li_101, li_103, li_104, li_105, li_106, li_108, li_111, li_112, li_113, li_114, li_115, li_116, li_117, li_119, li_122, li_123, li_124, li_125, li_126, li_127, li_128, li_129, li_130, li_131, li_132, li_133, li_134, li_135, li_136, li_137, li_140, li_141, li_142, li_143, li_145, li_147, li_150, li_153, li_159, li_160, li_161, li_162, li_185, li_197, li_213, li_222, li_223, li_255, li_256, li_257, li_258, li_259, li_260, li_261, li_262, li_263, li_264, li_271, li_272, li_273, li_274, li_275, li_276, li_277, li_278, li_300, li_400, li_420, li_500, li_802, li_820, li_823, li_839, li_855, li_871, li_887, li_999, li_1000, li_1001, li_1002, li_1003, li_1004, li_1005, li_1006, li_1007, li_1008, li_1009, li_1010, li_1011, li_1012, li_1013, li_1014, li_1015, li_1016, li_1017, li_1018, li_1019, li_1020, li_1021, li_1022, li_1023, li_1707, li_4096, li_9999, li_65536, li_100000, li_1000000, li_1664525, li_100000000, li_252645135, li_858993459, li_1000000007, li_1013904223, li_1431655765, li_m1]
    rw [k1]
    by_cases q : tkK B n j = 59
    · rw [if_pos (by rw [q]), h7]
      by_cases q0 : brk W = 0
      · rw [if_pos (by rw [q0]), if_pos ⟨q, q0⟩]
        have hjM := hM.lt hj q (by decide)
        refine wp_bind (h.drop hN (l := 0) (by decide) (by omega)) ?_
        intro _ m2 h2
        refine wp_bind (w_fin hN hM h2 hli hjM) ?_
        rintro _ m3 ⟨rfl, h3⟩
        exact wp_ret ⟨rfl, h3⟩
      · rw [if_neg (nI_ne q0 (by omega) (by omega)), if_neg (fun z => q0 z.2)]
        refine wp_bind (w_fail h (f := 1) (by decide)) ?_
        rintro _ m2 ⟨rfl, h2⟩
        exact wp_ret ⟨rfl, h2⟩
    · rw [if_neg (nI_ne q (by omega) (by omega)), if_neg (fun z => q z.1)]
      refine wp_bind (w_fail h (f := 1) (by decide)) ?_
      rintro _ m2 ⟨rfl, h2⟩
      exact wp_ret ⟨rfl, h2⟩
  have jn : opO (tkK B n j) = 10 ∨ opO (tkK B n j) = 11 → Wp (bd (f_X6_join N (opI (tkK B n j)) m) fun _ m_25 => some (nI 0, m_25)) (fun v m' => v = nI 0 ∧ CMa B n M li m0 m' (0, j + 1, opO (tkK B n j) :: (drp (stg (opO (tkK B n j))) W C).1, (drp (stg (opO (tkK B n j))) W C).2, sd, md, fn, 0)) := by
    intro q
    have hjM : j < M := hM.lt (j := j) hj rfl (by intro z; rw [z] at q; exact absurd q (by decide))
    have eop : opI (tkK B n j) = nI (opO (tkK B n j)) := (opI_is k3 (by omega) (by omega)).mpr rfl
    rw [eop]
    refine wp_bind (w_joinL (ex' := 0) hN hM h hn hjM (by omega)) ?_
    intro _ m2 h2
    exact wp_ret ⟨rfl, h2⟩
  unfold f_X6_readBehindCondition stp4
  simp only [li_0, li_1, li_2, li_3, li_4, li_5, li_6, li_7, li_8, li_9, li_10, li_11, li_12, li_13, li_14, li_15, li_16, li_17, li_18, li_19, li_20, li_21, li_22, li_23, li_24, li_25, li_26, li_27, li_28, li_29, li_30, li_31, li_32, li_37, li_38, li_39, li_40, li_41, li_42, li_43, li_44, li_45, li_46, li_47, li_48, li_49, li_50, li_57, li_59, li_60, li_61, li_62, li_63, li_64, li_65, li_69, li_81, li_89, li_90, li_92, li_97, li_99, li_100, li_101, li_103, li_104, li_105, li_106, li_108, li_111, li_112, li_113, li_114, li_115, li_116, li_117, li_119, li_122, li_123, li_124, li_125, li_126, li_127, li_128, li_129, li_130, li_131, li_132, li_133, li_134, li_135, li_136, li_137, li_140, li_141, li_142, li_143, li_145, li_147, li_150, li_153, li_159, li_160, li_161, li_162, li_185, li_197, li_213, li_222, li_223, li_255, li_256, li_257, li_258, li_259, li_260, li_261, li_262, li_263, li_264, li_271, li_272, li_273, li_274, li_275, li_276, li_277, li_278, li_300, li_400, li_420, li_500, li_802, li_820, li_823, li_839, li_855, li_871, li_887, li_999, li_1000, li_1001, li_1002, li_1003, li_1004, li_1005, li_1006, li_1007, li_1008, li_1009, li_1010, li_1011, li_1012, li_1013, li_1014, li_1015, li_1016, li_1017, li_1018, li_1019, li_1020, li_1021, li_1022, li_1023, li_1707, li_4096, li_9999, li_65536, li_100000, li_1000000, li_1664525, li_100000000, li_252645135, li_858993459, li_1000000007, li_1013904223, li_1431655765, li_m1]
  rw [k1, e_opOf k3, bd_s]
  by_cases q10 : opO (tkK B n j) = 10
  · rw [if_pos ((opI_is k3 (by decide) (by decide)).mpr q10)]
    simp only [if_pos (Or.inl q10 : opO (tkK B n j) = 10 ∨ opO (tkK B n j) = 11)]
    exact jn (Or.inl q10)
  · rw [if_neg (fun z => q10 ((opI_is k3 (by decide) (by decide)).mp z))]
    by_cases q11 : opO (tkK B n j) = 11
    · rw [if_pos ((opI_is k3 (by decide) (by decide)).mpr q11)]
      simp only [if_pos (Or.inr q11 : opO (tkK B n j) = 10 ∨ opO (tkK B n j) = 11)]
      exact jn (Or.inr q11)
    · rw [if_neg (fun z => q11 ((opI_is k3 (by decide) (by decide)).mp z)), k1]
      simp only [if_neg (fun z => z.elim q10 q11 : ¬ (opO (tkK B n j) = 10 ∨ opO (tkK B n j) = 11))]
      by_cases q41 : tkK B n j = 41
      · rw [if_pos (by rw [q41]), h7]
        by_cases qb : brk W = 0
        · have z : ¬ (tkK B n j = 41 ∧ 0 < brk W) := fun z => by omega
          rw [if_pos (nI_le (by omega) (by omega))]
          simp only [if_neg z]
          exact semi z
        · have hjM := hM.lt hj q41 (by decide)
          rw [if_neg (nI_ge (by omega) (by omega))]
          simp only [if_pos (⟨q41, by omega⟩ : tkK B n j = 41 ∧ 0 < brk W)]
          refine wp_bind (h.drop hN (l := 0) (by decide) (by omega)) ?_
          intro _ m2 h2
          have hbd : brk (drp 0 W C).1 = brk W := drp_brk W C
          have hle := drp_le (l := 0) W C
          obtain ⟨U, hU⟩ : ∃ U, (drp 0 W C).1 = 12 :: U := by
            rcases drp_0 W C with z | z
            · rw [z] at hbd
              exact absurd hbd.symm qb
            · exact z
          rw [hU] at h2 hle
          simp only [List.length_cons] at hle
          have g8 : m2 108 3 = nI (U.length + 1) := h2.2.1.1
          have g6 : m2 103 6 = nI (opn (12 :: U)) := h2.2.1.2.2.2.2.1
          have g7 : m2 103 7 = nI (brk (12 :: U)) := h2.2.2.1
          rw [g8, nI_dn, show (if nI 0 < nI U.length then nI U.length else nI 0) = nI U.length by
            split
            · rfl
            · rename_i z
              have : U.length = 0 := Nat.eq_zero_of_not_pos fun y => z (nI_lt y (by omega))
              rw [this], bnd_s, mset_k (by decide), g6, bnd_s, mset_j (by decide), mset_k (by decide), g7, bnd_s]
          refine wp_bind ((h2.close (by omega)).nx (ex' := 4) hM4 hjM) ?_
          intro _ m3 h3
          refine wp_ret ⟨rfl, ?_⟩
          rw [hU]
          exact h3
      · have z : ¬ (tkK B n j = 41 ∧ 0 < brk W) := fun z => q41 z.1
        rw [if_neg (nI_ne q41 (by omega) (by omega))]
        simp only [if_neg z]
        exact semi z
end LINE
