/-! the reference's tests of THE LAW -/
def okT (B : Nat → Nat) (n w l d b j : Nat) (bar : Nat → Prop) (j' : Nat) (L : List Spt) : Prop := (∀ s : List Bool, s.length ≤ 2 * d + b → tcS L s = some (true :: s)) ∧ bar j' ∧ TP (tkK B n) (tkV B n) w l d j j' L
def TestOk (B : Nat → Nat) (n M : Nat) (ot : Mem → Ans) (d : Nat) : Prop := ∀ (m : Mem) (j : Nat) (S : List Spt), RT B n 0 j m → SR m S → S.length ≤ j → j ≤ M → m 123 24 = nI d →
  Wp (ot m) (GOk B n M m j S (okT B n 4 3 d 2 j (fun _ => True)) (fun j' e => TBa (tkK B n) (tkV B n) 4 d j j' e))
section TESTS
variable {N : Nat} {m m1 m' m2 : Mem} {B : Nat → Nat} {n M j j1 k d : Nat} {S L L1 : List Spt} {ot : Mem → Ans} {v : Int32}
theorem w_every (hN : 20000 ≤ N) (hM : Mt B n M) (hot : TestOk B n M ot d) (h : RT B n 0 j m) (hS : SR m S) (hSj : S.length ≤ j) (hj : j ≤ M) (h24 : m 123 24 = nI d) :
    Wp (f_X12_every N ot m) (GOk B n M m j S (okT B n 2 2 d 1 j (fun j' => tkK B n j' ≠ 261)) (fun j' e => TBa (tkK B n) (tkV B n) 2 d j j' e)) := by
  have hM4 := hM.1
  unfold f_X12_every
  simp only [li_0, li_1, li_2, li_3, li_4, li_5, li_6, li_7, li_8, li_9, li_10, li_11, li_12, li_13, li_14, li_15, li_16, li_17, li_18, li_19, li_20, li_21, li_22, li_23, li_24, li_25, li_26, li_27, li_28, li_29, li_30, li_31, li_32, li_37, li_38, li_39, li_40, li_41, li_42, li_43, li_44, li_45, li_46, li_47, li_48, li_49, li_50, li_57, li_59, li_60, li_61, li_62, li_63, li_64, li_65, li_69, li_81, li_89, li_90, li_92, li_97, li_99, li_100, li_101, li_103, li_104, li_105, li_106, li_108, li_111, li_112, li_113, li_114, li_115, li_116, li_117, li_119, li_122, li_123, li_124, li_125, li_126, li_127, li_128, li_129, li_130, li_131, li_132, li_133, li_134, li_135, li_136, li_137, li_140, li_141, li_142, li_143, li_145, li_147, li_150, li_153, li_159, li_160, li_161, li_162, li_185, li_197, li_213, li_222, li_223, li_255, li_256, li_257, li_258, li_259, li_260, li_261, li_262, li_263, li_264, li_271, li_272, li_273, li_274, li_275, li_276, li_277, li_278, li_300, li_400, li_420, li_500, li_802, li_820, li_823, li_839, li_855, li_871, li_887, li_999, li_1000, li_1001, li_1002, li_1003, li_1004, li_1005, li_1006, li_1007, li_1008, li_1009, li_1010, li_1011, li_1012, li_1013, li_1014, li_1015, li_1016, li_1017, li_1018, li_1019, li_1020, li_1021, li_1022, li_1023, li_1707, li_4096, li_9999, li_65536, li_100000, li_1000000, li_1664525, li_100000000, li_252645135, li_858993459, li_1000000007, li_1013904223, li_1431655765, li_m1]
  refine wp_bind (hot m j S h hS hSj hj h24) ?_
  rintro v m1 (⟨rfl, j1, L1, a1, a2, a3, a4, a5, a6, a7, a8, -, a10⟩ | ⟨rfl, j1, e, a1, a2, a3, a4, a5, a6, a7⟩)
  · rw [if_neg (by decide)]
    refine wp_it0 (fun c m' => ∃ j2 L2, c = M - j2 ∧ RT B n 0 j2 m' ∧ SR m' (S ++ L2) ∧ Gm m m' ∧ m' 123 24 = m 123 24 ∧ j < j2 ∧ j2 ≤ M ∧ L2.length ≤ j2 - j ∧ (∀ s : List Bool, s.length ≤ 2 * d + 1 → tcS L2 s = some (true :: s)) ∧ TP (tkK B n) (tkV B n) 2 2 d j j2 L2) ?_ N (M - j1) _ (by omega)
      ⟨j1, L1, rfl, a1, a2, a3, a4, a5, a6, a7, fun s hs => a8 s (by omega), a10.down⟩
    rintro c X m2 ⟨j2, L2, rfl, b1, b2, b3, b4, b5, b6, b7, b8, b9⟩ hX
    obtain ⟨-, -, t5, -⟩ := trK_c _ b1.c
    have i5 := b1.is t5 (by decide)
    unfold f_X12_every_L9
    simp only [li_0, li_1, li_2, li_3, li_4, li_5, li_6, li_7, li_8, li_9, li_10, li_11, li_12, li_13, li_14, li_15, li_16, li_17, li_18, li_19, li_20, li_21, li_22, li_23, li_24, li_25, li_26, li_27, li_28, li_29, li_30, li_31, li_32, li_37, li_38, li_39, li_40, li_41, li_42, li_43, li_44, li_45, li_46, li_47, li_48, li_49, li_50, li_57, li_59, li_60, li_61, li_62, li_63, li_64, li_65, li_69, li_81, li_89, li_90, li_92, li_97, li_99, li_100, li_101, li_103, li_104, li_105, li_106, li_108, li_111, li_112, li_113, li_114, li_115, li_116, li_117, li_119, li_122, li_123, li_124, li_125, li_126, li_127, li_128, li_129, li_130, li_131, li_132, li_133, li_134, li_135, li_136, li_137, li_140, li_141, li_142, li_143, li_145, li_147, li_150, li_153, li_159, li_160, li_161, li_162, li_185, li_197, li_213, li_222, li_223, li_255, li_256, li_257, li_258, li_259, li_260, li_261, li_262, li_263, li_264, li_271, li_272, li_273, li_274, li_275, li_276, li_277, li_278, li_300, li_400, li_420, li_500, li_802, li_820, li_823, li_839, li_855, li_871, li_887, li_999, li_1000, li_1001, li_1002, li_1003, li_1004, li_1005, li_1006, li_1007, li_1008, li_1009, li_1010, li_1011, li_1012, li_1013, li_1014, li_1015, li_1016, li_1017, li_1018, li_1019, li_1020, li_1021, li_1022, li_1023, li_1707, li_4096, li_9999, li_65536, li_100000, li_1000000, li_1664525, li_100000000, li_252645135, li_858993459, li_1000000007, li_1013904223, li_1431655765, li_m1]
    by_cases q : tkK B n j2 = 261
    · have hjM := hM.lt b6 q (by decide)
      rw [if_pos (i5.mpr q)]
      refine wp_bind (b1.nx hN (by decide)) ?_
      rintro _ m3 ⟨n1, n2⟩
      refine wp_bind (hot m3 (j2 + 1) (S ++ L2) n1 (b2.lk n2) (by rw [List.length_append]; omega) (by omega) (by rw [n2.2 24 (by decide), b4, h24])) ?_
      rintro v m4 (⟨rfl, j3, L3, c1, c2, c3, c4, c5, c6, c7, c8, -, c10⟩ | ⟨rfl, j3, e, c1, c2, c3, c4, c5, c6, c7⟩)
      · rw [if_neg (by decide)]
        obtain ⟨m5, l1, l2, l3, l4, l5⟩ := c1.lay (N := N) (k1 := 31) c2 (by simp only [List.length_append]; omega) (nI 0)
        rw [l1, bd_s]
        refine hX (M - j3) _ (by omega) ⟨j3, L2 ++ (L3 ++ [(31, nI 0)]), rfl, l4, ?_, ((b3.trans n2.gm).trans c3).trans l3, ?_, by omega, by omega, ?_, fun s hs => ?_, b9.and_ b5 (show opO (tkK B n j2) = 10 by rw [q]; rfl) (Or.inl ⟨rfl, rfl, rfl, rfl, rfl⟩) (by omega) c10⟩
        · rw [← List.append_assoc, ← List.append_assoc]
          exact l2
        · rw [l5, c4, n2.2 24 (by decide), b4]
        · simp only [List.length_append, List.length_cons, List.length_nil]
          omega
        · rw [tcS_app (b8 s hs), tcS_app (c8 (true :: s) (by simp; omega))]
          exact tc_bool (by decide)
      · rw [if_pos rfl]
        exact wp_ret (Or.inr ⟨rfl, j3, e, c1, c2, c3, (b3.trans n2.gm).trans c4, by omega, c6, TBa.and_ b9 b5 (show opO (tkK B n j2) = 10 by rw [q]; rfl) (Or.inl ⟨rfl, rfl, rfl⟩) c5 c7⟩)
    · rw [if_neg (fun z => q (i5.mp z))]
      exact wp_ret (Or.inl ⟨rfl, j2, L2, b1, b2, b3, b4, b5, b6, b7, b8, q, b9⟩)
  · rw [if_pos rfl]
    exact wp_ret (Or.inr ⟨rfl, j1, e, a1, a2, a3, a4, a5, a6, a7.down (by decide)⟩)
theorem w_any (hN : 20000 ≤ N) (hM : Mt B n M) (hot : TestOk B n M ot d) (h : RT B n 0 j m) (hS : SR m S) (hSj : S.length ≤ j) (hj : j ≤ M) (h24 : m 123 24 = nI d) :
    Wp (f_X12_any N ot m) (GOk B n M m j S (okT B n 1 1 d 0 j (fun j' => tkK B n j' ≠ 261 ∧ tkK B n j' ≠ 260)) (fun j' e => TBa (tkK B n) (tkV B n) 1 d j j' e)) := by
  have hM4 := hM.1
  unfold f_X12_any
  simp only [li_0, li_1, li_2, li_3, li_4, li_5, li_6, li_7, li_8, li_9, li_10, li_11, li_12, li_13, li_14, li_15, li_16, li_17, li_18, li_19, li_20, li_21, li_22, li_23, li_24, li_25, li_26, li_27, li_28, li_29, li_30, li_31, li_32, li_37, li_38, li_39, li_40, li_41, li_42, li_43, li_44, li_45, li_46, li_47, li_48, li_49, li_50, li_57, li_59, li_60, li_61, li_62, li_63, li_64, li_65, li_69, li_81, li_89, li_90, li_92, li_97, li_99, li_100, li_101, li_103, li_104, li_105, li_106, li_108, li_111, li_112, li_113, li_114, li_115, li_116, li_117, li_119, li_122, li_123, li_124, li_125, li_126, li_127, li_128, li_129, li_130, li_131, li_132, li_133, li_134, li_135, li_136, li_137, li_140, li_141, li_142, li_143, li_145, li_147, li_150, li_153, li_159, li_160, li_161, li_162, li_185, li_197, li_213, li_222, li_223, li_255, li_256, li_257, li_258, li_259, li_260, li_261, li_262, li_263, li_264, li_271, li_272, li_273, li_274, li_275, li_276, li_277, li_278, li_300, li_400, li_420, li_500, li_802, li_820, li_823, li_839, li_855, li_871, li_887, li_999, li_1000, li_1001, li_1002, li_1003, li_1004, li_1005, li_1006, li_1007, li_1008, li_1009, li_1010, li_1011, li_1012, li_1013, li_1014, li_1015, li_1016, li_1017, li_1018, li_1019, li_1020, li_1021, li_1022, li_1023, li_1707, li_4096, li_9999, li_65536, li_100000, li_1000000, li_1664525, li_100000000, li_252645135, li_858993459, li_1000000007, li_1013904223, li_1431655765, li_m1]
  refine wp_bind (w_every hN hM hot h hS hSj hj h24) ?_
  rintro v m1 (⟨rfl, j1, L1, a1, a2, a3, a4, a5, a6, a7, a8, a9, a10⟩ | ⟨rfl, j1, e, a1, a2, a3, a4, a5, a6, a7⟩)
  · rw [if_neg (by decide)]
    refine wp_it0 (fun c m' => ∃ j2 L2, c = M - j2 ∧ RT B n 0 j2 m' ∧ SR m' (S ++ L2) ∧ Gm m m' ∧ m' 123 24 = m 123 24 ∧ j < j2 ∧ j2 ≤ M ∧ L2.length ≤ j2 - j ∧ (∀ s : List Bool, s.length ≤ 2 * d + 0 → tcS L2 s = some (true :: s)) ∧ tkK B n j2 ≠ 261 ∧ TP (tkK B n) (tkV B n) 1 1 d j j2 L2) ?_ N (M - j1) _ (by omega)
      ⟨j1, L1, rfl, a1, a2, a3, a4, a5, a6, a7, fun s hs => a8 s (by omega), a9, a10.down1⟩
    rintro c X m2 ⟨j2, L2, rfl, b1, b2, b3, b4, b5, b6, b7, b8, b8', b9⟩ hX
    obtain ⟨-, t4, -⟩ := trK_c _ b1.c
    have i4 := b1.is t4 (by decide)
    unfold f_X12_any_L9
    simp only [li_0, li_1, li_2, li_3, li_4, li_5, li_6, li_7, li_8, li_9, li_10, li_11, li_12, li_13, li_14, li_15, li_16, li_17, li_18, li_19, li_20, li_21, li_22, li_23, li_24, li_25, li_26, li_27, li_28, li_29, li_30, li_31, li_32, li_37, li_38, li_39, li_40, li_41, li_42, li_43, li_44, li_45, li_46, li_47, li_48, li_49, li_50, li_57, li_59, li_60, li_61, li_62, li_63, li_64, li_65, li_69, li_81, li_89, li_90, li_92, li_97, li_99, li_100, li_101, li_103, li_104, li_105, li_106, li_108, li_111, li_112, li_113, li_114, li_115, li_116, li_117, li_119, li_122, li_123, li_124, li_125, li_126, li_127, li_128, li_129, li_130, li_131, li_132, li_133, li_134, li_135, li_136, li_137, li_140, li_141, li_142, li_143, li_145, li_147, li_150, li_153, li_159, li_160, li_161, li_162, li_185, li_197, li_213, li_222, li_223, li_255, li_256, li_257, li_258, li_259, li_260, li_261, li_262, li_263, li_264, li_271, li_272, li_273, li_274, li_275, li_276, li_277, li_278, li_300, li_400, li_420, li_500, li_802, li_820, li_823, li_839, li_855, li_871, li_887, li_999, li_1000, li_1001, li_1002, li_1003, li_1004, li_1005, li_1006, li_1007, li_1008, li_1009, li_1010, li_1011, li_1012, li_1013, li_1014, li_1015, li_1016, li_1017, li_1018, li_1019, li_1020, li_1021, li_1022, li_1023, li_1707, li_4096, li_9999, li_65536, li_100000, li_1000000, li_1664525, li_100000000, li_252645135, li_858993459, li_1000000007, li_1013904223, li_1431655765, li_m1]
    by_cases q : tkK B n j2 = 260
    · have hjM := hM.lt b6 q (by decide)
      rw [if_pos (i4.mpr q)]
      refine wp_bind (b1.nx hN (by decide)) ?_
      rintro _ m3 ⟨n1, n2⟩
      refine wp_bind (w_every hN hM hot n1 (b2.lk n2) (by rw [List.length_append]; omega) (by omega) (by rw [n2.2 24 (by decide), b4, h24])) ?_
      rintro v m4 (⟨rfl, j3, L3, c1, c2, c3, c4, c5, c6, c7, c8, c9, c10⟩ | ⟨rfl, j3, e, c1, c2, c3, c4, c5, c6, c7⟩)
      · rw [if_neg (by decide)]
        obtain ⟨m5, l1, l2, l3, l4, l5⟩ := c1.lay (N := N) (k1 := 32) c2 (by simp only [List.length_append]; omega) (nI 0)
        rw [l1, bd_s]
        refine hX (M - j3) _ (by omega) ⟨j3, L2 ++ (L3 ++ [(32, nI 0)]), rfl, l4, ?_, ((b3.trans n2.gm).trans c3).trans l3, ?_, by omega, by omega, ?_, fun s hs => ?_, c9, b9.and_ b5 (show opO (tkK B n j2) = 11 by rw [q]; rfl) (Or.inr ⟨rfl, rfl, rfl, rfl, rfl⟩) (by omega) c10⟩
        · rw [← List.append_assoc, ← List.append_assoc]
          exact l2
        · rw [l5, c4, n2.2 24 (by decide), b4]
        · simp only [List.length_append, List.length_cons, List.length_nil]
          omega
        · rw [tcS_app (b8 s hs), tcS_app (c8 (true :: s) (by simp; omega))]
          exact tc_bool (by decide)
      · rw [if_pos rfl]
        exact wp_ret (Or.inr ⟨rfl, j3, e, c1, c2, c3, (b3.trans n2.gm).trans c4, by omega, c6, TBa.and_ b9 b5 (show opO (tkK B n j2) = 11 by rw [q]; rfl) (Or.inr ⟨rfl, rfl, rfl⟩) c5 c7⟩)
    · rw [if_neg (fun z => q (i4.mp z))]
      exact wp_ret (Or.inl ⟨rfl, j2, L2, b1, b2, b3, b4, b5, b6, b7, b8, ⟨b8', q⟩, b9⟩)
  · rw [if_pos rfl]
    exact wp_ret (Or.inr ⟨rfl, j1, e, a1, a2, a3, a4, a5, a6, a7.down (by decide)⟩)
/-- one opens more -/
theorem w_opens (hN : 20000 ≤ N) (hd : d < 8) (h : RT B n 0 j m) (hS : SR m S) (h24 : m 123 24 = nI d) :
    Wp (f_X12_opens N m) (fun v m' => v = nI 1 ∧ RT B n 0 (j + 1) m' ∧ SR m' S ∧ Gm m m' ∧ m' 123 24 = nI (d + 1)) := by
  unfold f_X12_opens
  simp only [li_0, li_1, li_2, li_3, li_4, li_5, li_6, li_7, li_8, li_9, li_10, li_11, li_12, li_13, li_14, li_15, li_16, li_17, li_18, li_19, li_20, li_21, li_22, li_23, li_24, li_25, li_26, li_27, li_28, li_29, li_30, li_31, li_32, li_37, li_38, li_39, li_40, li_41, li_42, li_43, li_44, li_45, li_46, li_47, li_48, li_49, li_50, li_57, li_59, li_60, li_61, li_62, li_63, li_64, li_65, li_69, li_81, li_89, li_90, li_92, li_97, li_99, li_100, li_101, li_103, li_104, li_105, li_106, li_108, li_111, li_112, li_113, li_114, li_115, li_116, li_117, li_119, li_122, li_123, li_124, li_125, li_126, li_127, li_128, li_129, li_130, li_131, li_132, li_133, li_134, li_135, li_136, li_137, li_140, li_141, li_142, li_143, li_145, li_147, li_150, li_153, li_159, li_160, li_161, li_162, li_185, li_197, li_213, li_222, li_223, li_255, li_256, li_257, li_258, li_259, li_260, li_261, li_262, li_263, li_264, li_271, li_272, li_273, li_274, li_275, li_276, li_277, li_278, li_300, li_400, li_420, li_500, li_802, li_820, li_823, li_839, li_855, li_871, li_887, li_999, li_1000, li_1001, li_1002, li_1003, li_1004, li_1005, li_1006, li_1007, li_1008, li_1009, li_1010, li_1011, li_1012, li_1013, li_1014, li_1015, li_1016, li_1017, li_1018, li_1019, li_1020, li_1021, li_1022, li_1023, li_1707, li_4096, li_9999, li_65536, li_100000, li_1000000, li_1664525, li_100000000, li_252645135, li_858993459, li_1000000007, li_1013904223, li_1431655765, li_m1]
  rw [h24, if_neg (nI_ne (by omega) (by omega) (by omega)), nI_up, bnd_s]
  have g : Gm m (mset m 123 24 (nI (d + 1))) := ⟨fun x x1 x2 => mset_ne x1, fun i i1 i2 i3 => mset_j i3⟩
  have h1 : RT B n 0 j (mset m 123 24 (nI (d + 1))) := h.gm g (fun i i1 i2 => mset_j (by omega))
  refine wp_bind (h1.nx hN (by decide)) ?_
  rintro _ m3 ⟨n1, n2⟩
  refine wp_ret ⟨rfl, n1, SR.lk ?_ n2, g.trans n2.gm, ?_⟩
  · exact ⟨by rw [mset_j (by decide)]; exact hS.1, by rw [mset_ne (by decide)]; exact hS.2⟩
  · rw [n2.2 24 (by decide), mset_at]
theorem w_opens8 (h : RT B n 0 j m) (h24 : m 123 24 = nI 8) : Wp (f_X12_opens N m) (fun v m' => v = nI 0 ∧ m' 123 21 = nI 3 ∧ m' 123 22 = nI (psT B n j) ∧ Gm m m') := by
  unfold f_X12_opens
  simp only [li_0, li_1, li_2, li_3, li_4, li_5, li_6, li_7, li_8, li_9, li_10, li_11, li_12, li_13, li_14, li_15, li_16, li_17, li_18, li_19, li_20, li_21, li_22, li_23, li_24, li_25, li_26, li_27, li_28, li_29, li_30, li_31, li_32, li_37, li_38, li_39, li_40, li_41, li_42, li_43, li_44, li_45, li_46, li_47, li_48, li_49, li_50, li_57, li_59, li_60, li_61, li_62, li_63, li_64, li_65, li_69, li_81, li_89, li_90, li_92, li_97, li_99, li_100, li_101, li_103, li_104, li_105, li_106, li_108, li_111, li_112, li_113, li_114, li_115, li_116, li_117, li_119, li_122, li_123, li_124, li_125, li_126, li_127, li_128, li_129, li_130, li_131, li_132, li_133, li_134, li_135, li_136, li_137, li_140, li_141, li_142, li_143, li_145, li_147, li_150, li_153, li_159, li_160, li_161, li_162, li_185, li_197, li_213, li_222, li_223, li_255, li_256, li_257, li_258, li_259, li_260, li_261, li_262, li_263, li_264, li_271, li_272, li_273, li_274, li_275, li_276, li_277, li_278, li_300, li_400, li_420, li_500, li_802, li_820, li_823, li_839, li_855, li_871, li_887, li_999, li_1000, li_1001, li_1002, li_1003, li_1004, li_1005, li_1006, li_1007, li_1008, li_1009, li_1010, li_1011, li_1012, li_1013, li_1014, li_1015, li_1016, li_1017, li_1018, li_1019, li_1020, li_1021, li_1022, li_1023, li_1707, li_4096, li_9999, li_65536, li_100000, li_1000000, li_1664525, li_100000000, li_252645135, li_858993459, li_1000000007, li_1013904223, li_1431655765, li_m1]
  rw [if_pos h24]
  obtain ⟨m2, h1, h2, h3, h4, -⟩ := w_bad (N := N) h 3
  rw [h1, bd_s]
  exact wp_ret ⟨rfl, h2, h3, h4⟩
theorem w_oneTest (hN : 20000 ≤ N) (hM : Mt B n M) : ∀ (k d : Nat), 9 ≤ k + d → d ≤ 8 → TestOk B n M (f_X12_oneTest N k) d
  | 0, d, h1, h2 => absurd h1 (by omega)
  | k + 1, d, h1, h2 => by
    intro m j S h hS hSj hj h24
    have hM4 := hM.1
    have ih : d < 8 → TestOk B n M (f_X12_oneTest N k) (d + 1) := fun hd => w_oneTest hN hM k (d + 1) (by omega) (by omega)
    revert ih
    show _ → Wp (f_X12_oneTestB N (f_X12_oneTest N k) m) _
    generalize f_X12_oneTest N k = ot
    intro ih
    have hc := h.c
    obtain ⟨t40, -⟩ := trK_b _ hc
    obtain ⟨-, -, -, t6⟩ := trK_c _ hc
    have i40 := h.is t40 (by decide)
    have i6 := h.is t6 (by decide)
    unfold f_X12_oneTestB
    simp only [li_0, li_1, li_2, li_3, li_4, li_5, li_6, li_7, li_8, li_9, li_10, li_11, li_12, li_13, li_14, li_15, li_16, li_17, li_18, li_19, li_20, li_21, li_22, li_23, li_24, li_25, li_26, li_27, li_28, li_29, li_30, li_31, li_32, li_37, li_38, li_39, li_40, li_41, li_42, li_43, li_44, li_45, li_46, li_47, li_48, li_49, li_50, li_57, li_59, li_60, li_61, li_62, li_63, li_64, li_65, li_69, li_81, li_89, li_90, li_92, li_97, li_99, li_100, li_101, li_103, li_104, li_105, li_106, li_108, li_111, li_112, li_113, li_114, li_115, li_116, li_117, li_119, li_122, li_123, li_124, li_125, li_126, li_127, li_128, li_129, li_130, li_131, li_132, li_133, li_134, li_135, li_136, li_137, li_140, li_141, li_142, li_143, li_145, li_147, li_150, li_153, li_159, li_160, li_161, li_162, li_185, li_197, li_213, li_222, li_223, li_255, li_256, li_257, li_258, li_259, li_260, li_261, li_262, li_263, li_264, li_271, li_272, li_273, li_274, li_275, li_276, li_277, li_278, li_300, li_400, li_420, li_500, li_802, li_820, li_823, li_839, li_855, li_871, li_887, li_999, li_1000, li_1001, li_1002, li_1003, li_1004, li_1005, li_1006, li_1007, li_1008, li_1009, li_1010, li_1011, li_1012, li_1013, li_1014, li_1015, li_1016, li_1017, li_1018, li_1019, li_1020, li_1021, li_1022, li_1023, li_1707, li_4096, li_9999, li_65536, li_100000, li_1000000, li_1664525, li_100000000, li_252645135, li_858993459, li_1000000007, li_1013904223, li_1431655765, li_m1]
    by_cases q6 : tkK B n j = 262
    · have hjM := hM.lt hj q6 (by decide)
      rw [if_pos (i6.mpr q6)]
      by_cases hd : d < 8
      · refine wp_bind (w_opens hN hd h hS h24) ?_
        rintro _ m1 ⟨rfl, o1, o2, o3, o4⟩
        rw [if_neg (by decide)]
        refine wp_bind (ih hd m1 (j + 1) S o1 o2 (by omega) (by omega) o4) ?_
        rintro v m2 (⟨rfl, j1, L1, a1, a2, a3, a4, a5, a6, a7, a8, -, a10⟩ | ⟨rfl, j1, e, a1, a2, a3, a4, a5, a6, a7⟩)
        · rw [if_neg (by decide), a4, o4, nI_dn, bnd_s]
          have g : Gm m2 (mset m2 123 24 (nI d)) := ⟨fun x x1 x2 => mset_ne x1, fun i i1 i2 i3 => mset_j i3⟩
          have h3 : RT B n 0 j1 (mset m2 123 24 (nI d)) := a1.gm g (fun i i1 i2 => mset_j (by omega))
          have s3 : SR (mset m2 123 24 (nI d)) (S ++ L1) := ⟨by rw [mset_j (by decide)]; exact a2.1, by rw [mset_ne (by decide)]; exact a2.2⟩
          obtain ⟨m5, l1, l2, l3, l4, l5⟩ := h3.lay (N := N) (k1 := 30) s3 (by simp only [List.length_append]; omega) (nI 0)
          rw [l1, bd_s]
          refine wp_ret (Or.inl ⟨rfl, j1, L1 ++ [(30, nI 0)], l4, ?_, ((o3.trans a3).trans g).trans l3, ?_, by omega, a6, ?_, fun s hs => ?_, trivial, TP.not_ q6 hd a5 a10⟩)
          · rw [← List.append_assoc]; exact l2
          · rw [l5, mset_at, h24]
          · simp only [List.length_append, List.length_cons, List.length_nil]
            omega
          · rw [tcS_app (a8 s (by omega))]
            exact tc_not
        · rw [if_pos rfl]
          exact wp_ret (Or.inr ⟨rfl, j1, e, a1, a2, a3, o3.trans a4, by omega, a6, TBa.not_ q6 hd a5 a7⟩)
      · have : d = 8 := by omega
        subst this
        refine wp_bind (w_opens8 h h24) ?_
        rintro _ m1 ⟨rfl, o1, o2, o3⟩
        rw [if_pos rfl]
        exact wp_ret (Or.inr ⟨rfl, j, 3, o1, by decide, o2, o3, Nat.le_refl _, hj, TBa.open3 (Or.inl q6) (Nat.le_refl _)⟩)
    · rw [if_neg (fun z => q6 (i6.mp z))]
      by_cases q40 : tkK B n j = 40
      · have hjM := hM.lt hj q40 (by decide)
        rw [if_pos (i40.mpr q40)]
        by_cases hd : d < 8
        · refine wp_bind (w_opens hN hd h hS h24) ?_
          rintro _ m1 ⟨rfl, o1, o2, o3, o4⟩
          rw [if_neg (by decide)]
          refine wp_bind (w_any hN hM (ih hd) o1 o2 (by omega) (by omega) o4) ?_
          rintro v m2 (⟨rfl, j1, L1, a1, a2, a3, a4, a5, a6, a7, a8, a9, a10⟩ | ⟨rfl, j1, e, a1, a2, a3, a4, a5, a6, a7⟩)
          · rw [if_neg (by decide)]
            obtain ⟨-, t41, -⟩ := trK_b _ a1.c
            have i41 := a1.is t41 (by decide)
            unfold f_X12_need
            simp only [li_0, li_1, li_2, li_3, li_4, li_5, li_6, li_7, li_8, li_9, li_10, li_11, li_12, li_13, li_14, li_15, li_16, li_17, li_18, li_19, li_20, li_21, li_22, li_23, li_24, li_25, li_26, li_27, li_28, li_29, li_30, li_31, li_32, li_37, li_38, li_39, li_40, li_41, li_42, li_43, li_44, li_45, li_46, li_47, li_48, li_49, li_50, li_57, li_59, li_60, li_61, li_62, li_63, li_64, li_65, li_69, li_81, li_89, li_90, li_92, li_97, li_99, li_100, li_101, li_103, li_104, li_105, li_106, li_108, li_111, li_112, li_113, li_114, li_115, li_116, li_117, li_119, li_122, li_123, li_124, li_125, li_126, li_127, li_128, li_129, li_130, li_131, li_132, li_133, li_134, li_135, li_136, li_137, li_140, li_141, li_142, li_143, li_145, li_147, li_150, li_153, li_159, li_160, li_161, li_162, li_185, li_197, li_213, li_222, li_223, li_255, li_256, li_257, li_258, li_259, li_260, li_261, li_262, li_263, li_264, li_271, li_272, li_273, li_274, li_275, li_276, li_277, li_278, li_300, li_400, li_420, li_500, li_802, li_820, li_823, li_839, li_855, li_871, li_887, li_999, li_1000, li_1001, li_1002, li_1003, li_1004, li_1005, li_1006, li_1007, li_1008, li_1009, li_1010, li_1011, li_1012, li_1013, li_1014, li_1015, li_1016, li_1017, li_1018, li_1019, li_1020, li_1021, li_1022, li_1023, li_1707, li_4096, li_9999, li_65536, li_100000, li_1000000, li_1664525, li_100000000, li_252645135, li_858993459, li_1000000007, li_1013904223, li_1431655765, li_m1]
            by_cases q41 : tkK B n j1 = 41
            · have hjM1 := hM.lt a6 q41 (by decide)
              rw [if_pos (i41.mpr q41)]
              refine wp_bind (wp_bind (a1.nx hN (by decide)) (fun v m3 n3 => wp_ret (Q := fun v m' => v = nI 1 ∧ RT B n 0 (j1 + 1) m' ∧ Lk m2 m') ⟨rfl, n3⟩)) ?_
              rintro _ m3 ⟨rfl, n1, n2⟩
              rw [if_neg (by decide), n2.2 24 (by decide), a4, o4, nI_dn, bnd_s]
              have g : Gm m3 (mset m3 123 24 (nI d)) := ⟨fun x x1 x2 => mset_ne x1, fun i i1 i2 i3 => mset_j i3⟩
              have h3 : RT B n 0 (j1 + 1) (mset m3 123 24 (nI d)) := n1.gm g (fun i i1 i2 => mset_j (by omega))
              have s3 : SR (mset m3 123 24 (nI d)) (S ++ L1) := by
                have s2 := a2.lk n2
                exact ⟨by rw [mset_j (by decide)]; exact s2.1, by rw [mset_ne (by decide)]; exact s2.2⟩
              refine wp_ret (Or.inl ⟨rfl, j1 + 1, L1, h3, s3, ((o3.trans a3).trans n2.gm).trans g, ?_, by omega, by omega, by omega, fun s hs => a8 s (by omega), trivial, TP.paren q40 hd a5 a10 q41⟩)
              rw [mset_at, h24]
            · rw [if_neg (fun z => q41 (i41.mp z))]
              obtain ⟨m3, l1, l2, l3, l4, -⟩ := w_bad (N := N) a1 1
              rw [l1, bd_s, show isB (nI 0) = true from rfl, chk_t, bd_s, if_pos rfl]
              have h10 : opO (tkK B n j1) ≠ 10 ∧ opO (tkK B n j1) ≠ 11 := by
                have : ∀ c, c < 279 → c ≠ 261 → c ≠ 260 → opO c ≠ 10 ∧ opO c ≠ 11 := by decide +kernel
                exact this _ a1.c a9.1 a9.2
              exact wp_ret (Or.inr ⟨rfl, j1, 1, l2, by decide, l3, (o3.trans a3).trans l4, by omega, a6, TBa.paren1 q40 hd a5 a10 q41 h10⟩)
          · rw [if_pos rfl]
            exact wp_ret (Or.inr ⟨rfl, j1, e, a1, a2, a3, o3.trans a4, by omega, a6, TBa.paren q40 hd a5 a7⟩)
        · have : d = 8 := by omega
          subst this
          refine wp_bind (w_opens8 h h24) ?_
          rintro _ m1 ⟨rfl, o1, o2, o3⟩
          rw [if_pos rfl]
          exact wp_ret (Or.inr ⟨rfl, j, 3, o1, by decide, o2, o3, Nat.le_refl _, hj, TBa.open3 (Or.inr q40) (Nat.le_refl _)⟩)
      · rw [if_neg (fun z => q40 (i40.mp z))]
        have hkk : tkK B n j ≠ 40 ∧ tkK B n j ≠ 262 := ⟨q40, q6⟩
        refine wp_bind (w_sumUp hN hM h hS hSj hj) ?_
        rintro v m1 (⟨rfl, j1, L1, a1, a2, a3, a4, a5, a6, a7, a8, a9, a10⟩ | ⟨rfl, j1, e, a1, a2, a3, a4, a5, a6, a7⟩)
        · rw [if_neg (by decide)]
          obtain ⟨-, -, t60, t61, t62, -⟩ := trK_b _ a1.c
          have i60 := a1.is t60 (by decide)
          have i61 := a1.is t61 (by decide)
          have i62 := a1.is t62 (by decide)
          have go : ∀ (k1 o : Nat), j1 < M → opO (tkK B n j1) = o → o = 6 ∨ o = 7 ∨ o = 8 → opK k1 = o → (k1 = 27 ∨ k1 = 28 ∨ k1 = 29) → Wp (f_X12_oneTestB_J147 N ot (nI k1) m1) (GOk B n M m j S (okT B n 4 3 d 2 j (fun _ => True)) (fun j' e => TBa (tkK B n) (tkV B n) 4 d j j' e)) := by
            intro k1 o hjM1 ho1 ho2 ho3 ho4
            unfold f_X12_oneTestB_J147
            simp only [li_0, li_1, li_2, li_3, li_4, li_5, li_6, li_7, li_8, li_9, li_10, li_11, li_12, li_13, li_14, li_15, li_16, li_17, li_18, li_19, li_20, li_21, li_22, li_23, li_24, li_25, li_26, li_27, li_28, li_29, li_30, li_31, li_32, li_37, li_38, li_39, li_40, li_41, li_42, li_43, li_44, li_45, li_46, li_47, li_48, li_49, li_50, li_57, li_59, li_60, li_61, li_62, li_63, li_64, li_65, li_69, li_81, li_89, li_90, li_92, li_97, li_99, li_100, li_101, li_103, li_104, li_105, li_106, li_108, li_111, li_112, li_113, li_114, li_115, li_116, li_117, li_119, li_122, li_123, li_124, li_125, li_126, li_127, li_128, li_129, li_130, li_131, li_132, li_133, li_134, li_135, li_136, li_137, li_140, li_141, li_142, li_143, li_145, li_147, li_150, li_153, li_159, li_160, li_161, li_162, li_185, li_197, li_213, li_222, li_223, li_255, li_256, li_257, li_258, li_259, li_260, li_261, li_262, li_263, li_264, li_271, li_272, li_273, li_274, li_275, li_276, li_277, li_278, li_300, li_400, li_420, li_500, li_802, li_820, li_823, li_839, li_855, li_871, li_887, li_999, li_1000, li_1001, li_1002, li_1003, li_1004, li_1005, li_1006, li_1007, li_1008, li_1009, li_1010, li_1011, li_1012, li_1013, li_1014, li_1015, li_1016, li_1017, li_1018, li_1019, li_1020, li_1021, li_1022, li_1023, li_1707, li_4096, li_9999, li_65536, li_100000, li_1000000, li_1664525, li_100000000, li_252645135, li_858993459, li_1000000007, li_1013904223, li_1431655765, li_m1]
            rw [if_neg (nI_no1 (by omega))]
            refine wp_bind (a1.nx hN (by decide)) ?_
            rintro _ m3 ⟨n1, n2⟩
            refine wp_bind (w_sumUp hN hM n1 (a2.lk n2) (by rw [List.length_append]; omega) (by omega)) ?_
            rintro v m4 (⟨rfl, j3, L3, c1, c2, c3, c4, c5, c6, c7, c8, c9, c10⟩ | ⟨rfl, j3, e, c1, c2, c3, c4, c5, c6, c7⟩)
            · rw [if_neg (by decide)]
              obtain ⟨m5, l1, l2, l3, l4, l5⟩ := c1.lay (N := N) (k1 := k1) c2 (by simp only [List.length_append]; omega) (nI 0)
              rw [l1, bd_s]
              refine wp_ret (Or.inl ⟨rfl, j3, L1 ++ (L3 ++ [(k1, nI 0)]), l4, ?_, ((a3.trans n2.gm).trans c3).trans l3, ?_, by omega, by omega, ?_, fun s hs => ?_, trivial, TP.cmp hkk a10 a5 ho1 ho2 ho3 (by omega) c5 c10 (opO_no c9.1 c9.2.2.1 c9.2.2.2 c9.2.1)⟩)
              · rw [← List.append_assoc, ← List.append_assoc]
                exact l2
              · rw [l5, c4, n2.2 24 (by decide), a4]
              · simp only [List.length_append, List.length_cons, List.length_nil]
                omega
              · rw [tcS_app (a8 s (by omega)), tcS_app (c8 (false :: s) (by simp; omega))]
                exact tc_cmp ho4
            · rw [if_pos rfl]
              exact wp_ret (Or.inr ⟨rfl, j3, e, c1, c2, c3, (a3.trans n2.gm).trans c4, by omega, c6, TBa.cmpC hkk a10 a5 ho1 ho2 c5 c7⟩)
          by_cases q60 : tkK B n j1 = 60
          · have hjM1 := hM.lt a6 q60 (by decide)
            rw [if_pos (i60.mpr q60)]
            exact go 27 6 hjM1 (by rw [q60]; rfl) (by decide) rfl (by decide)
          · rw [if_neg (fun z => q60 (i60.mp z))]
            by_cases q61 : tkK B n j1 = 61
            · have hjM1 := hM.lt a6 q61 (by decide)
              rw [if_pos (i61.mpr q61)]
              exact go 28 7 hjM1 (by rw [q61]; rfl) (by decide) rfl (by decide)
            · rw [if_neg (fun z => q61 (i61.mp z))]
              by_cases q62 : tkK B n j1 = 62
              · have hjM1 := hM.lt a6 q62 (by decide)
                rw [if_pos (i62.mpr q62)]
                exact go 29 8 hjM1 (by rw [q62]; rfl) (by decide) rfl (by decide)
              · rw [if_neg (fun z => q62 (i62.mp z))]
                unfold f_X12_oneTestB_J147
                simp only [li_0, li_1, li_2, li_3, li_4, li_5, li_6, li_7, li_8, li_9, li_10, li_11, li_12, li_13, li_14, li_15, li_16, li_17, li_18, li_19, li_20, li_21, li_22, li_23, li_24, li_25, li_26, li_27, li_28, li_29, li_30, li_31, li_32, li_37, li_38, li_39, li_40, li_41, li_42, li_43, li_44, li_45, li_46, li_47, li_48, li_49, li_50, li_57, li_59, li_60, li_61, li_62, li_63, li_64, li_65, li_69, li_81, li_89, li_90, li_92, li_97, li_99, li_100, li_101, li_103, li_104, li_105, li_106, li_108, li_111, li_112, li_113, li_114, li_115, li_116, li_117, li_119, li_122, li_123, li_124, li_125, li_126, li_127, li_128, li_129, li_130, li_131, li_132, li_133, li_134, li_135, li_136, li_137, li_140, li_141, li_142, li_143, li_145, li_147, li_150, li_153, li_159, li_160, li_161, li_162, li_185, li_197, li_213, li_222, li_223, li_255, li_256, li_257, li_258, li_259, li_260, li_261, li_262, li_263, li_264, li_271, li_272, li_273, li_274, li_275, li_276, li_277, li_278, li_300, li_400, li_420, li_500, li_802, li_820, li_823, li_839, li_855, li_871, li_887, li_999, li_1000, li_1001, li_1002, li_1003, li_1004, li_1005, li_1006, li_1007, li_1008, li_1009, li_1010, li_1011, li_1012, li_1013, li_1014, li_1015, li_1016, li_1017, li_1018, li_1019, li_1020, li_1021, li_1022, li_1023, li_1707, li_4096, li_9999, li_65536, li_100000, li_1000000, li_1664525, li_100000000, li_252645135, li_858993459, li_1000000007, li_1013904223, li_1431655765, li_m1]
                rw [if_pos trivial]
                have h6 : ¬ (6 ≤ opO (tkK B n j1) ∧ opO (tkK B n j1) ≤ 8) := by
                  have : ∀ c, c < 279 → c ≠ 60 → c ≠ 61 → c ≠ 62 → ¬ (6 ≤ opO c ∧ opO c ≤ 8) := by decide +kernel
                  exact this _ a1.c q60 q61 q62
                exact GOk.bad (by omega) a6 a1 a3 (by decide) (TBa.cmpB hkk a10 a5 (opO_no a9.1 a9.2.2.1 a9.2.2.2 a9.2.1) h6)
        · rw [if_pos rfl]
          exact wp_ret (Or.inr ⟨rfl, j1, e, a1, a2, a3, a4, a5, a6, TBa.cmpA hkk a5 a7⟩)
end TESTS
