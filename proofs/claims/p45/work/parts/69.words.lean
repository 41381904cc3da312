/-! the class's and the reference's words -/
def cI (c : Nat) : Int32 := if c = 256 then mo1 else nI c
def wln (q : Nat) : Nat := (WD.getD q []).length
def wSt (q : Nat) : Nat := ((WD.take q).map (fun w => w.length + 1)).foldr (fun a b => a + b) 0
def cvl (a : Nat) (i : Int32) : Int32 := (((sC a i) &&& (255 : Int32)).toUInt32 % 65536).toInt32
def wrdOk (a s q : Nat) : Bool := (List.range (wln q)).all (fun t => decide (cvl a (nI (s + t)) = nI ((WD.getD q []).getD t 0)) && isC (cvl a (nI (s + t))) && decide (nI ((WD.getD q []).getD t 0) ≠ nI 32) && decide (s + t < sN a))
theorem wrds_ok : ∀ q, q < 23 → wrdOk 1000000 (wSt q) q = true ∧ cvl 1000000 (nI (wSt q + wln q)) = nI 32 ∧ isC (nI 32) = true ∧ wSt q + wln q < sN 1000000 ∧ wSt q + wln q + 1 = wSt (q + 1) := by decide +kernel
theorem wrds_end : wSt 23 = sN 1000000 ∧ sN 1000000 < 200 := by decide +kernel
def isW (a q : Nat) : Bool := wrdOk a 0 q && decide (sN a = wln q) && decide (q < 23)
theorem isW_ok : isW 1000001 3 = true ∧ isW 1000002 4 = true ∧ isW 1000003 5 = true ∧ isW 1000004 6 = true ∧ isW 1000005 0 = true ∧ isW 1000006 1 = true ∧ isW 1000007 2 = true ∧ isW 1000008 7 = true ∧ isW 1000009 8 = true ∧ isW 1000010 9 = true ∧ isW 1000011 10 = true ∧ isW 1000012 11 = true ∧ isW 1000013 12 = true ∧ isW 1000014 13 = true ∧ isW 1000015 14 = true ∧ isW 1000016 15 = true ∧ isW 1000017 16 = true ∧ isW 1000018 18 = true ∧ isW 1000019 19 = true ∧ isW 1000020 20 = true ∧ isW 1000021 17 = true ∧ isW 1000022 21 = true ∧ isW 1000023 22 = true := by decide +kernel
section WRD
variable {N : Nat} {m : Mem} {B : Nat → Nat} {n : Nat}
theorem wrdOk_at {a s q t : Nat} (h : wrdOk a s q = true) (ht : t < wln q) : cvl a (nI (s + t)) = nI ((WD.getD q []).getD t 0) ∧ isC (cvl a (nI (s + t))) = true ∧ nI ((WD.getD q []).getD t 0) ≠ nI 32 ∧ s + t < sN a := by
  have := List.all_eq_true.mp h t (List.mem_range.mpr ht)
  simp only [Bool.and_eq_true, decide_eq_true_eq] at this
  exact ⟨this.1.1.1, this.1.1.2, this.1.2, this.2⟩
theorem e_len {a : Nat} : f_J0_length_8abf5 N a m = some (nI (sN a), m) := by
  unfold f_J0_length_8abf5 f_J0_coder_7d493
  rw [if_neg (by decide), bd_s]
  have : ∀ x : Int32, x >>> ((0 : Int32) &&& 31) = x := fun x => by
    rw [show (0 : Int32) &&& 31 = 0 by decide]
    simp
  rw [this]
  rfl
theorem e_chr {a i : Nat} (hi : i < sN a) (hs : sN a < 2 ^ 31) (hc : isC (cvl a (nI i)) = true) : f_J0_charAt_5068e N a (nI i) m = some (cvl a (nI i), m) := by
  have e1 : f_J0_checkIndex_df160 N (nI i) (sL a) m = some (0, m) := by
    unfold f_J0_checkIndex_df160 f_J3_checkIndex_8e157
    rw [if_neg (nI_pos (by omega)), if_pos (show nI i < sL a from nI_lt hi hs)]
    rfl
  have e2 : f_J1_charAt_3b067 N a (nI i) m = some (cvl a (nI i), m) := by
    unfold f_J1_charAt_3b067
    rw [e1, bd_s, inb_nI hi (by omega), chk_t]
    show chk (isC (cvl a (nI i))) (some (cvl a (nI i), m)) = _
    rw [hc]; rfl
  unfold f_J0_charAt_5068e f_J0_isLatin1_aae02
  rw [if_neg (by decide), if_pos rfl, bd_s, if_neg (by decide), e2, bd_s, hc]
  rfl
/-- the tape's bytes -/
def BT (m : Mem) (B : Nat → Nat) (n : Nat) : Prop := m 99 2 = nI n ∧ n ≤ 400 ∧ (∀ i, i < n → m 100 i = nI (B i)) ∧ ∀ i, i < n → B i < 256
theorem e_byteAt {i : Nat} (h : BT m B n) (hi : i < 2 ^ 31) : f_X10_byteAt N (nI i) m = some (cI (chr B n i), m) := by
  obtain ⟨h1, h2, h3, h4⟩ := h
  unfold f_X10_byteAt
  simp only [li_0, li_1, li_2, li_3, li_4, li_5, li_6, li_7, li_8, li_9, li_10, li_11, li_12, li_13, li_14, li_15, li_16, li_17, li_18, li_19, li_20, li_21, li_22, li_23, li_24, li_25, li_26, li_27, li_28, li_29, li_30, li_31, li_32, li_37, li_38, li_39, li_40, li_41, li_42, li_43, li_44, li_45, li_46, li_47, li_48, li_49, li_50, li_57, li_59, li_60, li_61, li_62, li_63, li_64, li_65, li_69, li_81, li_89, li_90, li_92, li_97, li_99, li_100, li_101, li_103, li_104, li_105, li_106, li_108, li_111, li_112, li_113, li_114, li_115, li_116, li_117, li_119, li_122, li_123, li_124, li_125, li_126, li_127, li_128, li_129, li_130, li_131, li_132, li_133, li_134, li_135, li_136, li_137, li_140, li_141, li_142, li_143, li_145, li_147, li_150, li_153, li_159, li_160, li_161, li_162, li_185, li_197, li_213, li_222, li_223, li_255, li_256, li_257, li_258, li_259, li_260, li_261, li_262, li_263, li_264, li_271, li_272, li_273, li_274, li_275, li_276, li_277, li_278, li_300, li_400, li_420, li_500, li_802, li_820, li_823, li_839, li_855, li_871, li_887, li_999, li_1000, li_1001, li_1002, li_1003, li_1004, li_1005, li_1006, li_1007, li_1008, li_1009, li_1010, li_1011, li_1012, li_1013, li_1014, li_1015, li_1016, li_1017, li_1018, li_1019, li_1020, li_1021, li_1022, li_1023, li_1707, li_4096, li_9999, li_65536, li_100000, li_1000000, li_1664525, li_100000000, li_252645135, li_858993459, li_1000000007, li_1013904223, li_1431655765, li_m1]
  rw [if_neg (nI_no0 hi), h1]
  by_cases q : i < n
  · rw [if_neg (nI_ge q (by omega)), if_neg (nI_ge (by omega) (by omega)), inb_nI (by omega) (by omega), chk_t, nI_clamp (by omega), h3 i q, chr_in q, cI, if_neg (by have := h4 i q; omega)]
  · rw [if_pos (nI_le (by omega) (by omega)), chr_out (by omega)]
    rfl
def hBl (a : Int32) : Int32 := if a = 32 then 1 else if a = 10 then 1 else 0
def hLt (a : Int32) : Int32 := if a < 97 then (if a < 65 then 0 else if 90 < a then 0 else 1) else if a ≤ 122 then 1 else if a < 65 then 0 else if 90 < a then 0 else 1
def hDg (a : Int32) : Int32 := if a < 48 then 0 else if 57 < a then 0 else 1
theorem hh_ok : ∀ c, c < 257 → hBl (cI c) = b2i (isK c) ∧ hLt (cI c) = b2i (isL c) ∧ hDg (cI c) = b2i (isD c) := by decide +kernel
theorem e_blank {c : Nat} (hc : c ≤ 256) : f_X10_isBlank N (cI c) m = some (b2i (isK c), m) := by
  rw [← (hh_ok c (by omega)).1]
  unfold f_X10_isBlank hBl
  repeat' split <;> first | rfl | skip
theorem e_letter {c : Nat} (hc : c ≤ 256) : f_X10_isLetter N (cI c) m = some (b2i (isL c), m) := by
  rw [← (hh_ok c (by omega)).2.1]
  unfold f_X10_isLetter hLt
  repeat' split <;> first | rfl | skip
theorem e_digit {c : Nat} (hc : c ≤ 256) : f_X10_isDigit N (cI c) m = some (b2i (isD c), m) := by
  rw [← (hh_ok c (by omega)).2.2]
  unfold f_X10_isDigit hDg
  repeat' split <;> first | rfl | skip
def hSg (a : Int32) : Int32 := if a = 59 then 1 else if a = 43 then 1 else if a = 45 then 1 else if a = 42 then 1 else if a = 47 then 1 else if a = 40 then 1 else if a = 41 then 1 else if a = 60 then 1 else if a = 61 then 1 else if a = 62 then 1 else 0
theorem hS_ok : ∀ c, c < 257 → hSg (cI c) = b2i (isS c) := by decide +kernel
theorem e_sign {c : Nat} (hc : c ≤ 256) : f_X10_isSign N (cI c) m = some (b2i (isS c), m) := by
  rw [← hS_ok c (by omega)]
  unfold f_X10_isSign hSg
  repeat' split <;> first | rfl | skip
theorem txt_len {s e : Nat} : (txt B n s e).length = e - s := by simp [txt]
theorem txt_at {s e t : Nat} (h : t < e - s) : (txt B n s e).getD t 0 = chr B n (s + t) := by
  simp [txt, h]
theorem cI_eq {c d : Nat} (hc : c ≤ 256) (hd : d < 256) : nI d = cI c ↔ c = d := by
  unfold cI
  split
  · constructor
    · intro q; exact absurd q (nI_no1 (by omega))
    · intro q; omega
  · rw [nI_eq (by omega) (by omega)]
    exact eq_comm
theorem WD_lt : ∀ q, q < 23 → ∀ t, t < wln q → (WD.getD q []).getD t 0 < 256 := by decide +kernel
theorem WD_long : ∀ q, q < 23 → 1 ≤ wln q ∧ wln q ≤ 7 := by decide +kernel
theorem txt_is {s e q : Nat} (hl : e - s = wln q) (h : ∀ t, t < wln q → chr B n (s + t) = (WD.getD q []).getD t 0) : txt B n s e = WD.getD q [] := by
  refine List.ext_getElem? (fun t => ?_)
  by_cases ht : t < wln q
  · have h1 := h t ht
    rw [← txt_at (e := e) (by omega), List.getD_eq_getElem?_getD, List.getD_eq_getElem?_getD, List.getElem?_eq_getElem (by rw [txt_len]; omega), List.getElem?_eq_getElem (by unfold wln at ht; exact ht)] at h1
    rw [List.getElem?_eq_getElem (by rw [txt_len]; omega), List.getElem?_eq_getElem (by unfold wln at ht; exact ht)]
    exact congrArg some h1
  · rw [List.getElem?_eq_none (by rw [txt_len]; omega), List.getElem?_eq_none (by unfold wln at ht; omega)]
theorem txt_no {s e q t : Nat} (ht : t < wln q) (hl : e - s = wln q) (h : chr B n (s + t) ≠ (WD.getD q []).getD t 0) : txt B n s e ≠ WD.getD q [] := fun z => h (by rw [← z, txt_at (by omega)])
theorem e_isSame {s e q : Nat} (hN : 20000 ≤ N) (h : BT m B n) (hB : ∀ i, i < n → B i < 256) (hq : q < 23) (hs : s ≤ 400) (hl : e - s = wln q) :
    f_X10_isSame N (nI (wSt q)) (nI (wSt q + wln q)) (nI s) m = some (b2i (decide (txt B n s e = WD.getD q [])), m) := by
  obtain ⟨o1, o2, o3, o4, o5⟩ := wrds_ok q hq
  have o6 := wrds_end
  have o7 := WD_long q hq
  refine Wp.toEq ?_
  unfold f_X10_isSame
  simp only [li_0, li_1, li_2, li_3, li_4, li_5, li_6, li_7, li_8, li_9, li_10, li_11, li_12, li_13, li_14, li_15, li_16, li_17, li_18, li_19, li_20, li_21, li_22, li_23, li_24, li_25, li_26, li_27, li_28, li_29, li_30, li_31, li_32, li_37, li_38, li_39, li_40, li_41, li_42, li_43, li_44, li_45, li_46, li_47, li_48, li_49, li_50, li_57, li_59, li_60, li_61, li_62, li_63, li_64, li_65, li_69, li_81, li_89, li_90, li_92, li_97, li_99, li_100, li_101, li_103, li_104, li_105, li_106, li_108, li_111, li_112, li_113, li_114, li_115, li_116, li_117, li_119, li_122, li_123, li_124, li_125, li_126, li_127, li_128, li_129, li_130, li_131, li_132, li_133, li_134, li_135, li_136, li_137, li_140, li_141, li_142, li_143, li_145, li_147, li_150, li_153, li_159, li_160, li_161, li_162, li_185, li_197, li_213, li_222, li_223, li_255, li_256, li_257, li_258, li_259, li_260, li_261, li_262, li_263, li_264, li_271, li_272, li_273, li_274, li_275, li_276, li_277, li_278, li_300, li_400, li_420, li_500, li_802, li_820, li_823, li_839, li_855, li_871, li_887, li_999, li_1000, li_1001, li_1002, li_1003, li_1004, li_1005, li_1006, li_1007, li_1008, li_1009, li_1010, li_1011, li_1012, li_1013, li_1014, li_1015, li_1016, li_1017, li_1018, li_1019, li_1020, li_1021, li_1022, li_1023, li_1707, li_4096, li_9999, li_65536, li_100000, li_1000000, li_1664525, li_100000000, li_252645135, li_858993459, li_1000000007, li_1013904223, li_1431655765, li_m1]
  rw [show (if nI 0 < nI (wSt q) then nI (wSt q) else nI 0) = nI (wSt q) by
    split
    · rfl
    · rename_i z
      have : wSt q = 0 := Nat.eq_zero_of_not_pos fun y => z (nI_lt y (by omega))
      rw [this], bnd_s]
  refine wp_it1 (fun k a m' => ∃ t, t ≤ wln q ∧ k = wln q - t ∧ a = nI (wSt q + t) ∧ m' = m ∧ ∀ i, i < t → chr B n (s + i) = (WD.getD q []).getD i 0) ?_ N (wln q) _ _ (by omega) ⟨0, by omega, rfl, rfl, rfl, fun i hi => absurd hi (by omega)⟩
  rintro k X a m' ⟨t, ht, rfl, rfl, rfl, hA⟩ hX
  unfold f_X10_isSame_L7
  refine wp_ite (fun z => ?_) (fun z => ?_) <;> rw [nI_leI (by omega) (by omega)] at z
  · have : t = wln q := by omega
    subst this
    refine wp_ret ⟨?_, rfl⟩
    rw [decide_eq_true (txt_is hl hA)]; rfl
  · obtain ⟨p1, p2, p3, p4⟩ := wrdOk_at o1 (show t < wln q by omega)
    rw [e_len, bd_s, if_neg (nI_ge p4 (by omega)), e_chr p4 (by omega) p2, bd_s, nI_add, pk_sub (by omega), show s + (wSt q + t) - wSt q = s + t by omega, e_byteAt h (by omega), bd_s, p1]
    have p5 := WD_lt q hq t (by omega)
    have p6 := chr_le (i := s + t) hB
    refine wp_ite (fun y => ?_) (fun y => ?_) <;> rw [cI_eq p6 p5] at y
    · rw [nI_1]
      refine hX (wln q - (t + 1)) _ _ (by omega) ⟨t + 1, by omega, rfl, rfl, rfl, fun i hi => ?_⟩
      by_cases e : i = t
      · subst e; exact y
      · exact hA i (by omega)
    · refine wp_ret ⟨?_, rfl⟩
      rw [decide_eq_false (txt_no (by omega) hl y)]; rfl
theorem fnd_dn {T : List Nat} {q : Nat} (hq : q < 23) : fnd T (WD.drop q) q = if T = WD.getD q [] then 256 + q else fnd T (WD.drop (q + 1)) (q + 1) := by
  have hl : q < WD.length := hq
  rw [List.drop_eq_getElem_cons hl, List.getD_eq_getElem?_getD, List.getElem?_eq_getElem hl]
  rfl
theorem e_wordAt {s e : Nat} (hN : 20000 ≤ N) (h : BT m B n) (hB : ∀ i, i < n → B i < 256) (hs : s ≤ e) (he : e ≤ 400) : f_X10_wordAt N (nI s) (nI e) m = some (nI (kwd (txt B n s e)), m) := by
  refine Wp.toEq ?_
  have o6 := wrds_end
  have o8 : ∀ q, q ≤ 23 → wSt q + wln q ≤ sN 1000000 := by decide +kernel
  unfold f_X10_wordAt
  simp only [li_0, li_1, li_2, li_3, li_4, li_5, li_6, li_7, li_8, li_9, li_10, li_11, li_12, li_13, li_14, li_15, li_16, li_17, li_18, li_19, li_20, li_21, li_22, li_23, li_24, li_25, li_26, li_27, li_28, li_29, li_30, li_31, li_32, li_37, li_38, li_39, li_40, li_41, li_42, li_43, li_44, li_45, li_46, li_47, li_48, li_49, li_50, li_57, li_59, li_60, li_61, li_62, li_63, li_64, li_65, li_69, li_81, li_89, li_90, li_92, li_97, li_99, li_100, li_101, li_103, li_104, li_105, li_106, li_108, li_111, li_112, li_113, li_114, li_115, li_116, li_117, li_119, li_122, li_123, li_124, li_125, li_126, li_127, li_128, li_129, li_130, li_131, li_132, li_133, li_134, li_135, li_136, li_137, li_140, li_141, li_142, li_143, li_145, li_147, li_150, li_153, li_159, li_160, li_161, li_162, li_185, li_197, li_213, li_222, li_223, li_255, li_256, li_257, li_258, li_259, li_260, li_261, li_262, li_263, li_264, li_271, li_272, li_273, li_274, li_275, li_276, li_277, li_278, li_300, li_400, li_420, li_500, li_802, li_820, li_823, li_839, li_855, li_871, li_887, li_999, li_1000, li_1001, li_1002, li_1003, li_1004, li_1005, li_1006, li_1007, li_1008, li_1009, li_1010, li_1011, li_1012, li_1013, li_1014, li_1015, li_1016, li_1017, li_1018, li_1019, li_1020, li_1021, li_1022, li_1023, li_1707, li_4096, li_9999, li_65536, li_100000, li_1000000, li_1664525, li_100000000, li_252645135, li_858993459, li_1000000007, li_1013904223, li_1431655765, li_m1]
  refine wp_it3 (fun k a b c m' => ∃ q t, q ≤ 23 ∧ t ≤ wln q ∧ k = 1000 - (wSt q + t) ∧ a = nI (256 + q) ∧ b = nI (wSt q) ∧ c = nI (wSt q + t) ∧ m' = m ∧ kwd (txt B n s e) = fnd (txt B n s e) (WD.drop q) q) ?_ N 1000 _ _ _ _ (by omega) ⟨0, 0, by omega, by omega, rfl, rfl, rfl, rfl, rfl, rfl⟩
  rintro k X a b c m' ⟨q, t, hq, ht, rfl, rfl, rfl, rfl, rfl, hT⟩ hX
  have o9 := o8 q hq
  unfold f_X10_wordAt_L10
  simp only [li_0, li_1, li_2, li_3, li_4, li_5, li_6, li_7, li_8, li_9, li_10, li_11, li_12, li_13, li_14, li_15, li_16, li_17, li_18, li_19, li_20, li_21, li_22, li_23, li_24, li_25, li_26, li_27, li_28, li_29, li_30, li_31, li_32, li_37, li_38, li_39, li_40, li_41, li_42, li_43, li_44, li_45, li_46, li_47, li_48, li_49, li_50, li_57, li_59, li_60, li_61, li_62, li_63, li_64, li_65, li_69, li_81, li_89, li_90, li_92, li_97, li_99, li_100, li_101, li_103, li_104, li_105, li_106, li_108, li_111, li_112, li_113, li_114, li_115, li_116, li_117, li_119, li_122, li_123, li_124, li_125, li_126, li_127, li_128, li_129, li_130, li_131, li_132, li_133, li_134, li_135, li_136, li_137, li_140, li_141, li_142, li_143, li_145, li_147, li_150, li_153, li_159, li_160, li_161, li_162, li_185, li_197, li_213, li_222, li_223, li_255, li_256, li_257, li_258, li_259, li_260, li_261, li_262, li_263, li_264, li_271, li_272, li_273, li_274, li_275, li_276, li_277, li_278, li_300, li_400, li_420, li_500, li_802, li_820, li_823, li_839, li_855, li_871, li_887, li_999, li_1000, li_1001, li_1002, li_1003, li_1004, li_1005, li_1006, li_1007, li_1008, li_1009, li_1010, li_1011, li_1012, li_1013, li_1014, li_1015, li_1016, li_1017, li_1018, li_1019, li_1020, li_1021, li_1022, li_1023, li_1707, li_4096, li_9999, li_65536, li_100000, li_1000000, li_1664525, li_100000000, li_252645135, li_858993459, li_1000000007, li_1013904223, li_1431655765, li_m1]
  rw [e_len, bd_s]
  by_cases q23 : q = 23
  · subst q23
    have : t = 0 := by
      have : wln 23 = 0 := rfl
      omega
    subst this
    rw [if_pos (nI_le (by omega) (by omega))]
    exact wp_ret ⟨by rw [hT]; rfl, rfl⟩
  · obtain ⟨o1, o2, o3, o4, o5⟩ := wrds_ok q (by omega)
    rw [if_neg (nI_ge (by omega) (by omega))]
    by_cases tq : t = wln q
    · subst tq
      rw [e_chr o4 (by omega) (by rw [o2]; exact o3), bd_s, o2, if_pos rfl, pk_sub (by omega), pk_sub hs, show wSt q + wln q - wSt q = wln q by omega, nI_up, nI_up]
      have nxt : ¬ (txt B n s e = WD.getD q []) → Wp (bnd (nI (wSt q + wln q + 1)) fun a4_64 => X (nI (256 + q + 1)) a4_64 (nI (wSt q + wln q + 1)) m') (fun v m'' => v = nI (kwd (txt B n s e)) ∧ m'' = m') := by
        intro z
        rw [bnd_s, o5]
        have := Nat.zero_le (wln (q + 1))
        exact hX (1000 - (wSt (q + 1) + 0)) _ _ _ _ (by omega) ⟨q + 1, 0, by omega, by omega, rfl, rfl, rfl, rfl, rfl, by rw [hT, fnd_dn (by omega), if_neg z]⟩
      refine wp_ite (fun z => ?_) (fun z => ?_) <;> rw [nI_eq (by omega) (by omega)] at z
      · rw [e_isSame hN h hB (by omega) (by omega) z.symm, bd_s, if_b2i]
        by_cases y : txt B n s e = WD.getD q []
        · rw [decide_eq_true y, if_pos rfl]
          exact wp_ret ⟨by rw [hT, fnd_dn (by omega), if_pos y], rfl⟩
        · rw [decide_eq_false y, if_neg (by decide)]
          exact nxt y
      · exact nxt (fun y => z (by rw [wln, ← y, txt_len]))
    · obtain ⟨p1, p2, p3, p4⟩ := wrdOk_at o1 (show t < wln q by omega)
      rw [e_chr p4 (by omega) p2, bd_s, p1, if_neg p3, nI_up]
      exact hX (1000 - (wSt q + (t + 1))) _ _ _ _ (by omega) ⟨q, t + 1, by omega, by omega, rfl, rfl, rfl, rfl, rfl, hT⟩
end WRD
