/-! the reference's tokens -/
def trK (k c : Nat) : Nat :=
  if c = 0 then 0 else if c = 1 then 2 else if c = 2 then 1 else if c < 256 then 100 + c
  else if k = 0 then (if c ≤ 258 then c - 236 else if c ≤ 262 then c - 256 else if c ≤ 272 then c - 222 else 1)
  else if k = 1 then (if c = 264 then 7 else if c = 274 then 8 else if c = 275 then 9 else if c = 276 then 10 else if c = 273 then 11 else 1)
  else if k = 2 then (if c = 277 then 12 else if c = 278 then 13 else 1)
  else if c = 263 then 14 else if c = 271 then 15 else 1
def RB (B : Nat → Nat) (n k : Nat) (m : Mem) : Prop := m 123 12 = nI k ∧ m 123 16 = nI n ∧ n ≤ 400 ∧ (∀ i, i < n → m 131 i = nI (B i)) ∧ ∀ i, i < n → B i < 256
/-- the reference's token is the j-th -/
def RT (B : Nat → Nat) (n k j : Nat) (m : Mem) : Prop := RB B n k m ∧ m 123 18 = nI (trK k (tkK B n j)) ∧ m 123 19 = nI (psT B n j) ∧ m 123 17 = nI (enT B n (psT B n j)) ∧ (tkK B n j = 1 → m 123 20 = tkV B n j)
/-- only the looking changed -/
def Lk (m m' : Mem) : Prop := (∀ x, x ≠ 123 → m' x = m x) ∧ ∀ i, i < 17 ∨ 20 < i → m' 123 i = m 123 i
section NEXT
variable {N : Nat} {m m1 m' m2 : Mem} {B : Nat → Nat} {n k j : Nat} {T : List Nat}
theorem Lk.rf : Lk m m := ⟨fun _ _ => rfl, fun _ _ => rfl⟩
theorem Lk.trans (h : Lk m m1) (h2 : Lk m1 m2) : Lk m m2 := ⟨fun x hx => by rw [h2.1 x hx, h.1 x hx], fun i hi => by rw [h2.2 i hi, h.2 i hi]⟩
theorem Lk.set (h : Lk m m1) {i : Nat} {v : Int32} (hi : 17 ≤ i ∧ i ≤ 20) : Lk m (mset m1 123 i v) := ⟨fun x hx => by rw [mset_ne hx, h.1 x hx], fun l hl => by rw [mset_j (by omega), h.2 l hl]⟩
theorem RB.lk (h : RB B n k m) (hl : Lk m m') : RB B n k m' := by
  obtain ⟨h1, h2, h3, h4, h5⟩ := h
  exact ⟨by rw [hl.2 12 (by decide)]; exact h1, by rw [hl.2 16 (by decide)]; exact h2, h3, by rw [hl.1 131 (by decide)]; exact h4, h5⟩
theorem e_see {i : Nat} (h : RB B n k m) (hi : i < 2 ^ 31) : f_X12_see N (nI i) m = some (cI (chr B n i), m) := by
  obtain ⟨h1, h2, h3, h4, h5⟩ := h
  unfold f_X12_see
  simp only [li_0, li_1, li_2, li_3, li_4, li_5, li_6, li_7, li_8, li_9, li_10, li_11, li_12, li_13, li_14, li_15, li_16, li_17, li_18, li_19, li_20, li_21, li_22, li_23, li_24, li_25, li_26, li_27, li_28, li_29, li_30, li_31, li_32, li_37, li_38, li_39, li_40, li_41, li_42, li_43, li_44, li_45, li_46, li_47, li_48, li_49, li_50, li_57, li_59, li_60, li_61, li_62, li_63, li_64, li_65, li_69, li_81, li_89, li_90, li_92, li_97, li_99, li_100, li_101, li_103, li_104, li_105, li_106, li_108, li_111, li_112, li_113, li_114, li_115, li_116, li_117, li_119, li_122, li_123, li_124, li_125, li_126, li_127, li_128, li_129, li_130, li_131, li_132, li_133, li_134, li_135, li_136, li_137, li_140, li_141, li_142, li_143, li_145, li_147, li_150, li_153, li_159, li_160, li_161, li_162, li_185, li_197, li_213, li_222, li_223, li_255, li_256, li_257, li_258, li_259, li_260, li_261, li_262, li_263, li_264, li_271, li_272, li_273, li_274, li_275, li_276, li_277, li_278, li_300, li_400, li_420, li_500, li_802, li_820, li_823, li_839, li_855, li_871, li_887, li_999, li_1000, li_1001, li_1002, li_1003, li_1004, li_1005, li_1006, li_1007, li_1008, li_1009, li_1010, li_1011, li_1012, li_1013, li_1014, li_1015, li_1016, li_1017, li_1018, li_1019, li_1020, li_1021, li_1022, li_1023, li_1707, li_4096, li_9999, li_65536, li_100000, li_1000000, li_1664525, li_100000000, li_252645135, li_858993459, li_1000000007, li_1013904223, li_1431655765, li_m1]
  rw [h2]
  by_cases q : i < n
  · rw [if_neg (nI_ge q (by omega)), inb_nI (by omega) (by omega), chk_t, nI_clamp (by omega), h4 i q, chr_in q, cI, if_neg (by have := h5 i q; omega)]
  · rw [if_pos (nI_le (by omega) (by omega)), chr_out (by omega)]
    rfl
theorem cI_r : ∀ c, c < 257 → decide (nI 97 ≤ cI c ∧ cI c ≤ nI 122) = (decide (97 ≤ c) && decide (c ≤ 122)) ∧ decide (nI 65 ≤ cI c ∧ cI c ≤ nI 90) = (decide (65 ≤ c) && decide (c ≤ 90)) ∧ decide (nI 48 ≤ cI c ∧ cI c ≤ nI 57) = isD c := by decide +kernel
theorem e_letterM {c : Nat} (hc : c ≤ 256) : f_X12_isLetter N (cI c) m = some (b2i (isL c), m) := by
  obtain ⟨r1, r2, -⟩ := cI_r c (by omega)
  unfold f_X12_isLetter
  simp only [li_0, li_1, li_2, li_3, li_4, li_5, li_6, li_7, li_8, li_9, li_10, li_11, li_12, li_13, li_14, li_15, li_16, li_17, li_18, li_19, li_20, li_21, li_22, li_23, li_24, li_25, li_26, li_27, li_28, li_29, li_30, li_31, li_32, li_37, li_38, li_39, li_40, li_41, li_42, li_43, li_44, li_45, li_46, li_47, li_48, li_49, li_50, li_57, li_59, li_60, li_61, li_62, li_63, li_64, li_65, li_69, li_81, li_89, li_90, li_92, li_97, li_99, li_100, li_101, li_103, li_104, li_105, li_106, li_108, li_111, li_112, li_113, li_114, li_115, li_116, li_117, li_119, li_122, li_123, li_124, li_125, li_126, li_127, li_128, li_129, li_130, li_131, li_132, li_133, li_134, li_135, li_136, li_137, li_140, li_141, li_142, li_143, li_145, li_147, li_150, li_153, li_159, li_160, li_161, li_162, li_185, li_197, li_213, li_222, li_223, li_255, li_256, li_257, li_258, li_259, li_260, li_261, li_262, li_263, li_264, li_271, li_272, li_273, li_274, li_275, li_276, li_277, li_278, li_300, li_400, li_420, li_500, li_802, li_820, li_823, li_839, li_855, li_871, li_887, li_999, li_1000, li_1001, li_1002, li_1003, li_1004, li_1005, li_1006, li_1007, li_1008, li_1009, li_1010, li_1011, li_1012, li_1013, li_1014, li_1015, li_1016, li_1017, li_1018, li_1019, li_1020, li_1021, li_1022, li_1023, li_1707, li_4096, li_9999, li_65536, li_100000, li_1000000, li_1664525, li_100000000, li_252645135, li_858993459, li_1000000007, li_1013904223, li_1431655765, li_m1]
  rw [e_isIn, bd_s, r1, if_b2i, e_isIn, bd_s, r2, if_b2i]
  unfold isL
  cases (decide (97 ≤ c) && decide (c ≤ 122)) <;> cases (decide (65 ≤ c) && decide (c ≤ 90)) <;> rfl
theorem e_digitM {c : Nat} (hc : c ≤ 256) : f_X12_isDigit N (cI c) m = some (b2i (isD c), m) := by
  obtain ⟨-, -, r3⟩ := cI_r c (by omega)
  unfold f_X12_isDigit
  simp only [li_0, li_1, li_2, li_3, li_4, li_5, li_6, li_7, li_8, li_9, li_10, li_11, li_12, li_13, li_14, li_15, li_16, li_17, li_18, li_19, li_20, li_21, li_22, li_23, li_24, li_25, li_26, li_27, li_28, li_29, li_30, li_31, li_32, li_37, li_38, li_39, li_40, li_41, li_42, li_43, li_44, li_45, li_46, li_47, li_48, li_49, li_50, li_57, li_59, li_60, li_61, li_62, li_63, li_64, li_65, li_69, li_81, li_89, li_90, li_92, li_97, li_99, li_100, li_101, li_103, li_104, li_105, li_106, li_108, li_111, li_112, li_113, li_114, li_115, li_116, li_117, li_119, li_122, li_123, li_124, li_125, li_126, li_127, li_128, li_129, li_130, li_131, li_132, li_133, li_134, li_135, li_136, li_137, li_140, li_141, li_142, li_143, li_145, li_147, li_150, li_153, li_159, li_160, li_161, li_162, li_185, li_197, li_213, li_222, li_223, li_255, li_256, li_257, li_258, li_259, li_260, li_261, li_262, li_263, li_264, li_271, li_272, li_273, li_274, li_275, li_276, li_277, li_278, li_300, li_400, li_420, li_500, li_802, li_820, li_823, li_839, li_855, li_871, li_887, li_999, li_1000, li_1001, li_1002, li_1003, li_1004, li_1005, li_1006, li_1007, li_1008, li_1009, li_1010, li_1011, li_1012, li_1013, li_1014, li_1015, li_1016, li_1017, li_1018, li_1019, li_1020, li_1021, li_1022, li_1023, li_1707, li_4096, li_9999, li_65536, li_100000, li_1000000, li_1664525, li_100000000, li_252645135, li_858993459, li_1000000007, li_1013904223, li_1431655765, li_m1]
  rw [e_isIn, bd_s, r3, isB_b2i, chk_t]
theorem WD_ne : ∀ q, q < 23 → kwd (WD.getD q []) = 256 + q := by decide +kernel
theorem WD_last : WD.drop 23 = [] := rfl
theorem fnd_cs (T : List Nat) : ∀ (d q : Nat), q + d = 23 → fnd T (WD.drop q) q = 2 ∨ ∃ p, p < 23 ∧ T = WD.getD p [] ∧ fnd T (WD.drop q) q = 256 + p
  | 0, q, h => by
    have : q = 23 := by omega
    subst this
    exact Or.inl rfl
  | d + 1, q, h => by
    rw [fnd_dn (by omega)]
    split
    · exact Or.inr ⟨q, by omega, ‹_›, rfl⟩
    · exact fnd_cs T d (q + 1) (by omega)
theorem kwd_is {p : Nat} (hp : p < 23) : T = WD.getD p [] ↔ kwd T = 256 + p := by
  constructor
  · rintro rfl
    exact WD_ne p hp
  · intro h
    rcases fnd_cs T 23 0 rfl with z | ⟨q, h1, h2, h3⟩
    · have z : kwd T = 2 := z
      omega
    · have h3 : kwd T = 256 + q := h3
      have : q = p := by omega
      subst this
      exact h2
theorem kwd_all : kwd T = 2 ∨ (256 ≤ kwd T ∧ kwd T < 279) := by
  rcases fnd_cs T 23 0 rfl with z | ⟨q, h1, h2, h3⟩
  · exact Or.inl z
  · have h3 : kwd T = 256 + q := h3
    omega
theorem e_is {a q s e : Nat} (hN : 20000 ≤ N) (h : RB B n k m) (hW : isW a q = true) (h17 : m 123 17 = nI e) (h19 : m 123 19 = nI s) (hs : s ≤ e) (he : e ≤ n) :
    f_X12_is N a m = some (b2i (decide (kwd (txt B n s e) = 256 + q)), m) := by
  have hn := h.2.2.1
  unfold isW at hW
  simp only [Bool.and_eq_true, decide_eq_true_eq] at hW
  obtain ⟨⟨hW, hl⟩, hq⟩ := hW
  have hq := hq
  have o7 := WD_long q hq
  refine Wp.toEq ?_
  have go : ∀ t0 : Bool, (t0 = decide (e - s = wln q)) → Wp (f_X12_is_J21 N a (b2i t0) m) (fun v m' => v = b2i (decide (kwd (txt B n s e) = 256 + q)) ∧ m' = m) := by
    intro t0 ht0
    have h00 : t0 = false → txt B n s e ≠ WD.getD q [] := fun z y => by
      rw [z] at ht0
      have := of_decide_eq_false ht0.symm
      rw [← txt_len (B := B) (n := n), y] at this
      exact this rfl
    unfold f_X12_is_J21
    simp only [li_0, li_1, li_2, li_3, li_4, li_5, li_6, li_7, li_8, li_9, li_10, li_11, li_12, li_13, li_14, li_15, li_16, li_17, li_18, li_19, li_20, li_21, li_22, li_23, li_24, li_25, li_26, li_27, li_28, li_29, li_30, li_31, li_32, li_37, li_38, li_39, li_40, li_41, li_42, li_43, li_44, li_45, li_46, li_47, li_48, li_49, li_50, li_57, li_59, li_60, li_61, li_62, li_63, li_64, li_65, li_69, li_81, li_89, li_90, li_92, li_97, li_99, li_100, li_101, li_103, li_104, li_105, li_106, li_108, li_111, li_112, li_113, li_114, li_115, li_116, li_117, li_119, li_122, li_123, li_124, li_125, li_126, li_127, li_128, li_129, li_130, li_131, li_132, li_133, li_134, li_135, li_136, li_137, li_140, li_141, li_142, li_143, li_145, li_147, li_150, li_153, li_159, li_160, li_161, li_162, li_185, li_197, li_213, li_222, li_223, li_255, li_256, li_257, li_258, li_259, li_260, li_261, li_262, li_263, li_264, li_271, li_272, li_273, li_274, li_275, li_276, li_277, li_278, li_300, li_400, li_420, li_500, li_802, li_820, li_823, li_839, li_855, li_871, li_887, li_999, li_1000, li_1001, li_1002, li_1003, li_1004, li_1005, li_1006, li_1007, li_1008, li_1009, li_1010, li_1011, li_1012, li_1013, li_1014, li_1015, li_1016, li_1017, li_1018, li_1019, li_1020, li_1021, li_1022, li_1023, li_1707, li_4096, li_9999, li_65536, li_100000, li_1000000, li_1664525, li_100000000, li_252645135, li_858993459, li_1000000007, li_1013904223, li_1431655765, li_m1]
    refine wp_it2 (fun c x y m' => ∃ (t : Nat) (b : Bool), t ≤ wln q ∧ c = wln q - t ∧ x = b2i b ∧ y = nI t ∧ m' = m ∧ (b = true → e - s = wln q ∧ ∀ i, i < t → chr B n (s + i) = (WD.getD q []).getD i 0) ∧ (b = false → txt B n s e ≠ WD.getD q [])) ?_ N (wln q) _ _ _ (by omega) ⟨0, t0, by omega, rfl, rfl, rfl, rfl, fun z => ⟨of_decide_eq_true (ht0.symm.trans z), fun i hi => absurd hi (by omega)⟩, h00⟩
    rintro c X x y m' ⟨t, b, ht, rfl, rfl, rfl, rfl, h1, h2⟩ hX
    unfold f_X12_is_L24
    simp only [li_0, li_1, li_2, li_3, li_4, li_5, li_6, li_7, li_8, li_9, li_10, li_11, li_12, li_13, li_14, li_15, li_16, li_17, li_18, li_19, li_20, li_21, li_22, li_23, li_24, li_25, li_26, li_27, li_28, li_29, li_30, li_31, li_32, li_37, li_38, li_39, li_40, li_41, li_42, li_43, li_44, li_45, li_46, li_47, li_48, li_49, li_50, li_57, li_59, li_60, li_61, li_62, li_63, li_64, li_65, li_69, li_81, li_89, li_90, li_92, li_97, li_99, li_100, li_101, li_103, li_104, li_105, li_106, li_108, li_111, li_112, li_113, li_114, li_115, li_116, li_117, li_119, li_122, li_123, li_124, li_125, li_126, li_127, li_128, li_129, li_130, li_131, li_132, li_133, li_134, li_135, li_136, li_137, li_140, li_141, li_142, li_143, li_145, li_147, li_150, li_153, li_159, li_160, li_161, li_162, li_185, li_197, li_213, li_222, li_223, li_255, li_256, li_257, li_258, li_259, li_260, li_261, li_262, li_263, li_264, li_271, li_272, li_273, li_274, li_275, li_276, li_277, li_278, li_300, li_400, li_420, li_500, li_802, li_820, li_823, li_839, li_855, li_871, li_887, li_999, li_1000, li_1001, li_1002, li_1003, li_1004, li_1005, li_1006, li_1007, li_1008, li_1009, li_1010, li_1011, li_1012, li_1013, li_1014, li_1015, li_1016, li_1017, li_1018, li_1019, li_1020, li_1021, li_1022, li_1023, li_1707, li_4096, li_9999, li_65536, li_100000, li_1000000, li_1664525, li_100000000, li_252645135, li_858993459, li_1000000007, li_1013904223, li_1431655765, li_m1]
    rw [e_len, bd_s, hl]
    by_cases qt : wln q ≤ t
    · rw [if_pos (nI_le qt (by omega)), isB_b2i, chk_t]
      refine wp_ret ⟨?_, rfl⟩
      have : t = wln q := by omega
      subst this
      cases b with
      | true =>
        obtain ⟨g1, g2⟩ := h1 rfl
        rw [decide_eq_true ((kwd_is hq).mp (txt_is g1 g2))]
      | false => rw [decide_eq_false (fun z => h2 rfl ((kwd_is hq).mpr z))]
    · rw [if_neg (nI_ge (by omega) (by omega)), if_b2i]
      cases b with
      | false =>
        rw [if_neg (by decide), isB_b2i, chk_t]
        refine wp_ret ⟨?_, rfl⟩
        rw [decide_eq_false (fun z => h2 rfl ((kwd_is hq).mpr z))]
      | true =>
        obtain ⟨g1, g2⟩ := h1 rfl
        obtain ⟨p1, p2, p3, p4⟩ := wrdOk_at hW (show t < wln q by omega)
        rw [Nat.zero_add] at p1 p2 p4
        have p5 := WD_lt q hq t (by omega)
        have p6 := chr_le (i := s + t) h.2.2.2.2
        rw [if_pos rfl, h19, nI_add, inb_nI (by omega) (by omega), chk_t, e_chr p4 (by omega) p2, bd_s, p1, nI_clamp (by omega), h.2.2.2.1 _ (by omega), nI_up]
        have hc : chr B n (s + t) = B (s + t) := chr_in (by omega)
        have hb := h.2.2.2.2 (s + t) (by omega)
        refine wp_ite (fun z => ?_) (fun z => ?_) <;> rw [nI_eq (by omega) (by omega), ← hc] at z
        · refine hX (wln q - (t + 1)) _ _ _ (by omega) ⟨t + 1, true, by omega, rfl, rfl, rfl, rfl, fun _ => ⟨g1, fun i hi => ?_⟩, fun y => by cases y⟩
          by_cases e : i = t
          · subst e; exact z
          · exact g2 i (by omega)
        · exact hX (wln q - (t + 1)) _ _ _ (by omega) ⟨t + 1, false, by omega, rfl, rfl, rfl, rfl, (fun y => by cases y), fun _ => txt_no (by omega) g1 z⟩
  unfold f_X12_is
  simp only [li_0, li_1, li_2, li_3, li_4, li_5, li_6, li_7, li_8, li_9, li_10, li_11, li_12, li_13, li_14, li_15, li_16, li_17, li_18, li_19, li_20, li_21, li_22, li_23, li_24, li_25, li_26, li_27, li_28, li_29, li_30, li_31, li_32, li_37, li_38, li_39, li_40, li_41, li_42, li_43, li_44, li_45, li_46, li_47, li_48, li_49, li_50, li_57, li_59, li_60, li_61, li_62, li_63, li_64, li_65, li_69, li_81, li_89, li_90, li_92, li_97, li_99, li_100, li_101, li_103, li_104, li_105, li_106, li_108, li_111, li_112, li_113, li_114, li_115, li_116, li_117, li_119, li_122, li_123, li_124, li_125, li_126, li_127, li_128, li_129, li_130, li_131, li_132, li_133, li_134, li_135, li_136, li_137, li_140, li_141, li_142, li_143, li_145, li_147, li_150, li_153, li_159, li_160, li_161, li_162, li_185, li_197, li_213, li_222, li_223, li_255, li_256, li_257, li_258, li_259, li_260, li_261, li_262, li_263, li_264, li_271, li_272, li_273, li_274, li_275, li_276, li_277, li_278, li_300, li_400, li_420, li_500, li_802, li_820, li_823, li_839, li_855, li_871, li_887, li_999, li_1000, li_1001, li_1002, li_1003, li_1004, li_1005, li_1006, li_1007, li_1008, li_1009, li_1010, li_1011, li_1012, li_1013, li_1014, li_1015, li_1016, li_1017, li_1018, li_1019, li_1020, li_1021, li_1022, li_1023, li_1707, li_4096, li_9999, li_65536, li_100000, li_1000000, li_1664525, li_100000000, li_252645135, li_858993459, li_1000000007, li_1013904223, li_1431655765, li_m1]
  rw [e_len, bd_s, h17, h19, pk_sub hs, hl]
  refine wp_ite (fun z => ?_) (fun z => ?_) <;> rw [nI_eq (by omega) (by omega)] at z
  · exact go true (by rw [decide_eq_true z])
  · exact go false (by rw [decide_eq_false z])
theorem trK_all : ∀ c, c < 279 → (c = 2 ∨ 256 ≤ c) → trK 0 c = (if c = 259 then 3 else if c = 260 then 4 else if c = 261 then 5 else if c = 262 then 6 else if c = 256 then 20 else if c = 257 then 21 else if c = 258 then 22 else if c = 263 then 41 else if c = 264 then 42 else if c = 265 then 43 else if c = 266 then 44 else if c = 267 then 45 else if c = 268 then 46 else if c = 269 then 47 else if c = 270 then 48 else if c = 271 then 49 else if c = 272 then 50 else 1) ∧
    trK 1 c = (if c = 264 then 7 else if c = 274 then 8 else if c = 275 then 9 else if c = 276 then 10 else if c = 273 then 11 else 1) ∧ trK 2 c = (if c = 277 then 12 else if c = 278 then 13 else 1) ∧ trK 3 c = (if c = 263 then 14 else if c = 271 then 15 else 1) := by decide +kernel
theorem e_word {s e : Nat} (hN : 20000 ≤ N) (h : RB B n k m) (hk : k ≤ 3) (h17 : m 123 17 = nI e) (h19 : m 123 19 = nI s) (hs : s ≤ e) (he : e ≤ n) :
    f_X12_word N m = some (nI (trK k (kwd (txt B n s e))), m) := by
  have i := fun a q hW => e_is (a := a) (q := q) hN h hW h17 h19 hs he
  obtain ⟨w1, w2, w3, w4, w5, w6, w7, w8, w9, w10, w11, w12, w13, w14, w15, w16, w17, w18, w19, w20, w21, w22, w23⟩ := isW_ok
  have i1 := i _ _ w1
  have i2 := i _ _ w2
  have i3 := i _ _ w3
  have i4 := i _ _ w4
  have i5 := i _ _ w5
  have i6 := i _ _ w6
  have i7 := i _ _ w7
  have i8 := i _ _ w8
  have i9 := i _ _ w9
  have i10 := i _ _ w10
  have i11 := i _ _ w11
  have i12 := i _ _ w12
  have i13 := i _ _ w13
  have i14 := i _ _ w14
  have i15 := i _ _ w15
  have i16 := i _ _ w16
  have i17 := i _ _ w17
  have i18 := i _ _ w18
  have i19 := i _ _ w19
  have i20 := i _ _ w20
  have i21 := i _ _ w21
  have i22 := i _ _ w22
  have i23 := i _ _ w23
  have hc : kwd (txt B n s e) < 279 ∧ (kwd (txt B n s e) = 2 ∨ 256 ≤ kwd (txt B n s e)) := by
    have := kwd_all (T := txt B n s e)
    omega
  have h12 := h.1
  clear h h17 h19 w1 w2 w3 w4 w5 w6 w7 w8 w9 w10 w11 w12 w13 w14 w15 w16 w17 w18 w19 w20 w21 w22 w23 i
  revert i1 i2 i3 i4 i5 i6 i7 i8 i9 i10 i11 i12 i13 i14 i15 i16 i17 i18 i19 i20 i21 i22 i23 hc
  generalize kwd (txt B n s e) = c
  intro i1 i2 i3 i4 i5 i6 i7 i8 i9 i10 i11 i12 i13 i14 i15 i16 i17 i18 i19 i20 i21 i22 i23 hc
  obtain ⟨t0, t1, t2, t3⟩ := trK_all c hc.1 hc.2
  have : k = 0 ∨ k = 1 ∨ k = 2 ∨ k = 3 := by omega
  have hcc : c = 2 ∨ c = 256 ∨ c = 257 ∨ c = 258 ∨ c = 259 ∨ c = 260 ∨ c = 261 ∨ c = 262 ∨ c = 263 ∨ c = 264 ∨ c = 265 ∨ c = 266 ∨ c = 267 ∨ c = 268 ∨ c = 269 ∨ c = 270 ∨ c = 271 ∨ c = 272 ∨ c = 273 ∨ c = 274 ∨ c = 275 ∨ c = 276 ∨ c = 277 ∨ c = 278 := by omega
  unfold f_X12_word
  rw [h12]
  rcases this with rfl | rfl | rfl | rfl
  · rw [swt_at 0 (by decide) rfl, t0]
    unfold f_X12_lawWord f_X12_asked
    simp only [li_0, li_1, li_2, li_3, li_4, li_5, li_6, li_7, li_8, li_9, li_10, li_11, li_12, li_13, li_14, li_15, li_16, li_17, li_18, li_19, li_20, li_21, li_22, li_23, li_24, li_25, li_26, li_27, li_28, li_29, li_30, li_31, li_32, li_37, li_38, li_39, li_40, li_41, li_42, li_43, li_44, li_45, li_46, li_47, li_48, li_49, li_50, li_57, li_59, li_60, li_61, li_62, li_63, li_64, li_65, li_69, li_81, li_89, li_90, li_92, li_97, li_99, li_100, li_101, li_103, li_104, li_105, li_106, li_108, li_111, li_112, li_113, li_114, li_115, li_116, li_117, li_119, li_122, li_123, li_124, li_125, li_126, li_127, li_128, li_129, li_130, li_131, li_132, li_133, li_134, li_135, li_136, li_137, li_140, li_141, li_142, li_143, li_145, li_147, li_150, li_153, li_159, li_160, li_161, li_162, li_185, li_197, li_213, li_222, li_223, li_255, li_256, li_257, li_258, li_259, li_260, li_261, li_262, li_263, li_264, li_271, li_272, li_273, li_274, li_275, li_276, li_277, li_278, li_300, li_400, li_420, li_500, li_802, li_820, li_823, li_839, li_855, li_871, li_887, li_999, li_1000, li_1001, li_1002, li_1003, li_1004, li_1005, li_1006, li_1007, li_1008, li_1009, li_1010, li_1011, li_1012, li_1013, li_1014, li_1015, li_1016, li_1017, li_1018, li_1019, li_1020, li_1021, li_1022, li_1023, li_1707, li_4096, li_9999, li_65536, li_100000, li_1000000, li_1664525, li_100000000, li_252645135, li_858993459, li_1000000007, li_1013904223, li_1431655765, li_m1, i1, i2, i3, i4, i5, i6, i7, i8, i9, i10, i11, i12, i13, i14, i15, i16, i17, bd_s, if_b2i, decide_eq_true_eq]
    rcases hcc with rfl | rfl | rfl | rfl | rfl | rfl | rfl | rfl | rfl | rfl | rfl | rfl | rfl | rfl | rfl | rfl | rfl | rfl | rfl | rfl | rfl | rfl | rfl | rfl <;> rfl
  · rw [swt_at 1 (by decide) rfl, t1]
    unfold f_X12_statuteWord
    simp only [li_0, li_1, li_2, li_3, li_4, li_5, li_6, li_7, li_8, li_9, li_10, li_11, li_12, li_13, li_14, li_15, li_16, li_17, li_18, li_19, li_20, li_21, li_22, li_23, li_24, li_25, li_26, li_27, li_28, li_29, li_30, li_31, li_32, li_37, li_38, li_39, li_40, li_41, li_42, li_43, li_44, li_45, li_46, li_47, li_48, li_49, li_50, li_57, li_59, li_60, li_61, li_62, li_63, li_64, li_65, li_69, li_81, li_89, li_90, li_92, li_97, li_99, li_100, li_101, li_103, li_104, li_105, li_106, li_108, li_111, li_112, li_113, li_114, li_115, li_116, li_117, li_119, li_122, li_123, li_124, li_125, li_126, li_127, li_128, li_129, li_130, li_131, li_132, li_133, li_134, li_135, li_136, li_137, li_140, li_141, li_142, li_143, li_145, li_147, li_150, li_153, li_159, li_160, li_161, li_162, li_185, li_197, li_213, li_222, li_223, li_255, li_256, li_257, li_258, li_259, li_260, li_261, li_262, li_263, li_264, li_271, li_272, li_273, li_274, li_275, li_276, li_277, li_278, li_300, li_400, li_420, li_500, li_802, li_820, li_823, li_839, li_855, li_871, li_887, li_999, li_1000, li_1001, li_1002, li_1003, li_1004, li_1005, li_1006, li_1007, li_1008, li_1009, li_1010, li_1011, li_1012, li_1013, li_1014, li_1015, li_1016, li_1017, li_1018, li_1019, li_1020, li_1021, li_1022, li_1023, li_1707, li_4096, li_9999, li_65536, li_100000, li_1000000, li_1664525, li_100000000, li_252645135, li_858993459, li_1000000007, li_1013904223, li_1431655765, li_m1, i9, i18, i19, i20, i21, bd_s, if_b2i, decide_eq_true_eq]
    rcases hcc with rfl | rfl | rfl | rfl | rfl | rfl | rfl | rfl | rfl | rfl | rfl | rfl | rfl | rfl | rfl | rfl | rfl | rfl | rfl | rfl | rfl | rfl | rfl | rfl <;> rfl
  · rw [swt_at 2 (by decide) rfl, t2]
    simp only [li_0, li_1, li_2, li_3, li_4, li_5, li_6, li_7, li_8, li_9, li_10, li_11, li_12, li_13, li_14, li_15, li_16, li_17, li_18, li_19, li_20, li_21, li_22, li_23, li_24, li_25, li_26, li_27, li_28, li_29, li_30, li_31, li_32, li_37, li_38, li_39, li_40, li_41, li_42, li_43, li_44, li_45, li_46, li_47, li_48, li_49, li_50, li_57, li_59, li_60, li_61, li_62, li_63, li_64, li_65, li_69, li_81, li_89, li_90, li_92, li_97, li_99, li_100, li_101, li_103, li_104, li_105, li_106, li_108, li_111, li_112, li_113, li_114, li_115, li_116, li_117, li_119, li_122, li_123, li_124, li_125, li_126, li_127, li_128, li_129, li_130, li_131, li_132, li_133, li_134, li_135, li_136, li_137, li_140, li_141, li_142, li_143, li_145, li_147, li_150, li_153, li_159, li_160, li_161, li_162, li_185, li_197, li_213, li_222, li_223, li_255, li_256, li_257, li_258, li_259, li_260, li_261, li_262, li_263, li_264, li_271, li_272, li_273, li_274, li_275, li_276, li_277, li_278, li_300, li_400, li_420, li_500, li_802, li_820, li_823, li_839, li_855, li_871, li_887, li_999, li_1000, li_1001, li_1002, li_1003, li_1004, li_1005, li_1006, li_1007, li_1008, li_1009, li_1010, li_1011, li_1012, li_1013, li_1014, li_1015, li_1016, li_1017, li_1018, li_1019, li_1020, li_1021, li_1022, li_1023, li_1707, li_4096, li_9999, li_65536, li_100000, li_1000000, li_1664525, li_100000000, li_252645135, li_858993459, li_1000000007, li_1013904223, li_1431655765, li_m1, i22, i23, bd_s, if_b2i, decide_eq_true_eq]
    rcases hcc with rfl | rfl | rfl | rfl | rfl | rfl | rfl | rfl | rfl | rfl | rfl | rfl | rfl | rfl | rfl | rfl | rfl | rfl | rfl | rfl | rfl | rfl | rfl | rfl <;> rfl
  · rw [swt_no (Or.inr (by simp; decide)), t3]
    simp only [li_0, li_1, li_2, li_3, li_4, li_5, li_6, li_7, li_8, li_9, li_10, li_11, li_12, li_13, li_14, li_15, li_16, li_17, li_18, li_19, li_20, li_21, li_22, li_23, li_24, li_25, li_26, li_27, li_28, li_29, li_30, li_31, li_32, li_37, li_38, li_39, li_40, li_41, li_42, li_43, li_44, li_45, li_46, li_47, li_48, li_49, li_50, li_57, li_59, li_60, li_61, li_62, li_63, li_64, li_65, li_69, li_81, li_89, li_90, li_92, li_97, li_99, li_100, li_101, li_103, li_104, li_105, li_106, li_108, li_111, li_112, li_113, li_114, li_115, li_116, li_117, li_119, li_122, li_123, li_124, li_125, li_126, li_127, li_128, li_129, li_130, li_131, li_132, li_133, li_134, li_135, li_136, li_137, li_140, li_141, li_142, li_143, li_145, li_147, li_150, li_153, li_159, li_160, li_161, li_162, li_185, li_197, li_213, li_222, li_223, li_255, li_256, li_257, li_258, li_259, li_260, li_261, li_262, li_263, li_264, li_271, li_272, li_273, li_274, li_275, li_276, li_277, li_278, li_300, li_400, li_420, li_500, li_802, li_820, li_823, li_839, li_855, li_871, li_887, li_999, li_1000, li_1001, li_1002, li_1003, li_1004, li_1005, li_1006, li_1007, li_1008, li_1009, li_1010, li_1011, li_1012, li_1013, li_1014, li_1015, li_1016, li_1017, li_1018, li_1019, li_1020, li_1021, li_1022, li_1023, li_1707, li_4096, li_9999, li_65536, li_100000, li_1000000, li_1664525, li_100000000, li_252645135, li_858993459, li_1000000007, li_1013904223, li_1431655765, li_m1, i8, i16, bd_s, if_b2i, decide_eq_true_eq]
    rcases hcc with rfl | rfl | rfl | rfl | rfl | rfl | rfl | rfl | rfl | rfl | rfl | rfl | rfl | rfl | rfl | rfl | rfl | rfl | rfl | rfl | rfl | rfl | rfl | rfl <;> rfl
end NEXT
