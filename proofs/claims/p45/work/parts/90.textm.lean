/-! text: the reference -/
def rA (R : List Rw4) (i : Nat) : Nat := match R[i]? with | some q => nv q.2.1 | none => 0
def rD (R : List Rw4) (i : Nat) : Nat := match R[i]? with | some q => nv q.2.2.1 | none => 0
/-- a line of THE LAW in the class's rows -/
def rowC (C : Cod) (R : List Rw4) (i : Nat) (l : Lin) : Prop := ∃ c, R[i]? = some (256 + l.1, nI c, nI (c + (flt l.2.1).length), nI (c + (flt l.2.1).length + (flt l.2.2).length)) ∧ c + (flt l.2.1).length + (flt l.2.2).length ≤ C.length ∧ ∀ x p, (flt l.2.1 ++ flt l.2.2)[x]? = some p → C[c + x]? = some p
def TxOk (k : Nat) (C : Cod) (R : List Rw4) (m m5 : Mem) : Prop :=
  (k = 0 ∧ m5 123 4 = m 123 4 ∧ ∃ LN, lawW (m5 124) LN ∧ lawOk LN ∧ (∀ i, i ≠ 40 → i < 823 → m5 124 i = m 124 i) ∧ R.length = LN.length ∧ ∀ i l, LN[i]? = some l → rowC C R i l) ∨
  (k = 1 ∧ m5 123 4 = nI 0 ∧ m5 124 41 = nI R.length ∧ (∀ i, i ≠ 41 → (i < 105 ∨ 153 ≤ i) → m5 124 i = m 124 i) ∧ ∀ i q, R[i]? = some q → m5 124 (105 + 3 * i) = nI (trK 1 q.1) ∧ m5 124 (105 + 3 * i + 1) = q.2.1 ∧ m5 124 (105 + 3 * i + 2) = q.2.2.1) ∨
  (k = 2 ∧ m5 123 4 = nI 0 ∧ m5 124 42 = nI R.length ∧ (∀ i, i ≠ 42 → (i < 153 ∨ 185 ≤ i) → m5 124 i = m 124 i) ∧ ∀ i q, R[i]? = some q → m5 124 (153 + 2 * i) = q.2.1 ∧ m5 124 (153 + 2 * i + 1) = q.2.2.1) ∨
  (k = 3 ∧ m5 123 4 = nI 0 ∧ m5 124 43 = nI R.length ∧ (∀ i, i ≠ 43 → (i < 185 ∨ 197 ≤ i) → m5 124 i = m 124 i) ∧ ∀ h, h < 12 → m5 124 (185 + h) = nI (gvR (rA R) (rD R) h R.length))
def TxM (B : Nat → Nat) (n k : Nat) (hH hD : Int32) (m m5 : Mem) (v : Int32) : Prop :=
  ((∀ x, x ≠ 123 → x ≠ 124 → x ≠ 128 → x ≠ 129 → x ≠ 130 → m5 x = m x) ∧ m5 123 16 = nI 0 ∧ m5 123 5 = m 123 5) ∧
  ((v = mo1 ∧ (∃ c, fnl (tkK B n) (itt (tpS (tkK B n) (tkV B n) hH hD k) c (0, 0, [], [])) ∧ (itt (tpS (tkK B n) (tkV B n) hH hD k) c (0, 0, [], [])).1 ≠ 0 ∧ m5 123 23 = nI (itt (tpS (tkK B n) (tkV B n) hH hD k) c (0, 0, [], [])).1 ∧ m5 123 25 = nI (psT B n (itt (tpS (tkK B n) (tkV B n) hH hD k) c (0, 0, [], [])).2.1)) ∧ m5 124 = m 124 ∧ m5 123 4 = m 123 4) ∨
  (∃ c j C R, itt (tpS (tkK B n) (tkV B n) hH hD k) c (0, 0, [], []) = (0, j, C, R) ∧ tkK B n j = 0 ∧ v = nI R.length ∧ R.length ≤ 16 ∧ m5 123 23 = nI 0 ∧ m5 123 25 = mo1 ∧ TxOk k C R m m5))
section TEXTM
variable {N : Nat} {m m1 m' m2 : Mem} {B : Nat → Nat} {n M k z : Nat} {hH hD : Int32} {w : Arr} {LN : List Lin} {S : List Spt} {C : Cod} {R : List Rw4}
theorem stAt_of : ∀ {L : List Spt} {x : Nat}, (∀ i p, L[i]? = some p → w (887 + 2 * (x + i)) = nI p.1 ∧ w (887 + 2 * (x + i) + 1) = p.2) → stAt w x L
  | [], _, _ => trivial
  | p :: r, x, h => by
    obtain ⟨h1, h2⟩ := h 0 p rfl
    refine ⟨h1, h2, stAt_of (L := r) (fun i q hq => ?_)⟩
    have := h (i + 1) q hq
    rw [show x + (i + 1) = x + 1 + i by omega] at this
    exact this
theorem vR3 {q : Rw4} (h : vR 3 hH hD q) (hH1 : hH = nI z - nI 1) (hz : z ≤ 12) : ∃ x y, x < z ∧ y < z ∧ q.2.1 = nI x ∧ q.2.2.1 = nI y := by
  obtain ⟨-, -, -, -, h3⟩ := h
  obtain ⟨a1, a2⟩ := h3 rfl
  rw [hH1] at a1 a2
  have b1 := rng_inb (a := q.2.1) (n := z) (by omega)
  rw [decide_eq_true a1] at b1
  have b2 := rng_inb (a := q.2.2.1) (n := z) (by omega)
  rw [decide_eq_true a2] at b2
  obtain ⟨x, hx, ex⟩ := inb_of b1.symm (by omega)
  obtain ⟨y, hy, ey⟩ := inb_of b2.symm (by omega)
  exact ⟨x, y, hx, hy, ex, ey⟩
theorem rA_at {q : Rw4} {i x : Nat} (h : R[i]? = some q) (hx : q.2.1 = nI x) (h2 : x < 2 ^ 31) : rA R i = x := by
  unfold rA
  rw [h]
  show nv q.2.1 = x
  rw [hx, nv_nI h2]
theorem rD_at {q : Rw4} {i x : Nat} (h : R[i]? = some q) (hx : q.2.2.1 = nI x) (h2 : x < 2 ^ 31) : rD R i = x := by
  unfold rD
  rw [h]
  show nv q.2.2.1 = x
  rw [hx, nv_nI h2]
/-- the rows of a gallery as numbers -/
theorem galRows (hv : ∀ q ∈ R, vR 3 hH hD q) (hH1 : hH = nI z - nI 1) (hz : z ≤ 12) {i : Nat} {q : Rw4} (h : R[i]? = some q) : q.2.1 = nI (rA R i) ∧ q.2.2.1 = nI (rD R i) ∧ rA R i < z ∧ rD R i < z := by
  obtain ⟨x, y, hx, hy, ex, ey⟩ := vR3 (hv q (List.mem_of_getElem? h)) hH1 hz
  rw [rA_at h ex (by omega), rD_at h ey (by omega)]
  exact ⟨ex, ey, hx, hy⟩
theorem w_textM (hN : 20000 ≤ N) (hM : Mt B n M) (hk : k ≤ 3) (h16 : m 123 16 = nI n) (hn : n ≤ 400) (hb : ∀ i, i < n → m 131 i = nI (B i)) (hB : ∀ i, i < n → B i < 256) (h37 : m 124 37 = nI z) (hz : z ≤ 12) (hH1 : hH = nI z - nI 1) (hD1 : m 124 38 - nI 1 = hD) :
    Wp (f_X12_text N (nI k) m) (fun v m5 => TxM B n k hH hD m m5 v) := by
  unfold f_X12_text
  simp only [li_0, li_1, li_2, li_3, li_4, li_5, li_6, li_7, li_8, li_9, li_10, li_11, li_12, li_13, li_14, li_15, li_16, li_17, li_18, li_19, li_20, li_21, li_22, li_23, li_24, li_25, li_26, li_27, li_28, li_29, li_30, li_31, li_32, li_37, li_38, li_39, li_40, li_41, li_42, li_43, li_44, li_45, li_46, li_47, li_48, li_49, li_50, li_57, li_59, li_60, li_61, li_62, li_63, li_64, li_65, li_69, li_81, li_89, li_90, li_92, li_97, li_99, li_100, li_101, li_103, li_104, li_105, li_106, li_108, li_111, li_112, li_113, li_114, li_115, li_116, li_117, li_119, li_122, li_123, li_124, li_125, li_126, li_127, li_128, li_129, li_130, li_131, li_132, li_133, li_134, li_135, li_136, li_137, li_140, li_141, li_142, li_143, li_145, li_147, li_150, li_153, li_159, li_160, li_161, li_162, li_185, li_197, li_213, li_222, li_223, li_255, li_256, li_257, li_258, li_259, li_260, li_261, li_262, li_263, li_264, li_271, li_272, li_273, li_274, li_275, li_276, li_277, li_278, li_300, li_400, li_420, li_500, li_802, li_820, li_823, li_839, li_855, li_871, li_887, li_999, li_1000, li_1001, li_1002, li_1003, li_1004, li_1005, li_1006, li_1007, li_1008, li_1009, li_1010, li_1011, li_1012, li_1013, li_1014, li_1015, li_1016, li_1017, li_1018, li_1019, li_1020, li_1021, li_1022, li_1023, li_1707, li_4096, li_9999, li_65536, li_100000, li_1000000, li_1664525, li_100000000, li_252645135, li_858993459, li_1000000007, li_1013904223, li_1431655765, li_m1]
  rw [bnd_s, bnd_s, e_isIn, bd_s, rng_is (by omega) (by omega) (by omega), decide_eq_true (⟨Nat.zero_le _, hk⟩ : 0 ≤ k ∧ k ≤ 3), if_neg (by decide), bnd_s, bnd_s, bnd_s]
  have hp : ∀ m1, m1 = mset (mset (mset (mset (mset m 123 23 (nI 0)) 123 25 mo1) 123 21 (nI 0)) 123 17 (nI 0)) 123 12 (nI k) →
      RB B n k m1 ∧ m1 123 17 = nI 0 ∧ m1 123 23 = nI 0 ∧ m1 123 25 = mo1 ∧ (∀ x, x ≠ 123 → m1 x = m x) ∧ m1 123 4 = m 123 4 ∧ m1 123 5 = m 123 5 := by
    rintro m1 rfl
    refine ⟨⟨mset_at _ _ _ _, ?_, hn, ?_, hB⟩, ?_, ?_, ?_, fun x hx => ?_, ?_, ?_⟩
    · rw [mset_j (by decide), mset_j (by decide), mset_j (by decide), mset_j (by decide), mset_j (by decide)]; exact h16
    · intro i hi
      rw [mset_k (by decide), mset_k (by decide), mset_k (by decide), mset_k (by decide), mset_k (by decide)]; exact hb i hi
    · rw [mset_j (by decide), mset_at]
    · rw [mset_j (by decide), mset_j (by decide), mset_j (by decide), mset_j (by decide), mset_at]
    · rw [mset_j (by decide), mset_j (by decide), mset_j (by decide), mset_at]
    · rw [mset_ne hx, mset_ne hx, mset_ne hx, mset_ne hx, mset_ne hx]
    · rw [mset_j (by decide), mset_j (by decide), mset_j (by decide), mset_j (by decide), mset_j (by decide)]
    · rw [mset_j (by decide), mset_j (by decide), mset_j (by decide), mset_j (by decide), mset_j (by decide)]
  have hp := hp _ rfl
  revert hp
  generalize mset (mset (mset (mset (mset m 123 23 (nI 0)) 123 25 mo1) 123 21 (nI 0)) 123 17 (nI 0)) 123 12 (nI k) = m1
  rintro ⟨p1, p2, p3, p4, p5, p6, p7⟩
  refine wp_bind (w_next0 (j := 0) hN p1 hk p2 (Nat.zero_le _) rfl) ?_
  rintro _ m2 ⟨n1, n2⟩
  -- it is blamed
  have fail : ∀ m3, rdN B n k hH hD m2 m3 → Wp (f_X12_text_J60 N (nI k) (nI 0) m3) (fun v m5 => TxM B n k hH hD m m5 v) := by
    rintro m3 ⟨c, c1, c2, c3, c4, c5⟩
    unfold f_X12_text_J60
    simp only [li_0, li_1, li_2, li_3, li_4, li_5, li_6, li_7, li_8, li_9, li_10, li_11, li_12, li_13, li_14, li_15, li_16, li_17, li_18, li_19, li_20, li_21, li_22, li_23, li_24, li_25, li_26, li_27, li_28, li_29, li_30, li_31, li_32, li_37, li_38, li_39, li_40, li_41, li_42, li_43, li_44, li_45, li_46, li_47, li_48, li_49, li_50, li_57, li_59, li_60, li_61, li_62, li_63, li_64, li_65, li_69, li_81, li_89, li_90, li_92, li_97, li_99, li_100, li_101, li_103, li_104, li_105, li_106, li_108, li_111, li_112, li_113, li_114, li_115, li_116, li_117, li_119, li_122, li_123, li_124, li_125, li_126, li_127, li_128, li_129, li_130, li_131, li_132, li_133, li_134, li_135, li_136, li_137, li_140, li_141, li_142, li_143, li_145, li_147, li_150, li_153, li_159, li_160, li_161, li_162, li_185, li_197, li_213, li_222, li_223, li_255, li_256, li_257, li_258, li_259, li_260, li_261, li_262, li_263, li_264, li_271, li_272, li_273, li_274, li_275, li_276, li_277, li_278, li_300, li_400, li_420, li_500, li_802, li_820, li_823, li_839, li_855, li_871, li_887, li_999, li_1000, li_1001, li_1002, li_1003, li_1004, li_1005, li_1006, li_1007, li_1008, li_1009, li_1010, li_1011, li_1012, li_1013, li_1014, li_1015, li_1016, li_1017, li_1018, li_1019, li_1020, li_1021, li_1022, li_1023, li_1707, li_4096, li_9999, li_65536, li_100000, li_1000000, li_1664525, li_100000000, li_252645135, li_858993459, li_1000000007, li_1013904223, li_1431655765, li_m1]
    rw [bnd_s, if_pos trivial, bnd_s, bnd_s]
    refine wp_ret ⟨⟨fun x x1 x2 x3 x4 x5 => ?_, ?_, ?_⟩, Or.inl ⟨rfl, ⟨c, c1, c2, ?_, ?_⟩, ?_, ?_⟩⟩
    · rw [mset_ne x1, mset_ne x1, mset_ne x1, c5.1 x x1 x3 x4 x5, n2.1 x x1, p5 x x1]
    · rw [mset_j (by decide), mset_j (by decide), mset_at]
    · rw [mset_j (by decide), mset_j (by decide), mset_j (by decide), c5.2 5 (by decide) (by decide), n2.2 5 (by decide), p7]
    · rw [mset_j (by decide), mset_at, mset_j (by decide)]; exact c3
    · rw [mset_at, mset_j (by decide), mset_j (by decide)]; exact c4
    · rw [mset_ne (by decide), mset_ne (by decide), mset_ne (by decide), c5.1 124 (by decide) (by decide) (by decide) (by decide), n2.1 124 (by decide), p5 124 (by decide)]
    · rw [mset_j (by decide), mset_j (by decide), mset_j (by decide), c5.2 4 (by decide) (by decide), n2.2 4 (by decide), p6]
  -- it is put
  have good : ∀ m3, Gr m2 m3 → ∃ m4, mset m3 123 16 (nI 0) = m4 ∧ (∀ x, x ≠ 123 → m4 x = m3 x) ∧ (∀ x, x ≠ 123 → x ≠ 128 → x ≠ 129 → x ≠ 130 → m4 x = m x) ∧ m4 123 16 = nI 0 ∧ m4 123 5 = m 123 5 ∧ m4 123 4 = m 123 4 ∧ m4 123 23 = nI 0 ∧ m4 123 25 = mo1 ∧ ∀ i, i ≠ 16 → m4 123 i = m3 123 i := by
    intro m3 g
    refine ⟨_, rfl, fun x x1 => mset_ne x1, fun x x1 x2 x3 x4 => by rw [mset_ne x1, g.1 x x1 x2 x3 x4, n2.1 x x1, p5 x x1], mset_at _ _ _ _, ?_, ?_, ?_, ?_, fun i hi => mset_j hi⟩
    · rw [mset_j (by decide), g.2 5 (by decide) (by decide), n2.2 5 (by decide), p7]
    · rw [mset_j (by decide), g.2 4 (by decide) (by decide), n2.2 4 (by decide), p6]
    · rw [mset_j (by decide), g.2 23 (by decide) (by decide), n2.2 23 (by decide), p3]
    · rw [mset_j (by decide), g.2 25 (by decide) (by decide), n2.2 25 (by decide), p4]
  have e124 : m2 124 = m 124 := by rw [n2.1 124 (by decide), p5 124 (by decide)]
  by_cases k0 : k = 0
  · subst k0
    rw [if_pos rfl]
    refine wp_bind (w_readsLaw (hH := hH) (hD := hD) hN hM n1) ?_
    rintro v m3 (⟨rfl, c, j, C, R, S, LN, a1, a2, a3, a4, a5, a6, a7, a8⟩ | ⟨rfl, a1⟩)
    · obtain ⟨m4, g0, g1, g2, g3, g4, g5, g6, g7, g8⟩ := good m3 a8
      unfold f_X12_text_J60
      simp only [li_0, li_1, li_2, li_3, li_4, li_5, li_6, li_7, li_8, li_9, li_10, li_11, li_12, li_13, li_14, li_15, li_16, li_17, li_18, li_19, li_20, li_21, li_22, li_23, li_24, li_25, li_26, li_27, li_28, li_29, li_30, li_31, li_32, li_37, li_38, li_39, li_40, li_41, li_42, li_43, li_44, li_45, li_46, li_47, li_48, li_49, li_50, li_57, li_59, li_60, li_61, li_62, li_63, li_64, li_65, li_69, li_81, li_89, li_90, li_92, li_97, li_99, li_100, li_101, li_103, li_104, li_105, li_106, li_108, li_111, li_112, li_113, li_114, li_115, li_116, li_117, li_119, li_122, li_123, li_124, li_125, li_126, li_127, li_128, li_129, li_130, li_131, li_132, li_133, li_134, li_135, li_136, li_137, li_140, li_141, li_142, li_143, li_145, li_147, li_150, li_153, li_159, li_160, li_161, li_162, li_185, li_197, li_213, li_222, li_223, li_255, li_256, li_257, li_258, li_259, li_260, li_261, li_262, li_263, li_264, li_271, li_272, li_273, li_274, li_275, li_276, li_277, li_278, li_300, li_400, li_420, li_500, li_802, li_820, li_823, li_839, li_855, li_871, li_887, li_999, li_1000, li_1001, li_1002, li_1003, li_1004, li_1005, li_1006, li_1007, li_1008, li_1009, li_1010, li_1011, li_1012, li_1013, li_1014, li_1015, li_1016, li_1017, li_1018, li_1019, li_1020, li_1021, li_1022, li_1023, li_1707, li_4096, li_9999, li_65536, li_100000, li_1000000, li_1664525, li_100000000, li_252645135, li_858993459, li_1000000007, li_1013904223, li_1431655765, li_m1]
      rw [g0, bnd_s, if_neg (by decide)]
      unfold f_X12_putsText
      simp only [li_0, li_1, li_2, li_3, li_4, li_5, li_6, li_7, li_8, li_9, li_10, li_11, li_12, li_13, li_14, li_15, li_16, li_17, li_18, li_19, li_20, li_21, li_22, li_23, li_24, li_25, li_26, li_27, li_28, li_29, li_30, li_31, li_32, li_37, li_38, li_39, li_40, li_41, li_42, li_43, li_44, li_45, li_46, li_47, li_48, li_49, li_50, li_57, li_59, li_60, li_61, li_62, li_63, li_64, li_65, li_69, li_81, li_89, li_90, li_92, li_97, li_99, li_100, li_101, li_103, li_104, li_105, li_106, li_108, li_111, li_112, li_113, li_114, li_115, li_116, li_117, li_119, li_122, li_123, li_124, li_125, li_126, li_127, li_128, li_129, li_130, li_131, li_132, li_133, li_134, li_135, li_136, li_137, li_140, li_141, li_142, li_143, li_145, li_147, li_150, li_153, li_159, li_160, li_161, li_162, li_185, li_197, li_213, li_222, li_223, li_255, li_256, li_257, li_258, li_259, li_260, li_261, li_262, li_263, li_264, li_271, li_272, li_273, li_274, li_275, li_276, li_277, li_278, li_300, li_400, li_420, li_500, li_802, li_820, li_823, li_839, li_855, li_871, li_887, li_999, li_1000, li_1001, li_1002, li_1003, li_1004, li_1005, li_1006, li_1007, li_1008, li_1009, li_1010, li_1011, li_1012, li_1013, li_1014, li_1015, li_1016, li_1017, li_1018, li_1019, li_1020, li_1021, li_1022, li_1023, li_1707, li_4096, li_9999, li_65536, li_100000, li_1000000, li_1664525, li_100000000, li_252645135, li_858993459, li_1000000007, li_1013904223, li_1431655765, li_m1]
      rw [if_pos trivial]
      refine wp_bind (wp_bind (w_putsLaw hN (r := R.length) (s := S.length) (by rw [g8 13 (by decide)]; exact a6) a7 (by rw [g8 14 (by decide)]; exact a4.1) a5) (fun v m5 h5 => wp_ret (Q := fun v m' => v = nI R.length ∧ _) h5)) ?_
      rintro _ m5 ⟨rfl, b1, b2, b3, b4, b5⟩
      obtain ⟨q1, q2, q3, q4⟩ := a3
      refine wp_ret ⟨⟨fun x x1 x2 x3 x4 x5 => by rw [b1 x x2, g2 x x1 x3 x4 x5], by rw [b1 123 (by decide)]; exact g3, by rw [b1 123 (by decide)]; exact g4⟩, Or.inr ⟨c, j, C, R, a1, a2, rfl, a7, by rw [b1 123 (by decide)]; exact g6, by rw [b1 123 (by decide)]; exact g7, Or.inl ⟨rfl, by rw [b1 123 (by decide)]; exact g5, LN, ⟨by rw [b2, q1], by omega, fun i l hl => ?_⟩, ⟨by omega, q4⟩, fun i i1 i2 => by rw [b3 i i1 i2, g2 124 (by decide) (by decide) (by decide) (by decide)], q1, fun i l hl => ?_⟩⟩⟩
      · have hi : i < R.length := by
          rw [q1]
          exact (List.getElem?_eq_some_iff.mp hl).1
        obtain ⟨f, c, ⟨d0, d1, d2, d3⟩, d4, d5, d6, d7, d8⟩ := q3 i l hl
        obtain ⟨e0, e1, e2, e3⟩ := b4 i hi
        have hst : ∀ x p, (l.2.1 ++ l.2.2)[x]? = some p → m5 124 (887 + 2 * (f + x)) = nI p.1 ∧ m5 124 (887 + 2 * (f + x) + 1) = p.2 := by
          intro x p hp
          have hs := d5 x p hp
          have hl2 : f + x < S.length := (List.getElem?_eq_some_iff.mp hs).1
          obtain ⟨s1, s2⟩ := a4.2 _ p hs
          refine ⟨?_, ?_⟩
          · rw [b5 _ (by omega), g1 129 (by decide)]; exact s1
          · rw [show 887 + 2 * (f + x) + 1 = 887 + (2 * (f + x) + 1) by omega, b5 _ (by omega), g1 129 (by decide)]; exact s2
        refine ⟨f, ?_, ?_, ?_, ?_, by omega, stAt_of (fun x p hp => hst x p (app_at hp)), stAt_of (fun x p hp => ?_)⟩
        · rw [e0, g1 128 (by decide)]; exact d0
        · rw [e1, g1 128 (by decide)]; exact d1
        · rw [e2, g1 128 (by decide)]; exact d2
        · rw [e3, g1 128 (by decide)]; exact d3
        · have := hst (l.2.1.length + x) p (app_in hp)
          rw [show f + (l.2.1.length + x) = f + l.2.1.length + x by omega] at this
          exact this
      · obtain ⟨f, c, -, -, -, d6, d7, d8⟩ := q3 i l hl
        exact ⟨c, d6, d7, d8⟩
    · exact fail m3 a1
  · rw [if_neg (nI_ne k0 (by omega) (by omega))]
    have hkk : k = 1 ∨ k = 2 ∨ k = 3 := by omega
    refine wp_bind (w_readsRows (hH := hH) (hD := hD) hN hM hkk n1 (by rw [e124, h37, hH1]) (by rw [e124]; exact hD1)) ?_
    rintro v m3 (⟨rfl, c, j, R, a1, a2, a3, a6, a7, a8⟩ | ⟨rfl, a1⟩)
    · obtain ⟨m4, g0, g1, g2, g3, g4, g5, g6, g7, g8⟩ := good m3 a8
      have hv := itt_v (K := tkK B n) (V := tkV B n) (hH := hH) (hD := hD) hkk c (by rw [a1])
      rw [a1] at hv
      unfold f_X12_text_J60
      simp only [li_0, li_1, li_2, li_3, li_4, li_5, li_6, li_7, li_8, li_9, li_10, li_11, li_12, li_13, li_14, li_15, li_16, li_17, li_18, li_19, li_20, li_21, li_22, li_23, li_24, li_25, li_26, li_27, li_28, li_29, li_30, li_31, li_32, li_37, li_38, li_39, li_40, li_41, li_42, li_43, li_44, li_45, li_46, li_47, li_48, li_49, li_50, li_57, li_59, li_60, li_61, li_62, li_63, li_64, li_65, li_69, li_81, li_89, li_90, li_92, li_97, li_99, li_100, li_101, li_103, li_104, li_105, li_106, li_108, li_111, li_112, li_113, li_114, li_115, li_116, li_117, li_119, li_122, li_123, li_124, li_125, li_126, li_127, li_128, li_129, li_130, li_131, li_132, li_133, li_134, li_135, li_136, li_137, li_140, li_141, li_142, li_143, li_145, li_147, li_150, li_153, li_159, li_160, li_161, li_162, li_185, li_197, li_213, li_222, li_223, li_255, li_256, li_257, li_258, li_259, li_260, li_261, li_262, li_263, li_264, li_271, li_272, li_273, li_274, li_275, li_276, li_277, li_278, li_300, li_400, li_420, li_500, li_802, li_820, li_823, li_839, li_855, li_871, li_887, li_999, li_1000, li_1001, li_1002, li_1003, li_1004, li_1005, li_1006, li_1007, li_1008, li_1009, li_1010, li_1011, li_1012, li_1013, li_1014, li_1015, li_1016, li_1017, li_1018, li_1019, li_1020, li_1021, li_1022, li_1023, li_1707, li_4096, li_9999, li_65536, li_100000, li_1000000, li_1664525, li_100000000, li_252645135, li_858993459, li_1000000007, li_1013904223, li_1431655765, li_m1]
      rw [g0, bnd_s, if_neg (by decide)]
      unfold f_X12_putsText
      simp only [li_0, li_1, li_2, li_3, li_4, li_5, li_6, li_7, li_8, li_9, li_10, li_11, li_12, li_13, li_14, li_15, li_16, li_17, li_18, li_19, li_20, li_21, li_22, li_23, li_24, li_25, li_26, li_27, li_28, li_29, li_30, li_31, li_32, li_37, li_38, li_39, li_40, li_41, li_42, li_43, li_44, li_45, li_46, li_47, li_48, li_49, li_50, li_57, li_59, li_60, li_61, li_62, li_63, li_64, li_65, li_69, li_81, li_89, li_90, li_92, li_97, li_99, li_100, li_101, li_103, li_104, li_105, li_106, li_108, li_111, li_112, li_113, li_114, li_115, li_116, li_117, li_119, li_122, li_123, li_124, li_125, li_126, li_127, li_128, li_129, li_130, li_131, li_132, li_133, li_134, li_135, li_136, li_137, li_140, li_141, li_142, li_143, li_145, li_147, li_150, li_153, li_159, li_160, li_161, li_162, li_185, li_197, li_213, li_222, li_223, li_255, li_256, li_257, li_258, li_259, li_260, li_261, li_262, li_263, li_264, li_271, li_272, li_273, li_274, li_275, li_276, li_277, li_278, li_300, li_400, li_420, li_500, li_802, li_820, li_823, li_839, li_855, li_871, li_887, li_999, li_1000, li_1001, li_1002, li_1003, li_1004, li_1005, li_1006, li_1007, li_1008, li_1009, li_1010, li_1011, li_1012, li_1013, li_1014, li_1015, li_1016, li_1017, li_1018, li_1019, li_1020, li_1021, li_1022, li_1023, li_1707, li_4096, li_9999, li_65536, li_100000, li_1000000, li_1664525, li_100000000, li_252645135, li_858993459, li_1000000007, li_1013904223, li_1431655765, li_m1]
      rw [if_neg (nI_ne k0 (by omega) (by omega)), e_forgets, bd_s]
      have f15 : (mset m4 123 4 (nI 0)) 123 15 = nI R.length := by rw [mset_j (by decide), g8 15 (by decide)]; exact a6
      have f1 : ∀ x, x ≠ 123 → (mset m4 123 4 (nI 0)) x = m4 x := fun x hx => mset_ne hx
      have f4 : (mset m4 123 4 (nI 0)) 123 4 = nI 0 := mset_at _ _ _ _
      have f2 : ∀ i, i ≠ 4 → (mset m4 123 4 (nI 0)) 123 i = m4 123 i := fun i hi => mset_j hi
      revert f15 f1 f4 f2
      generalize mset m4 123 4 (nI 0) = m5
      intro f15 f1 f4 f2
      have o124 : ∀ i, m5 124 i = m 124 i := fun i => by rw [f1 124 (by decide), g2 124 (by decide) (by decide) (by decide) (by decide)]
      have o130 : ∀ i, m5 130 i = m3 130 i := fun i => by rw [f1 130 (by decide), g1 130 (by decide)]
      have lt : ∀ {i : Nat} {q : Rw4}, R[i]? = some q → i < R.length := fun hq => (List.getElem?_eq_some_iff.mp hq).1
      -- what comes of it
      have fin : ∀ m6, (∀ x, x ≠ 124 → m6 x = m5 x) → TxOk k [] R m m6 → TxM B n k hH hD m m6 (nI R.length) := by
        intro m6 h6 ht
        exact ⟨⟨fun x x1 x2 x3 x4 x5 => by rw [h6 x x2, f1 x x1, g2 x x1 x3 x4 x5], by rw [h6 123 (by decide), f2 16 (by decide)]; exact g3, by rw [h6 123 (by decide), f2 5 (by decide)]; exact g4⟩,
          Or.inr ⟨c, j, [], R, a1, a2, rfl, a7, by rw [h6 123 (by decide), f2 23 (by decide)]; exact g6, by rw [h6 123 (by decide), f2 25 (by decide)]; exact g7, ht⟩⟩
      rcases hkk with rfl | rfl | rfl
      · rw [if_pos rfl]
        refine wp_bind (wp_bind (w_puts (c := 41) (p := 105) (e := 3) hN f15 a7 (by decide) (by decide) (by decide)) (fun v m6 h6 => wp_ret (Q := fun v m' => v = nI R.length ∧ _) h6)) ?_
        rintro _ m6 ⟨rfl, b1, b2, b3, b4⟩
        refine wp_ret (fin m6 b1 (Or.inr (Or.inl ⟨rfl, by rw [b1 123 (by decide)]; exact f4, b2, fun i i1 i2 => by rw [b3 i i1 (by omega)]; exact o124 i, fun i q hq => ?_⟩)))
        have hi := lt hq
        obtain ⟨-, -, d3⟩ := a3 i q hq
        rw [if_pos rfl] at d3
        obtain ⟨d3, d4, d5⟩ := d3
        refine ⟨?_, ?_, ?_⟩
        · rw [b4 (3 * i) (by omega), o130]; exact d3
        · rw [show 105 + 3 * i + 1 = 105 + (3 * i + 1) by omega, b4 (3 * i + 1) (by omega), o130]; exact d4
        · rw [show 105 + 3 * i + 2 = 105 + (3 * i + 2) by omega, b4 (3 * i + 2) (by omega), o130]; exact d5
      · rw [if_neg (by decide), if_pos rfl]
        refine wp_bind (wp_bind (w_puts (c := 42) (p := 153) (e := 2) hN f15 a7 (by decide) (by decide) (by decide)) (fun v m6 h6 => wp_ret (Q := fun v m' => v = nI R.length ∧ _) h6)) ?_
        rintro _ m6 ⟨rfl, b1, b2, b3, b4⟩
        refine wp_ret (fin m6 b1 (Or.inr (Or.inr (Or.inl ⟨rfl, by rw [b1 123 (by decide)]; exact f4, b2, fun i i1 i2 => by rw [b3 i i1 (by omega)]; exact o124 i, fun i q hq => ?_⟩))))
        have hi := lt hq
        obtain ⟨-, -, d3⟩ := a3 i q hq
        rw [if_neg (by decide)] at d3
        obtain ⟨d3, d4⟩ := d3
        refine ⟨?_, ?_⟩
        · rw [b4 (2 * i) (by omega), o130]; exact d3
        · rw [show 153 + 2 * i + 1 = 153 + (2 * i + 1) by omega, b4 (2 * i + 1) (by omega), o130]; exact d4
      · rw [if_neg (by decide), if_neg (by decide)]
        have hr : ∀ i, i < R.length → m5 130 (2 * i) = nI (rA R i) ∧ m5 130 (2 * i + 1) = nI (rD R i) ∧ rA R i < z ∧ rD R i < z := by
          intro i hi
          obtain ⟨q, hq⟩ := get_lt hi
          obtain ⟨-, -, d3⟩ := a3 i q hq
          rw [if_neg (by decide)] at d3
          obtain ⟨d3, d4⟩ := d3
          obtain ⟨r1, r2, r3, r4⟩ := galRows hv hH1 hz hq
          exact ⟨by rw [o130, d3]; exact r1, by rw [o130, d4]; exact r2, r3, r4⟩
        refine wp_bind (wp_bind (w_putsGallery (A := rA R) (D := rD R) hN f15 a7 hz hr) (fun v m6 h6 => wp_ret (Q := fun v m' => v = nI R.length ∧ _) h6)) ?_
        rintro _ m6 ⟨rfl, b1, b2, b3, b4⟩
        exact wp_ret (fin m6 b1 (Or.inr (Or.inr (Or.inr ⟨rfl, by rw [b1 123 (by decide)]; exact f4, b2, fun i i1 i2 => by rw [b3 i i1 i2]; exact o124 i, b4⟩))))
    · exact fail m3 a1
end TEXTM
