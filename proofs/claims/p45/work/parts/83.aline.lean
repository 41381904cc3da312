/-! a line of THE LAW as the reference reads it -/
section ALPURE
variable {K : Nat → Nat} {V : Nat → Int32} {j j1 j2 j' e b : Nat} {A D : List Spt} {C : Cod} {R : List Rw4}
theorem lnM_at {t : Mst} (h : Rc K V b (1, j, [], C, 0, 0, 0, 0) t) (ht : t.1 = 5) (hb : b ≤ 802) : lnM K V j C = t := by
  unfold lnM
  exact h.end ht (Or.inl hb)
theorem lnM_bad (h : Bad K V b (1, j, [], C, 0, 0, 0, 0) j' e) (hb : b ≤ 802) : (lnM K V j C).2.1 = j' ∧ (lnM K V j C).2.2.2.2.2.2.2 = e := by
  obtain ⟨t, h1, h2, h3, h4⟩ := h
  rw [lnM_at h1 h2 hb]
  exact ⟨h3, h4⟩
theorem lnM_ok1 (h : MP K V 5 j j1 A) (hj : j < j1) (hj2 : j1 ≤ 400) (hk : K j1 = 59) : lnM K V j C = (5, j1 + 1, [], C ++ flt A, 0, (C ++ flt A).length, (C ++ flt A).length, 0) := by
  obtain ⟨W', C', h1, h2⟩ := h [] C 0 0 0 trivial
  have hd := drp_pd h2 (l2 := 0) (by decide) trivial
  have e1 : stp K V (3, j1, W', C', 0, 0, 0, 0) = (5, j1 + 1, [], C ++ flt A, 0, (C ++ flt A).length, (C ++ flt A).length, 0) := by
    rw [sp_st3]
    unfold stp3
    rw [hk, if_neg (by decide), if_neg (by decide), if_neg (by decide), if_pos ⟨rfl, rfl⟩, hd]
  exact lnM_at (h1.trans (Rc.one e1)) rfl (by omega)
theorem lnM_no1 (h : MP K V 5 j j1 A) (hj : j < j1) (hj2 : j1 ≤ 400) (h3 : ¬ (2 ≤ opO (K j1) ∧ opO (K j1) ≤ 5)) (hk : K j1 ≠ 59) (hk2 : K j1 ≠ 259) : (lnM K V j C).2.1 = j1 ∧ (lnM K V j C).2.2.2.2.2.2.2 = 1 := by
  obtain ⟨W', C', h1, h2⟩ := h [] C 0 0 0 trivial
  have e1 : stp K V (3, j1, W', C', 0, 0, 0, 0) = (5, j1, W', C', 0, 0, 0, 1) := by
    rw [sp_st3]
    unfold stp3
    rw [if_neg h3, if_neg (fun z => by omega), if_neg (fun z => hk2 z.1), if_neg (fun z => hk z.1), if_neg (by decide)]
  rw [lnM_at (h1.trans (Rc.one e1)) rfl (by omega)]
  exact ⟨rfl, rfl⟩
theorem lnM_when (h : MP K V 5 j j1 A) (hj : j < j1) (hk : K j1 = 259) : Rc K V (2 * (j1 - j)) (1, j, [], C, 0, 0, 0, 0) (0, j1 + 1, [], C ++ flt A, 0, (C ++ flt A).length, 0, 0) := by
  obtain ⟨W', C', h1, h2⟩ := h [] C 0 0 0 trivial
  have hd := drp_pd h2 (l2 := 0) (by decide) trivial
  have e1 : stp K V (3, j1, W', C', 0, 0, 0, 0) = (0, j1 + 1, [], C ++ flt A, 0, (C ++ flt A).length, 0, 0) := by
    rw [sp_st3]
    unfold stp3
    rw [hk, if_neg (by decide), if_neg (by decide), if_pos ⟨rfl, rfl⟩, hd]
  exact (h1.trans (Rc.one e1)).mono (by omega)
theorem lnM_ok2 (h : MP K V 5 j j1 A) (hj : j < j1) (hk : K j1 = 259) (h2 : TP K V 1 1 0 (j1 + 1) j2 D) (hj2 : j1 + 1 < j2) (hj3 : j2 ≤ 400) (hk2 : K j2 = 59) : ∃ sd, lnM K V j C = (5, j2 + 1, [], C ++ flt A ++ flt D, sd, (C ++ flt A).length, (C ++ flt A ++ flt D).length, 0) := by
  obtain ⟨W2, C2, sd, h3, h4⟩ := h2 [] (C ++ flt A) 0 (C ++ flt A).length 0 trivial rfl
  have hb : brk W2 = 0 := brk_pd h4
  have e1 : stp K V (4, j2, W2, C2, sd, (C ++ flt A).length, 0, 0) = (5, j2 + 1, [], C ++ flt A ++ flt D, sd, (C ++ flt A).length, (C ++ flt A ++ flt D).length, 0) := by
    rw [sp_st4]
    unfold stp4
    rw [hk2, if_neg (by decide), if_neg (fun z => by omega), if_pos ⟨rfl, hb⟩, drp_pd h4 (l2 := 0) (by decide) trivial]
  exact ⟨sd, lnM_at (((lnM_when h hj hk).trans h3).trans (Rc.one e1)) rfl (by omega)⟩
theorem lnM_no2 (h : MP K V 5 j j1 A) (hj : j < j1) (hk : K j1 = 259) (h2 : TP K V 1 1 0 (j1 + 1) j2 D) (hj2 : j1 + 1 < j2) (hj3 : j2 ≤ 400) (hk2 : K j2 ≠ 59) (h10 : opO (K j2) ≠ 10 ∧ opO (K j2) ≠ 11) : (lnM K V j C).2.1 = j2 ∧ (lnM K V j C).2.2.2.2.2.2.2 = 1 := by
  obtain ⟨W2, C2, sd, h3, h4⟩ := h2 [] (C ++ flt A) 0 (C ++ flt A).length 0 trivial rfl
  have hb : brk W2 = 0 := brk_pd h4
  have e1 : stp K V (4, j2, W2, C2, sd, (C ++ flt A).length, 0, 0) = (5, j2, W2, C2, sd, (C ++ flt A).length, 0, 1) := by
    rw [sp_st4]
    unfold stp4
    rw [if_neg (fun z => z.elim h10.1 h10.2), if_neg (fun z => by omega), if_neg (fun z => hk2 z.1)]
  rw [lnM_at (((lnM_when h hj hk).trans h3).trans (Rc.one e1)) rfl (by omega)]
  exact ⟨rfl, rfl⟩
theorem lnM_bad2 (h : MP K V 5 j j1 A) (hj : j < j1) (hk : K j1 = 259) (h2 : TBa K V 1 0 (j1 + 1) j2 e) (hj2 : j1 + 1 ≤ j2) (hj3 : j2 ≤ 400) : (lnM K V j C).2.1 = j2 ∧ (lnM K V j C).2.2.2.2.2.2.2 = e :=
  lnM_bad (Bad.pre (lnM_when h hj hk) (h2 [] (C ++ flt A) 0 (C ++ flt A).length 0 trivial rfl) (Nat.le_refl _)) (by omega)
theorem lnM_bad1 (h : MB K V 5 j j' e) (hj : j ≤ j') (hj3 : j' ≤ 400) : (lnM K V j C).2.1 = j' ∧ (lnM K V j C).2.2.2.2.2.2.2 = e :=
  lnM_bad (h [] C 0 0 0 trivial) (by omega)
theorem tpS_law {hH hD : Int32} (h0 : K j ≠ 0) (hb : bgn 0 (K j) = true) (hR : R.length ≠ 16) : tpS K V hH hD 0 (0, j, C, R) = ((lnM K V (j + 1) C).2.2.2.2.2.2.2, (lnM K V (j + 1) C).2.1, (lnM K V (j + 1) C).2.2.2.1, R ++ [(K j, nI C.length, nI (lnM K V (j + 1) C).2.2.2.2.2.1, nI (lnM K V (j + 1) C).2.2.2.2.2.2.1)]) := by
  unfold tpS
  rw [if_neg (fun z => z.elim (fun y => y rfl) h0), if_neg (by rw [hb]; decide), if_neg hR, if_pos rfl]
theorem tpS_nb {hH hD : Int32} {k : Nat} (h0 : K j ≠ 0) (hb : bgn k (K j) = false) : tpS K V hH hD k (0, j, C, R) = (1, j, C, R) := by
  unfold tpS
  rw [if_neg (fun z => z.elim (fun y => y rfl) h0), if_pos hb]
theorem tpS_16 {hH hD : Int32} {k : Nat} (h0 : K j ≠ 0) (hb : bgn k (K j) = true) (hR : R.length = 16) : tpS K V hH hD k (0, j, C, R) = (3, j, C, R) := by
  unfold tpS
  rw [if_neg (fun z => z.elim (fun y => y rfl) h0), if_neg (by rw [hb]; decide), if_pos hR]
theorem tp_fst {hH hD : Int32} (h0 : K j ≠ 0) (hb : bgn 0 (K j) = true) (hR : R.length ≠ 16) (h : (lnM K V (j + 1) C).2.1 = j' ∧ (lnM K V (j + 1) C).2.2.2.2.2.2.2 = e) : (tpS K V hH hD 0 (0, j, C, R)).1 = e ∧ (tpS K V hH hD 0 (0, j, C, R)).2.1 = j' := by
  rw [tpS_law h0 hb hR]
  dsimp only
  exact ⟨h.2, h.1⟩
theorem tp_all {hH hD : Int32} {j2 a b sd : Nat} {C2 : Cod} (h0 : K j ≠ 0) (hb : bgn 0 (K j) = true) (hR : R.length ≠ 16) (h : lnM K V (j + 1) C = (5, j2, [], C2, sd, a, b, 0)) : tpS K V hH hD 0 (0, j, C, R) = (0, j2, C2, R ++ [(256 + (K j - 256), nI C.length, nI a, nI b)]) := by
  have hk : 256 + (K j - 256) = K j := by
    have : 256 ≤ K j ∧ K j ≤ 258 := of_decide_eq_true hb
    omega
  rw [tpS_law h0 hb hR, h, hk]
end ALPURE
/-- what a line may change -/
def Gl (i : Nat) (m m' : Mem) : Prop := (∀ x, x ≠ 123 → x ≠ 128 → x ≠ 129 → m' x = m x) ∧ (∀ l, l ≠ 14 → (l < 17 ∨ 22 < l) → l ≠ 24 → m' 123 l = m 123 l) ∧ ∀ l, l < 4 * i → m' 128 l = m 128 l
section ALINE
variable {N : Nat} {m m1 m' m2 : Mem} {B : Nat → Nat} {n M j i : Nat} {S : List Spt} {C : Cod} {R : List Rw4} {h1 d1 : Int32}
theorem Gl.rf : Gl i m m := ⟨fun _ _ _ _ => rfl, fun _ _ _ _ => rfl, fun _ _ => rfl⟩
theorem Gl.trans (h : Gl i m m1) (h2 : Gl i m1 m2) : Gl i m m2 := ⟨fun x x1 x2 x3 => by rw [h2.1 x x1 x2 x3, h.1 x x1 x2 x3], fun l l1 l2 l3 => by rw [h2.2.1 l l1 l2 l3, h.2.1 l l1 l2 l3], fun l hl => by rw [h2.2.2 l hl, h.2.2 l hl]⟩
theorem Gm.gl (h : Gm m m1) : Gl i m m1 := ⟨fun x x1 _ x3 => h.1 x x1 x3, h.2, fun l _ => by rw [h.1 128 (by decide) (by decide)]⟩
theorem Gl.set {c : Nat} {v : Int32} (h : Gl i m m1) : Gl i m (mset m1 128 (4 * i + c) v) := ⟨fun x x1 x2 x3 => by rw [mset_ne x2]; exact h.1 x x1 x2 x3, fun l l1 l2 l3 => by rw [mset_k (by decide)]; exact h.2.1 l l1 l2 l3, fun l hl => by rw [mset_j (by omega)]; exact h.2.2 l hl⟩
theorem RT.m128 {k : Nat} {c : Nat} {v : Int32} (h : RT B n k j m) : RT B n k j (mset m 128 c v) := h.lk (fun x x1 x2 x3 x4 => mset_ne x2) (fun i hi => mset_k (by decide))
theorem SR.m128 {c : Nat} {v : Int32} (h : SR m S) : SR (mset m 128 c v) S := ⟨by rw [mset_k (by decide)]; exact h.1, by rw [mset_ne (by decide)]; exact h.2⟩
theorem tk_ln {c : Nat} (hc : c < 279) : bgn 0 c = decide (256 ≤ c ∧ c ≤ 258) := rfl
/-- a line's end: its sign -/
theorem w_alEnd {j1 : Nat} (hN : 20000 ≤ N) (hM : Mt B n M) (h : RT B n 0 j1 m) (hS : SR m S) (hS4 : S.length ≤ 400) (hi : i < 16) (h13 : m 123 13 = nI i) (hj : j1 ≤ M) {Q : Int32 → Mem → Prop}
    (hy : tkK B n j1 = 59 → ∀ m', RT B n 0 (j1 + 1) m' → SR m' S → Gl i m m' → m' 128 (4 * i + 2) = nI S.length → (∀ c, c ≠ 2 → m' 128 (4 * i + c) = m 128 (4 * i + c)) → Q (nI 1) m')
    (hn : tkK B n j1 ≠ 59 → ∀ m', m' 123 21 = nI 1 → m' 123 22 = nI (psT B n j1) → Gl i m m' → Q (nI 0) m') : Wp (f_X12_aLine_J123 N m) Q := by
  unfold f_X12_aLine_J123
  simp only [li_0, li_1, li_2, li_3, li_4, li_5, li_6, li_7, li_8, li_9, li_10, li_11, li_12, li_13, li_14, li_15, li_16, li_17, li_18, li_19, li_20, li_21, li_22, li_23, li_24, li_25, li_26, li_27, li_28, li_29, li_30, li_31, li_32, li_37, li_38, li_39, li_40, li_41, li_42, li_43, li_44, li_45, li_46, li_47, li_48, li_49, li_50, li_57, li_59, li_60, li_61, li_62, li_63, li_64, li_65, li_69, li_81, li_89, li_90, li_92, li_97, li_99, li_100, li_101, li_103, li_104, li_105, li_106, li_108, li_111, li_112, li_113, li_114, li_115, li_116, li_117, li_119, li_122, li_123, li_124, li_125, li_126, li_127, li_128, li_129, li_130, li_131, li_132, li_133, li_134, li_135, li_136, li_137, li_140, li_141, li_142, li_143, li_145, li_147, li_150, li_153, li_159, li_160, li_161, li_162, li_185, li_197, li_213, li_222, li_223, li_255, li_256, li_257, li_258, li_259, li_260, li_261, li_262, li_263, li_264, li_271, li_272, li_273, li_274, li_275, li_276, li_277, li_278, li_300, li_400, li_420, li_500, li_802, li_820, li_823, li_839, li_855, li_871, li_887, li_999, li_1000, li_1001, li_1002, li_1003, li_1004, li_1005, li_1006, li_1007, li_1008, li_1009, li_1010, li_1011, li_1012, li_1013, li_1014, li_1015, li_1016, li_1017, li_1018, li_1019, li_1020, li_1021, li_1022, li_1023, li_1707, li_4096, li_9999, li_65536, li_100000, li_1000000, li_1664525, li_100000000, li_252645135, li_858993459, li_1000000007, li_1013904223, li_1431655765, li_m1]
  rw [h13, pk_mul, nI_add, inb_nI (by omega) (by omega), chk_t, nI_clamp (by omega), hS.1, bnd_s]
  have r1 : RT B n 0 j1 (mset m 128 (4 * i + 2) (nI S.length)) := h.m128
  have s1 : SR (mset m 128 (4 * i + 2) (nI S.length)) S := hS.m128
  have g1 : Gl i m (mset m 128 (4 * i + 2) (nI S.length)) := Gl.rf.set
  have e2 : (mset m 128 (4 * i + 2) (nI S.length)) 128 (4 * i + 2) = nI S.length := mset_at _ _ _ _
  have e3 : ∀ c, c ≠ 2 → (mset m 128 (4 * i + 2) (nI S.length)) 128 (4 * i + c) = m 128 (4 * i + c) := fun c hc => mset_j (by omega)
  revert r1 s1 g1 e2 e3
  generalize mset m 128 (4 * i + 2) (nI S.length) = m1
  intro r1 s1 g1 e2 e3
  obtain ⟨-, -, -, -, -, t59⟩ := trK_b _ r1.c
  have i59 := r1.is t59 (by decide)
  unfold f_X12_need
  simp only [li_0, li_1, li_2, li_3, li_4, li_5, li_6, li_7, li_8, li_9, li_10, li_11, li_12, li_13, li_14, li_15, li_16, li_17, li_18, li_19, li_20, li_21, li_22, li_23, li_24, li_25, li_26, li_27, li_28, li_29, li_30, li_31, li_32, li_37, li_38, li_39, li_40, li_41, li_42, li_43, li_44, li_45, li_46, li_47, li_48, li_49, li_50, li_57, li_59, li_60, li_61, li_62, li_63, li_64, li_65, li_69, li_81, li_89, li_90, li_92, li_97, li_99, li_100, li_101, li_103, li_104, li_105, li_106, li_108, li_111, li_112, li_113, li_114, li_115, li_116, li_117, li_119, li_122, li_123, li_124, li_125, li_126, li_127, li_128, li_129, li_130, li_131, li_132, li_133, li_134, li_135, li_136, li_137, li_140, li_141, li_142, li_143, li_145, li_147, li_150, li_153, li_159, li_160, li_161, li_162, li_185, li_197, li_213, li_222, li_223, li_255, li_256, li_257, li_258, li_259, li_260, li_261, li_262, li_263, li_264, li_271, li_272, li_273, li_274, li_275, li_276, li_277, li_278, li_300, li_400, li_420, li_500, li_802, li_820, li_823, li_839, li_855, li_871, li_887, li_999, li_1000, li_1001, li_1002, li_1003, li_1004, li_1005, li_1006, li_1007, li_1008, li_1009, li_1010, li_1011, li_1012, li_1013, li_1014, li_1015, li_1016, li_1017, li_1018, li_1019, li_1020, li_1021, li_1022, li_1023, li_1707, li_4096, li_9999, li_65536, li_100000, li_1000000, li_1664525, li_100000000, li_252645135, li_858993459, li_1000000007, li_1013904223, li_1431655765, li_m1]
  by_cases q : tkK B n j1 = 59
  · have hjM := hM.lt hj q (by decide)
    rw [if_pos (i59.mpr q)]
    refine wp_bind (wp_bind (r1.nx hN (by decide)) (fun v m3 n3 => wp_ret (Q := fun v m' => v = nI 1 ∧ RT B n 0 (j1 + 1) m' ∧ Lk m1 m') ⟨rfl, n3⟩)) ?_
    rintro _ m3 ⟨rfl, n1, n2⟩
    rw [show isB (nI 1) = true from rfl, chk_t]
    exact wp_ret (hy q m3 n1 (s1.lk n2) (g1.trans n2.gm.gl) (by rw [n2.1 128 (by decide)]; exact e2) (fun c hc => by rw [n2.1 128 (by decide)]; exact e3 c hc))
  · rw [if_neg (fun z => q (i59.mp z))]
    obtain ⟨m3, l1, l2, l3, l4, -⟩ := w_bad (N := N) r1 1
    rw [l1, bd_s, show isB (nI 0) = true from rfl, chk_t, bd_s, show isB (nI 0) = true from rfl, chk_t]
    exact wp_ret (hn q m3 l2 l3 (g1.trans l4.gl))
/-- a line read, as the class reads it -/
def alY (B : Nat → Nat) (n M : Nat) (hH hD : Int32) (m : Mem) (j i : Nat) (S : List Spt) (C : Cod) (R : List Rw4) (m' : Mem) : Prop :=
  ∃ j' t A D, RT B n 0 j' m' ∧ SR m' (S ++ (A ++ D)) ∧ Gl i m m' ∧ j < j' ∧ j' ≤ M ∧ (A ++ D).length ≤ j' - j ∧ lnOk (t, A, D) ∧ m' 128 (4 * i + 0) = nI S.length ∧ m' 128 (4 * i + 1) = nI (S.length + A.length) ∧ m' 128 (4 * i + 2) = nI (S.length + A.length + D.length) ∧ m' 128 (4 * i + 3) = nI (20 + t) ∧
    tpS (tkK B n) (tkV B n) hH hD 0 (0, j, C, R) = (0, j', C ++ flt A ++ flt D, R ++ [(256 + t, nI C.length, nI (C ++ flt A).length, nI (C ++ flt A ++ flt D).length)])
def alN (B : Nat → Nat) (n : Nat) (hH hD : Int32) (m : Mem) (j i : Nat) (C : Cod) (R : List Rw4) (m' : Mem) : Prop :=
  ∃ j' e, m' 123 21 = nI e ∧ (0 < e ∧ e < 4) ∧ m' 123 22 = nI (psT B n j') ∧ Gl i m m' ∧ (tpS (tkK B n) (tkV B n) hH hD 0 (0, j, C, R)).1 = e ∧ (tpS (tkK B n) (tkV B n) hH hD 0 (0, j, C, R)).2.1 = j'
theorem w_aLine {hH hD : Int32} (hN : 20000 ≤ N) (hM : Mt B n M) (h : RT B n 0 j m) (hS : SR m S) (hSj : S.length ≤ j) (hj : j ≤ M) (h0 : tkK B n j ≠ 0) (h13 : m 123 13 = nI R.length) (hR : R.length ≤ 16) :
    Wp (f_X12_aLine N m) (fun v m' => (v = nI 1 ∧ alY B n M hH hD m j R.length S C R m') ∨ (v = nI 0 ∧ alN B n hH hD m j R.length C R m')) := by
  have hM4 := hM.1
  have hc := h.c
  have ht := trK_lt 0 (by decide) _ hc
  obtain ⟨-, -, tl, tl2⟩ := trK_d _ hc
  have hjM := hM.lt hj rfl h0
  have bad : ∀ (m1 : Mem) (e : Nat), RT B n 0 j m1 → Gl R.length m m1 → (0 < e ∧ e < 4) → tpS (tkK B n) (tkV B n) hH hD 0 (0, j, C, R) = (e, j, C, R) → Wp (bd (f_X12_bad N (nI e) m1) fun r m_2 => chk (isB r) (some (r, m_2))) (fun v m' => (v = nI 1 ∧ alY B n M hH hD m j R.length S C R m') ∨ (v = nI 0 ∧ alN B n hH hD m j R.length C R m')) := by
    intro m1 e r1 g1 he ht
    obtain ⟨m2, l1, l2, l3, l4, -⟩ := w_bad (N := N) r1 e
    rw [l1, bd_s]
    exact wp_ret (Or.inr ⟨rfl, j, e, l2, he, l3, g1.trans l4.gl, by rw [ht], by rw [ht]⟩)
  unfold f_X12_aLine
  simp only [li_0, li_1, li_2, li_3, li_4, li_5, li_6, li_7, li_8, li_9, li_10, li_11, li_12, li_13, li_14, li_15, li_16, li_17, li_18, li_19, li_20, li_21, li_22, li_23, li_24, li_25, li_26, li_27, li_28, li_29, li_30, li_31, li_32, li_37, li_38, li_39, li_40, li_41, li_42, li_43, li_44, li_45, li_46, li_47, li_48, li_49, li_50, li_57, li_59, li_60, li_61, li_62, li_63, li_64, li_65, li_69, li_81, li_89, li_90, li_92, li_97, li_99, li_100, li_101, li_103, li_104, li_105, li_106, li_108, li_111, li_112, li_113, li_114, li_115, li_116, li_117, li_119, li_122, li_123, li_124, li_125, li_126, li_127, li_128, li_129, li_130, li_131, li_132, li_133, li_134, li_135, li_136, li_137, li_140, li_141, li_142, li_143, li_145, li_147, li_150, li_153, li_159, li_160, li_161, li_162, li_185, li_197, li_213, li_222, li_223, li_255, li_256, li_257, li_258, li_259, li_260, li_261, li_262, li_263, li_264, li_271, li_272, li_273, li_274, li_275, li_276, li_277, li_278, li_300, li_400, li_420, li_500, li_802, li_820, li_823, li_839, li_855, li_871, li_887, li_999, li_1000, li_1001, li_1002, li_1003, li_1004, li_1005, li_1006, li_1007, li_1008, li_1009, li_1010, li_1011, li_1012, li_1013, li_1014, li_1015, li_1016, li_1017, li_1018, li_1019, li_1020, li_1021, li_1022, li_1023, li_1707, li_4096, li_9999, li_65536, li_100000, li_1000000, li_1664525, li_100000000, li_252645135, li_858993459, li_1000000007, li_1013904223, li_1431655765, li_m1]
  rw [e_isIn, bd_s, h.2.1, rng_is (by omega) (by omega) (by omega), if_b2i]
  by_cases q : 256 ≤ tkK B n j ∧ tkK B n j ≤ 258
  · have hb : bgn 0 (tkK B n j) = true := by rw [tk_ln hc, decide_eq_true q]
    rw [decide_eq_true (tl.mpr q), if_pos rfl, h13]
    by_cases q16 : R.length = 16
    · rw [if_pos (by rw [q16])]
      exact bad m 3 h Gl.rf (by decide) (tpS_16 h0 hb q16)
    · rw [if_neg (nI_ne q16 (by omega) (by omega)), bnd_s, mset_j (by decide), h13, pk_mul, nI_add, inb_nI (by omega) (by omega), chk_t, nI_clamp (by omega), mset_j (by decide), h.2.1, tl2 q.1 q.2, bnd_s]
      have r1 : RT B n 0 j (mset (mset m 123 24 (nI 0)) 128 (4 * R.length + 3) (nI (tkK B n j - 236))) := RT.m128 (h.lk (fun x x1 x2 x3 x4 => mset_ne x1) (fun i hi => mset_j (by omega)))
      have s1 : SR (mset (mset m 123 24 (nI 0)) 128 (4 * R.length + 3) (nI (tkK B n j - 236))) S := SR.m128 ⟨by rw [mset_j (by decide)]; exact hS.1, by rw [mset_ne (by decide)]; exact hS.2⟩
      have g1 : Gl R.length m (mset (mset m 123 24 (nI 0)) 128 (4 * R.length + 3) (nI (tkK B n j - 236))) := Gl.set ⟨fun x x1 x2 x3 => mset_ne x1, fun l l1 l2 l3 => mset_j l3, fun l hl => by rw [mset_ne (by decide)]⟩
      have e3 : (mset (mset m 123 24 (nI 0)) 128 (4 * R.length + 3) (nI (tkK B n j - 236))) 128 (4 * R.length + 3) = nI (tkK B n j - 236) := mset_at _ _ _ _
      have e24 : (mset (mset m 123 24 (nI 0)) 128 (4 * R.length + 3) (nI (tkK B n j - 236))) 123 24 = nI 0 := by rw [mset_k (by decide), mset_at]
      revert r1 s1 g1 e3 e24
      generalize mset (mset m 123 24 (nI 0)) 128 (4 * R.length + 3) (nI (tkK B n j - 236)) = m1
      intro r1 s1 g1 e3 e24
      refine wp_bind (r1.nx hN (by decide)) ?_
      rintro _ m2 ⟨n1, n2⟩
      rw [n2.2 13 (by decide), g1.2.1 13 (by decide) (by decide) (by decide), h13, pk_mul, inb_nI (by omega) (by omega), chk_t, nI_clamp (by omega), (s1.lk n2).1, bnd_s]
      have r3 : RT B n 0 (j + 1) (mset m2 128 (4 * R.length) (nI S.length)) := n1.m128
      have s3 : SR (mset m2 128 (4 * R.length) (nI S.length)) S := (s1.lk n2).m128
      have g3 : Gl R.length m (mset m2 128 (4 * R.length) (nI S.length)) := (g1.trans n2.gm.gl).set (c := 0)
      have e4 : (mset m2 128 (4 * R.length) (nI S.length)) 128 (4 * R.length + 3) = nI (tkK B n j - 236) := by rw [mset_j (by omega), n2.1 128 (by decide)]; exact e3
      have e5 : (mset m2 128 (4 * R.length) (nI S.length)) 128 (4 * R.length + 0) = nI S.length := mset_at _ _ _ _
      have e24' : (mset m2 128 (4 * R.length) (nI S.length)) 123 24 = nI 0 := by rw [mset_k (by decide), n2.2 24 (by decide)]; exact e24
      revert r3 s3 g3 e4 e5 e24'
      generalize mset m2 128 (4 * R.length) (nI S.length) = m3
      intro r3 s3 g3 e4 e5 e24'
      refine wp_bind (w_sumUp hN hM r3 s3 (by omega) (by omega)) ?_
      rintro v m4 (⟨rfl, j1, A, a1, a2, a3, a4, a5, a6, a7, a8, a9, a10⟩ | ⟨rfl, j1, e, a1, a2, a3, a4, a5, a6, a7⟩)
      · have c4 : ∀ c, m4 128 c = m3 128 c := fun c => by rw [a3.1 128 (by decide) (by decide)]
        have h13' : m4 123 13 = nI R.length := by rw [a3.2 13 (by decide) (by decide) (by decide), g3.2.1 13 (by decide) (by decide) (by decide), h13]
        rw [if_neg (by decide), h13', pk_mul, nI_add, inb_nI (by omega) (by omega), chk_t, nI_clamp (by omega), a2.1, bnd_s]
        have r5 : RT B n 0 j1 (mset m4 128 (4 * R.length + 1) (nI (S ++ A).length)) := a1.m128
        have s5 : SR (mset m4 128 (4 * R.length + 1) (nI (S ++ A).length)) (S ++ A) := a2.m128
        have g5 : Gl R.length m (mset m4 128 (4 * R.length + 1) (nI (S ++ A).length)) := (g3.trans a3.gl).set
        have e6 : (mset m4 128 (4 * R.length + 1) (nI (S ++ A).length)) 128 (4 * R.length + 3) = nI (tkK B n j - 236) := by rw [mset_j (by omega), c4]; exact e4
        have e7 : (mset m4 128 (4 * R.length + 1) (nI (S ++ A).length)) 128 (4 * R.length + 0) = nI S.length := by rw [mset_j (by omega), c4]; exact e5
        have e8 : (mset m4 128 (4 * R.length + 1) (nI (S ++ A).length)) 128 (4 * R.length + 1) = nI (S.length + A.length) := by rw [mset_at, List.length_append]
        have e24'' : (mset m4 128 (4 * R.length + 1) (nI (S ++ A).length)) 123 24 = nI 0 := by rw [mset_k (by decide), a4, e24']
        have h13'' : (mset m4 128 (4 * R.length + 1) (nI (S ++ A).length)) 123 13 = nI R.length := by rw [mset_k (by decide), h13']
        revert r5 s5 g5 e6 e7 e8 e24'' h13''
        generalize mset m4 128 (4 * R.length + 1) (nI (S ++ A).length) = m5
        intro r5 s5 g5 e6 e7 e8 e24'' h13''
        obtain ⟨t3, -⟩ := trK_c _ r5.c
        have i3 := r5.is t3 (by decide)
        by_cases qw : tkK B n j1 = 259
        · have hjM1 := hM.lt a6 qw (by decide)
          rw [if_pos (i3.mpr qw)]
          refine wp_bind (r5.nx hN (by decide)) ?_
          rintro _ m6 ⟨o1, o2⟩
          refine wp_bind (w_any (d := 0) hN hM (w_oneTest hN hM 10 0 (by decide) (by decide)) o1 (s5.lk o2) (by rw [List.length_append]; omega) (by omega) (by rw [o2.2 24 (by decide)]; exact e24'')) ?_
          rintro v m7 (⟨rfl, j2, D, b1, b2, b3, b4, b5, b6, b7, b8, b9, b10⟩ | ⟨rfl, j2, e, b1, b2, b3, b4, b5, b6, b7⟩)
          · rw [if_neg (by decide)]
            have c7 : ∀ c, m7 128 c = m5 128 c := fun c => by rw [b3.1 128 (by decide) (by decide), o2.1 128 (by decide)]
            have g7 : Gl R.length m m7 := (g5.trans o2.gm.gl).trans b3.gl
            have h10 : opO (tkK B n j2) ≠ 10 ∧ opO (tkK B n j2) ≠ 11 := by
              have : ∀ c, c < 279 → c ≠ 261 → c ≠ 260 → opO c ≠ 10 ∧ opO c ≠ 11 := by decide +kernel
              exact this _ b1.c b9.1 b9.2
            refine w_alEnd (i := R.length) hN hM b1 b2 (by simp only [List.length_append]; omega) (by omega) (by rw [g7.2.1 13 (by decide) (by decide) (by decide), h13]) b6 (fun q59 m8 f1 f2 f3 f4 f5 => ?_) (fun q59 m8 f1 f2 f3 => ?_)
            · have hm4 : j2 ≤ 400 := by omega
              have hjM2 := hM.lt b6 q59 (by decide)
              refine Or.inl ⟨rfl, j2 + 1, tkK B n j - 256, A, D, f1, by rw [← List.append_assoc]; exact f2, g7.trans f3, by omega, by omega, by rw [List.length_append]; omega, ⟨by show tkK B n j - 256 < 3; omega, a8 [] (by simp), Or.inr (b8 [] (by simp))⟩, ?_, ?_, ?_, ?_, ?_⟩
              · rw [f5 0 (by decide), c7]; exact e7
              · rw [f5 1 (by decide), c7]; exact e8
              · rw [f4]; simp only [List.length_append]
              · rw [f5 3 (by decide), c7, e6, show 20 + (tkK B n j - 256) = tkK B n j - 236 by omega]
              · obtain ⟨sd, hl⟩ := lnM_ok2 (C := C) a10 a5 qw b10 b5 hm4 q59
                exact tp_all h0 hb q16 hl
            · have hm4 : j2 ≤ 400 := by omega
              have hh := tp_fst (hH := hH) (hD := hD) (V := tkV B n) (C := C) h0 hb q16 (lnM_no2 (C := C) a10 a5 qw b10 b5 hm4 q59 h10)
              exact Or.inr ⟨rfl, j2, 1, f1, by decide, f2, g7.trans f3, hh⟩
          · rw [if_pos rfl]
            have hm4 : j2 ≤ 400 := by omega
            have hh := tp_fst (hH := hH) (hD := hD) (V := tkV B n) (C := C) h0 hb q16 (lnM_bad2 (C := C) a10 a5 qw b7 b5 hm4)
            exact wp_ret (Or.inr ⟨rfl, j2, e, b1, b2, b3, (g5.trans o2.gm.gl).trans b4.gl, hh⟩)
        · rw [if_neg (fun z => qw (i3.mp z))]
          refine w_alEnd (i := R.length) hN hM r5 s5 (by simp only [List.length_append]; omega) (by omega) h13'' a6 (fun q59 m8 f1 f2 f3 f4 f5 => ?_) (fun q59 m8 f1 f2 f3 => ?_)
          · have hm4 : j1 ≤ 400 := by omega
            have hjM2 := hM.lt a6 q59 (by decide)
            refine Or.inl ⟨rfl, j1 + 1, tkK B n j - 256, A, [], f1, by rw [List.append_nil]; exact f2, g5.trans f3, by omega, by omega, by rw [List.append_nil]; omega, ⟨by show tkK B n j - 256 < 3; omega, a8 [] (by simp), Or.inl rfl⟩, ?_, ?_, ?_, ?_, ?_⟩
            · rw [f5 0 (by decide)]; exact e7
            · rw [f5 1 (by decide)]; exact e8
            · rw [f4]; simp only [List.length_append, List.length_nil, Nat.add_zero]
            · rw [f5 3 (by decide), e6, show 20 + (tkK B n j - 256) = tkK B n j - 236 by omega]
            · have hf : flt ([] : List Spt) = [] := rfl
              rw [hf, List.append_nil]
              have hl := lnM_ok1 (C := C) a10 a5 hm4 q59
              exact tp_all h0 hb q16 hl
          · have hm4 : j1 ≤ 400 := by omega
            have hh := tp_fst (hH := hH) (hD := hD) (V := tkV B n) (C := C) h0 hb q16 (lnM_no1 (C := C) a10 a5 hm4 (opO_no a9.1 a9.2.2.1 a9.2.2.2 a9.2.1) q59 qw)
            exact Or.inr ⟨rfl, j1, 1, f1, by decide, f2, g5.trans f3, hh⟩
      · rw [if_pos rfl]
        have hm4 : j1 ≤ 400 := by omega
        have hh := tp_fst (hH := hH) (hD := hD) (V := tkV B n) (C := C) h0 hb q16 (lnM_bad1 (C := C) a7 a5 hm4)
        exact wp_ret (Or.inr ⟨rfl, j1, e, a1, a2, a3, g3.trans a4.gl, hh⟩)
  · have hb : bgn 0 (tkK B n j) = false := by rw [tk_ln hc, decide_eq_false q]
    rw [decide_eq_false (fun z => q (tl.mp z)), if_neg (by decide)]
    exact bad m 1 h Gl.rf (by decide) (tpS_nb h0 hb)
end ALINE
