/-! a text as the class reads it, line by line -/
section RALL
variable {N : Nat} {m0 m m1 m' : Mem} {B : Nat → Nat} {n M li k k0 : Nat} {s : Ts} {f j : Nat} {C : Cod} {R : List Rw4} {h1 d1 : Int32}
theorem TxC.K (h : TxC B n M h1 d1 m0 m (f, j, C, R)) : m 99 3 = nI (tkK B n j) ∧ tkK B n j < 279 := ⟨h.1.1.2.2.2.1, kT_lt h.1.1.1.2.2.2⟩
theorem TxC.cg (h : TxC B n M h1 d1 m0 m (f, j, C, R)) (hk : ∀ x, x ≠ 103 → m' x = m x) (h3 : ∀ i, i ≠ 9 → m' 103 i = m 103 i) (hF : Fx m') : TxC B n M h1 d1 m0 m' (f, j, C, R) := by
  obtain ⟨⟨a1, a2⟩, a3, a4, a5, a6, a7, a8, a9, a10, a11, a12, a13, a14⟩ := h
  refine ⟨⟨a1.cg (fun k k1 k2 => hk k (by omega)), a2⟩, hF, by rw [hk 106 (by decide)]; exact a4, by rw [hk 107 (by decide)]; exact a5, by rw [hk 104 (by decide)]; exact a6, a7, ?_, by rw [h3 3 (by decide)]; exact a9, by rw [h3 4 (by decide)]; exact a10, by rw [h3 10 (by decide)]; exact a11, by rw [h3 11 (by decide)]; exact a12, a13, fun x hx => by rw [hk x (by omega)]; exact a14 x hx⟩
  intro i q hq
  unfold rwA
  rw [hk 105 (by decide)]
  exact a8 i q hq
theorem TxC.fault (h : TxC B n M h1 d1 m0 m (0, j, C, R)) {g : Nat} (hg : g ≠ 0) : f_X6_blame N (nI g) m = some (0, mset (mset m 103 3 (nI g)) 103 4 (nI (psT B n j))) ∧ TxC B n M h1 d1 m0 (mset (mset m 103 3 (nI g)) 103 4 (nI (psT B n j))) (g, j, C, R) := by
  obtain ⟨⟨a1, a2⟩, a3, a4, a5, a6, a7, a8, a9, a10, a11, a12, a13, a14⟩ := h
  constructor
  · unfold f_X6_blame
    simp only [li_0, li_1, li_2, li_3, li_4, li_5, li_6, li_7, li_8, li_9, li_10, li_11, li_12, li_13, li_14, li_15, li_16, li_17, li_18, li_19, li_20, li_21, li_22, li_23, li_24, li_25, li_26, li_27, li_28, li_29, li_30, li_31, li_32, li_37, li_38, li_39, li_40, li_41, li_42, li_43, li_44, li_45, li_46, li_47, li_48, li_49, li_50, li_57, li_59, li_60, li_61, li_62, li_63, li_64, li_65, li_69, li_81, li_89, li_90, li_92, li_97, li_99, li_100, li_101, li_103, li_104, li_105, li_106, li_108, li_111, li_112, li_113, li_114, li_115, li_116, li_117, li_119, li_122, li_123, li_124, li_125, li_126, li_127, li_128, li_129, li_130, li_131, li_132, li_133, li_134, li_135, li_136, li_137, li_140, li_141, li_142, li_143, li_145, li_147, li_150, li_153, li_159, li_160, li_161, li_162, li_185, li_197, li_213, li_222, li_223, li_255, li_256, li_257, li_258, li_259, li_260, li_261, li_262, li_263, li_264, li_271, li_272, li_273, li_274, li_275, li_276, li_277, li_278, li_300, li_400, li_420, li_500, li_802, li_820, li_823, li_839, li_855, li_871, li_887, li_999, li_1000, li_1001, li_1002, li_1003, li_1004, li_1005, li_1006, li_1007, li_1008, li_1009, li_1010, li_1011, li_1012, li_1013, li_1014, li_1015, li_1016, li_1017, li_1018, li_1019, li_1020, li_1021, li_1022, li_1023, li_1707, li_4096, li_9999, li_65536, li_100000, li_1000000, li_1664525, li_100000000, li_252645135, li_858993459, li_1000000007, li_1013904223, li_1431655765, li_m1]
    rw [if_pos a9, bnd_s, mset_k (by decide), a1.2.2.2.2.1, bnd_s]
  · have e : ∀ x, x ≠ 103 → mset (mset m 103 3 (nI g)) 103 4 (nI (psT B n j)) x = m x := fun x hx => by rw [mset_ne hx, mset_ne hx]
    refine ⟨⟨a1.cg (fun k k1 k2 => e k (by omega)), a2⟩, (a3.out (by decide)).out (by decide), by rw [e 106 (by decide)]; exact a4, by rw [e 107 (by decide)]; exact a5, by rw [e 104 (by decide)]; exact a6, a7, ?_, by rw [mset_j (by decide), mset_at], ⟨fun _ => mset_at _ _ _ _, fun z => absurd z hg⟩, by rw [mset_j (by decide), mset_j (by decide)]; exact a11, by rw [mset_j (by decide), mset_j (by decide)]; exact a12, a13, fun x hx => by rw [e x (by omega)]; exact a14 x hx⟩
    intro i q hq
    unfold rwA
    rw [e 105 (by decide)]
    exact a8 i q hq
theorem w_lineC (hN : 20000 ≤ N) (hM : Mt B n M) (hk : k ≤ 3) (h : TxC B n M h1 d1 m0 m (0, j, C, R)) (hK : tkK B n j ≠ 0) :
    Wp (f_X6_readLine N (nI k) m) (fun _ m' => TxC B n M h1 d1 m0 m' (tpS (tkK B n) (tkV B n) (h1 - nI 1) (d1 - nI 1) k (0, j, C, R))) := by
  obtain ⟨k1, k3⟩ := h.K
  unfold f_X6_readLine
  simp only [li_0, li_1, li_2, li_3, li_4, li_5, li_6, li_7, li_8, li_9, li_10, li_11, li_12, li_13, li_14, li_15, li_16, li_17, li_18, li_19, li_20, li_21, li_22, li_23, li_24, li_25, li_26, li_27, li_28, li_29, li_30, li_31, li_32, li_37, li_38, li_39, li_40, li_41, li_42, li_43, li_44, li_45, li_46, li_47, li_48, li_49, li_50, li_57, li_59, li_60, li_61, li_62, li_63, li_64, li_65, li_69, li_81, li_89, li_90, li_92, li_97, li_99, li_100, li_101, li_103, li_104, li_105, li_106, li_108, li_111, li_112, li_113, li_114, li_115, li_116, li_117, li_119, li_122, li_123, li_124, li_125, li_126, li_127, li_128, li_129, li_130, li_131, li_132, li_133, li_134, li_135, li_136, li_137, li_140, li_141, li_142, li_143, li_145, li_147, li_150, li_153, li_159, li_160, li_161, li_162, li_185, li_197, li_213, li_222, li_223, li_255, li_256, li_257, li_258, li_259, li_260, li_261, li_262, li_263, li_264, li_271, li_272, li_273, li_274, li_275, li_276, li_277, li_278, li_300, li_400, li_420, li_500, li_802, li_820, li_823, li_839, li_855, li_871, li_887, li_999, li_1000, li_1001, li_1002, li_1003, li_1004, li_1005, li_1006, li_1007, li_1008, li_1009, li_1010, li_1011, li_1012, li_1013, li_1014, li_1015, li_1016, li_1017, li_1018, li_1019, li_1020, li_1021, li_1022, li_1023, li_1707, li_4096, li_9999, li_65536, li_100000, li_1000000, li_1664525, li_100000000, li_252645135, li_858993459, li_1000000007, li_1013904223, li_1431655765, li_m1]
  unfold tpS
  simp only [if_neg (show ¬ ((0 : Nat) ≠ 0 ∨ tkK B n j = 0) from fun z => z.elim (fun y => y rfl) hK)]
  rw [k1, bnd_s, e_begins hk k3, bd_s, if_b2i]
  cases qb : bgn k (tkK B n j) with
  | false =>
    rw [if_neg (by decide)]
    simp only [if_true]
    obtain ⟨e1, e2⟩ := h.fault (N := N) (g := 1) (by decide)
    rw [e1, bd_s]
    exact wp_ret e2
  | true =>
    have hjM := hM.lt h.1.2 rfl hK
    rw [if_pos rfl, bnd_s]
    simp only [if_neg (show ¬ (true = false) by decide)]
    have hF1 : Fx (mset m 103 9 (m 104 3)) := h.2.1.out (by decide)
    have hc : TxC B n M h1 d1 m0 (mset m 103 9 (m 104 3)) (0, j, C, R) := h.cg (fun x hx => mset_ne hx) (fun i hi => mset_j hi) hF1
    have e9 : (mset m 103 9 (m 104 3)) 103 9 = nI R.length := by rw [mset_at]; exact h.2.2.2.2.1
    revert hF1 hc e9
    generalize mset m 103 9 (m 104 3) = m1
    intro hF1 hc e9
    obtain ⟨⟨a1, a2⟩, a3, a4, a5, a6, a7, a8, a9, a10, a11, a12, a13, a14⟩ := id hc
    simp only at a1 a2 a4 a5 a6 a7 a8 a9 a10 a13
    have hC1 : C.length ≤ j + 1 := Nat.le_succ_of_le a13
    have hj1 : j + 1 ≤ M := hjM
    by_cases q16 : R.length = 16
    · rw [e_addF a3 (t := 104) (most := 16) (wide := 4) (by decide) (by rw [a6, q16]), bd_s, if_pos (show (0 : Int32) = nI 0 from rfl)]
      simp only [if_pos q16]
      obtain ⟨e1, e2⟩ := hc.fault (N := N) (g := 3) (by decide)
      rw [e1, bd_s]
      exact wp_ret e2
    · simp only [if_neg q16]
      rw [e_add hN a3 (t := 104) (most := 16) (wide := 4) (by decide) a6 (by omega), bd_s, if_neg (by decide)]
      have hf : Fr [(104, 105)] m1 (madd m1 104 4 R.length (nI (tkK B n j)) (nI 0) (nI 0) (nI 0)) := by
        intro x hx
        have := hx (104, 105) (by simp)
        simp only at this
        unfold madd
        rw [mset_ne (by omega)]
        funext i
        exact mrow_o (by omega)
      have e3 : (madd m1 104 4 R.length (nI (tkK B n j)) (nI 0) (nI 0) (nI 0)) 104 3 = nI (R.length + 1) := mset_at _ _ _ _
      have e5 : ∀ i, i < R.length * 4 → (madd m1 104 4 R.length (nI (tkK B n j)) (nI 0) (nI 0) (nI 0)) 105 i = m1 105 i := fun i hi => by
        unfold madd
        rw [mset_k (by decide)]
        exact mrow_n (t := 104) (by omega)
      have e6 : (madd m1 104 4 R.length (nI (tkK B n j)) (nI 0) (nI 0) (nI 0)) 105 (R.length * 4 + 0) = nI (tkK B n j) := by
        unfold madd
        rw [mset_k (by decide), mrow_in (t := 104) (by omega), show R.length * 4 + 0 - R.length * 4 = 0 by omega]; rfl
      have e7 : ∀ c, c = 1 ∨ c = 2 ∨ c = 3 → (madd m1 104 4 R.length (nI (tkK B n j)) (nI 0) (nI 0) (nI 0)) 105 (R.length * 4 + c) = nI 0 := fun c hc => by
        unfold madd
        rw [mset_k (by decide), mrow_in (t := 104) (by omega), show R.length * 4 + c - R.length * 4 = c by omega]
        rcases hc with rfl | rfl | rfl <;> rfl
      have hF2 : Fx (madd m1 104 4 R.length (nI (tkK B n j)) (nI 0) (nI 0) (nI 0)) := a3.add (t := 104) (most := 16) (by decide)
      revert hf e3 e5 e6 e7 hF2
      generalize madd m1 104 4 R.length (nI (tkK B n j)) (nI 0) (nI 0) (nI 0) = m2
      intro hf e3 e5 e6 e7 hF2
      have f2 : ∀ x, x ≠ 104 → x ≠ 105 → m2 x = m1 x := fun x x1 x2 => hf x (fun p hp => by rw [List.mem_singleton.mp hp]; show x < 104 ∨ 105 < x; omega)
      refine wp_bind ((a1.cg (fun k k1 k2 => f2 k (by omega) (by omega))).nx hM.1 hF2 hjM) ?_
      rintro _ m3 ⟨c1, c2, c3⟩
      have f3 : ∀ x, x ≠ 99 → m3 x = m2 x := fun x x1 => c2 x (fun p hp => by rw [List.mem_singleton.mp hp]; show x < 99 ∨ 99 < x; omega)
      by_cases k0 : k = 0
      · subst k0
        refine wp_eq (swt_at 0 (by decide) rfl) ?_
        simp only [if_true]
        have hl : Ln0 B n M R.length (j + 1) C m3 := by
          refine ⟨c1, c3, ?_, ?_, ?_, ?_, ?_, ?_, ?_⟩
          · rw [f3 106 (by decide), f2 106 (by decide) (by decide)]; exact a4
          · rw [f3 107 (by decide), f2 107 (by decide) (by decide)]; exact a5
          · rw [f3 103 (by decide), f2 103 (by decide) (by decide)]; exact e9
          · rw [f3 104 (by decide)]; exact e3
          · rw [f3 105 (by decide)]; exact e7 2 (by decide)
          · rw [f3 105 (by decide)]; exact e7 3 (by decide)
          · rw [f3 103 (by decide), f2 103 (by decide) (by decide)]; exact a9
        refine wp_bind (w_readLaw hN hM (by omega) hl hC1 hj1) ?_
        rintro _ m4 ⟨m5, g1, g2, g3, g4, g5, g6⟩
        refine wp_ret ?_
        show TxC B n M h1 d1 m0 m4 ((lnM (tkK B n) (tkV B n) (j + 1) C).2.2.2.2.2.2.2, (lnM (tkK B n) (tkV B n) (j + 1) C).2.1, (lnM (tkK B n) (tkV B n) (j + 1) C).2.2.2.1, R ++ [(tkK B n j, nI C.length, nI (lnM (tkK B n) (tkV B n) (j + 1) C).2.2.2.2.2.1, nI (lnM (tkK B n) (tkV B n) (j + 1) C).2.2.2.2.2.2.1)])
        unfold lnM
        revert g1 g2
        generalize itn (tkK B n) (tkV B n) 802 (1, j + 1, [], C, 0, 0, 0, 0) = t
        intro g1 g2
        obtain ⟨ex, j', W', C', sd', md', fn', fl'⟩ := t
        obtain ⟨⟨v1, v2⟩, v3, v4, v5⟩ := g2
        simp only at v1 v2
        obtain ⟨b1, b2, b3, b4, b5, b6, b7, b8, b9, b10, b11, b12, b13⟩ := g1
        refine ⟨⟨b1, v2⟩, b2.2.2.2.2.2.2, b2.2.2.1, b2.2.2.2.1, by rw [b6]; simp, by simp; omega, ?_, b9, ⟨b10.1, fun z => ?_⟩, ?_, ?_, by show C'.length ≤ j'; omega, ?_⟩
        · refine a8.snoc (fun i hi => ?_) ⟨?_, ?_, b7, b8⟩
          · rw [b12 i (by omega) (by omega), g5 i (by omega), f3 105 (by decide), e5 i hi]
          · rw [b12 _ (by omega) (by omega), g5 _ (by omega), f3 105 (by decide)]; exact e6
          · rw [b12 _ (by omega) (by omega)]; exact g6
        · rw [b10.2 z, g4 4 (by decide) (by decide) (by decide), f3 103 (by decide), f2 103 (by decide) (by decide)]
          exact a10.2 trivial
        · rw [b13 10 (by decide) (by decide) (by decide) (by decide) (by decide), g4 10 (by decide) (by decide) (by decide), f3 103 (by decide), f2 103 (by decide) (by decide)]; exact a11
        · rw [b13 11 (by decide) (by decide) (by decide) (by decide) (by decide), g4 11 (by decide) (by decide) (by decide), f3 103 (by decide), f2 103 (by decide) (by decide)]; exact a12
        · intro x hx
          rw [b11 x (by omega) (by omega) (by omega), g3 x (by omega) (by omega) (by omega), f3 x (by omega), f2 x (by omega) (by omega)]
          exact a14 x hx
      · simp only [if_neg k0]
        have hr : RxC B n M R.length (tkK B n j) m3 m3 (0, j + 1, nI 0, nI 0) := by
          refine ⟨⟨c1, by show j + 1 ≤ M; omega⟩, c3, ?_, ⟨fun z => absurd rfl z, fun _ => rfl⟩, ?_, ?_, ?_, ?_, ?_, fun _ _ _ _ => rfl, fun _ _ _ => rfl, fun _ _ _ => rfl⟩
          · rw [f3 103 (by decide), f2 103 (by decide) (by decide)]; exact a9
          · rw [f3 103 (by decide), f2 103 (by decide) (by decide)]; exact e9
          · rw [f3 104 (by decide)]; exact e3
          · rw [f3 105 (by decide)]; exact e6
          · rw [f3 105 (by decide)]; exact e7 1 (by decide)
          · rw [f3 105 (by decide)]; exact e7 2 (by decide)
        have e10 : m3 103 10 - nI 1 = h1 - nI 1 := by rw [f3 103 (by decide), f2 103 (by decide) (by decide), a11]
        have e11 : m3 103 11 - nI 1 = d1 - nI 1 := by rw [f3 103 (by decide), f2 103 (by decide) (by decide), a12]
        have hkk : k = 1 ∨ k = 2 ∨ k = 3 := by omega
        refine wp_mono (w_rowS hM hkk qb (by omega) hr (by simp) e10 e11) ?_
        rintro _ m4 g
        have up := rowS_up (k := k) (k0 := tkK B n j) (hH := h1 - nI 1) (hD := d1 - nI 1) (K := tkK B n) (V := tkV B n) (0, j + 1, nI 0, nI 0)
        simp only at up
        revert g up
        generalize rowS (tkK B n) (tkV B n) (h1 - nI 1) (d1 - nI 1) k (tkK B n j) (0, j + 1, nI 0, nI 0) = t
        intro g up
        obtain ⟨f', j', a', b'⟩ := t
        obtain ⟨b1, b2, b3, b4, b5, b6, b7, b8, b9, b10, b11, b12⟩ := g
        simp only at up b3 b4 b8 b9
        refine ⟨b1, b2, ?_, ?_, by rw [b6]; simp, by simp; omega, ?_, b3, ⟨b4.1, fun z => ?_⟩, ?_, ?_, by show C.length ≤ j'; omega, ?_⟩
        · rw [b10 106 (by decide) (by decide) (by decide), f3 106 (by decide), f2 106 (by decide) (by decide)]; exact a4
        · rw [b10 107 (by decide) (by decide) (by decide), f3 107 (by decide), f2 107 (by decide) (by decide)]; exact a5
        · refine a8.snoc (fun i hi => ?_) ⟨b7, b8, b9, ?_⟩
          · rw [b11 i (by omega) (by omega), f3 105 (by decide), e5 i hi]
          · rw [b11 _ (by omega) (by omega), f3 105 (by decide)]; exact e7 3 (by decide)
        · rw [b4.2 z, f3 103 (by decide), f2 103 (by decide) (by decide)]
          exact a10.2 trivial
        · rw [b12 10 (by decide) (by decide), f3 103 (by decide), f2 103 (by decide) (by decide)]; exact a11
        · rw [b12 11 (by decide) (by decide), f3 103 (by decide), f2 103 (by decide) (by decide)]; exact a12
        · intro x hx
          rw [b10 x (by omega) (by omega) (by omega), f3 x (by omega), f2 x (by omega) (by omega)]
          exact a14 x hx
theorem lnM_up {K : Nat → Nat} {V : Nat → Int32} : j ≤ (lnM K V j C).2.1 := by
  unfold lnM
  exact itn_up 802 (1, j, [], C, 0, 0, 0, 0)
/-- a line goes on by a token at least -/
theorem tpS_up {K : Nat → Nat} {V : Nat → Int32} {hH hD : Int32} (hn : ¬ fnl K (f, j, C, R)) (h0 : (tpS K V hH hD k (f, j, C, R)).1 = 0) : j + 1 ≤ (tpS K V hH hD k (f, j, C, R)).2.1 := by
  unfold fnl at hn
  unfold tpS at h0 ⊢
  rw [if_neg hn] at h0 ⊢
  split at h0
  · exact absurd h0 (by simp)
  · rename_i q1
    rw [if_neg q1]
    split at h0
    · exact absurd h0 (by simp)
    · rename_i q2
      rw [if_neg q2]
      split at h0
      · rename_i q3
        rw [if_pos q3]
        dsimp only
        exact lnM_up (K := K) (V := V)
      · rename_i q3
        rw [if_neg q3]
        exact rowS_up (K := K) (V := V) (0, j + 1, nI 0, nI 0)
theorem stp_f4 {K : Nat → Nat} {V : Nat → Int32} (s : Mst) (h : s.2.2.2.2.2.2.2 < 4) : (stp K V s).2.2.2.2.2.2.2 < 4 := by
  unfold stp stp0 stp1 stp2 stp3 stp4
  repeat' split
  all_goals first | exact h | exact (by decide : 1 < 4) | exact (by decide : 2 < 4) | exact (by decide : 3 < 4)
theorem itn_f4 {K : Nat → Nat} {V : Nat → Int32} : ∀ (c : Nat) (s : Mst), s.2.2.2.2.2.2.2 < 4 → (itn K V c s).2.2.2.2.2.2.2 < 4
  | 0, _, h => h
  | c + 1, s, h => itn_f4 c _ (stp_f4 s h)
theorem lnM_f4 {K : Nat → Nat} {V : Nat → Int32} : (lnM K V j C).2.2.2.2.2.2.2 < 4 := by
  unfold lnM
  exact itn_f4 802 (1, j, [], C, 0, 0, 0, 0) (by simp)
theorem woR_f4 {K : Nat → Nat} {word : Nat} {s : Rws} (h : s.1 < 4) : (woR K word s).1 < 4 := by
  unfold woR
  repeat' split
  all_goals first | exact h | exact (by decide : 0 < 4) | exact (by decide : 1 < 4)
theorem nu1_f4 {K : Nat → Nat} {V : Nat → Int32} {lo hi : Int32} {s : Rws} (h : s.1 < 4) : (nu1 K V lo hi s).1 < 4 := by
  unfold nu1
  repeat' split
  all_goals first | exact h | exact (by decide : 0 < 4) | exact (by decide : 1 < 4) | exact (by decide : 2 < 4)
theorem nu2_f4 {K : Nat → Nat} {V : Nat → Int32} {lo hi : Int32} {al : Bool} {s : Rws} (h : s.1 < 4) : (nu2 K V al lo hi s).1 < 4 := by
  unfold nu2
  repeat' split
  all_goals first | exact h | exact (by decide : 0 < 4) | exact (by decide : 1 < 4) | exact (by decide : 2 < 4)
theorem rowS_f4 {K : Nat → Nat} {V : Nat → Int32} {hH hD : Int32} {s : Rws} (h : s.1 < 4) : (rowS K V hH hD k k0 s).1 < 4 := by
  unfold rowS
  split
  · refine woR_f4 ?_
    split
    · exact nu2_f4 (woR_f4 (nu1_f4 h))
    · split
      · exact nu1_f4 h
      · split
        · exact nu1_f4 h
        · exact nu1_f4 h
  · split
    · exact woR_f4 (nu2_f4 (woR_f4 (nu1_f4 h)))
    · exact woR_f4 (nu2_f4 (woR_f4 (nu1_f4 h)))
theorem tpS_f4 {K : Nat → Nat} {V : Nat → Int32} {hH hD : Int32} (h : s.1 < 4) : (tpS K V hH hD k s).1 < 4 := by
  unfold tpS
  split
  · exact h
  · split
    · exact (by decide : 1 < 4)
    · split
      · exact (by decide : 3 < 4)
      · split
        · dsimp only
          exact lnM_f4 (K := K) (V := V)
        · exact rowS_f4 (by simp)
theorem itt_f4 {K : Nat → Nat} {V : Nat → Int32} {hH hD : Int32} : ∀ (c : Nat) (s : Ts), s.1 < 4 → (itt (tpS K V hH hD k) c s).1 < 4
  | 0, _, h => h
  | c + 1, s, h => itt_f4 c _ (tpS_f4 h)
theorem itt_s {F : Ts → Ts} (i : Nat) : itt F (i + 1) s = F (itt F i s) := itt_add i 1 s
theorem w_read (hN : 20000 ≤ N) (hF : Fx m) (h : BT m B n) (hk : k ≤ 3) :
    Wp (f_X6_read N (nI k) h1 d1 m) (fun _ m' => ∃ M c, Mt B n M ∧ fnl (tkK B n) (itt (tpS (tkK B n) (tkV B n) (h1 - nI 1) (d1 - nI 1) k) c (0, 0, [], [])) ∧
      TxC B n M h1 d1 m m' (itt (tpS (tkK B n) (tkV B n) (h1 - nI 1) (d1 - nI 1) k) c (0, 0, [], []))) := by
  unfold f_X6_read
  simp only [li_0, li_1, li_2, li_3, li_4, li_5, li_6, li_7, li_8, li_9, li_10, li_11, li_12, li_13, li_14, li_15, li_16, li_17, li_18, li_19, li_20, li_21, li_22, li_23, li_24, li_25, li_26, li_27, li_28, li_29, li_30, li_31, li_32, li_37, li_38, li_39, li_40, li_41, li_42, li_43, li_44, li_45, li_46, li_47, li_48, li_49, li_50, li_57, li_59, li_60, li_61, li_62, li_63, li_64, li_65, li_69, li_81, li_89, li_90, li_92, li_97, li_99, li_100, li_101, li_103, li_104, li_105, li_106, li_108, li_111, li_112, li_113, li_114, li_115, li_116, li_117, li_119, li_122, li_123, li_124, li_125, li_126, li_127, li_128, li_129, li_130, li_131, li_132, li_133, li_134, li_135, li_136, li_137, li_140, li_141, li_142, li_143, li_145, li_147, li_150, li_153, li_159, li_160, li_161, li_162, li_185, li_197, li_213, li_222, li_223, li_255, li_256, li_257, li_258, li_259, li_260, li_261, li_262, li_263, li_264, li_271, li_272, li_273, li_274, li_275, li_276, li_277, li_278, li_300, li_400, li_420, li_500, li_802, li_820, li_823, li_839, li_855, li_871, li_887, li_999, li_1000, li_1001, li_1002, li_1003, li_1004, li_1005, li_1006, li_1007, li_1008, li_1009, li_1010, li_1011, li_1012, li_1013, li_1014, li_1015, li_1016, li_1017, li_1018, li_1019, li_1020, li_1021, li_1022, li_1023, li_1707, li_4096, li_9999, li_65536, li_100000, li_1000000, li_1664525, li_100000000, li_252645135, li_858993459, li_1000000007, li_1013904223, li_1431655765, li_m1]
  rw [bnd_s, bnd_s, bnd_s, bnd_s, bnd_s, bnd_s, e_within, bd_s, rng_is (by omega) (by omega) (by omega), decide_eq_true (⟨Nat.zero_le _, hk⟩ : 0 ≤ k ∧ k ≤ 3), if_neg (by decide)]
  have hF1 : Fx (mset (mset (mset (mset (mset (mset m 103 3 (nI 0)) 103 4 mo1) 104 3 (nI 0)) 106 3 (nI 0)) 103 10 h1) 103 11 d1) := (((((hF.out (by decide)).out (by decide)).set (by decide)).set (by decide)).out (by decide)).out (by decide)
  have e : ∀ x, x ≠ 103 → x ≠ 104 → x ≠ 106 → mset (mset (mset (mset (mset (mset m 103 3 (nI 0)) 103 4 mo1) 104 3 (nI 0)) 106 3 (nI 0)) 103 10 h1) 103 11 d1 x = m x := fun x x1 x2 x3 => by
    rw [mset_ne x1, mset_ne x1, mset_ne x3, mset_ne x2, mset_ne x1, mset_ne x1]
  have e2 : ∀ m1, m1 = mset (mset (mset (mset (mset (mset m 103 3 (nI 0)) 103 4 mo1) 104 3 (nI 0)) 106 3 (nI 0)) 103 10 h1) 103 11 d1 → m1 104 3 = nI 0 ∧ m1 106 3 = nI 0 ∧ m1 103 3 = nI 0 ∧ m1 103 4 = mo1 ∧ m1 103 10 = h1 ∧ m1 103 11 = d1 := by
    rintro m1 rfl
    refine ⟨?_, ?_, ?_, ?_, ?_, mset_at _ _ _ _⟩
    · rw [mset_k (by decide), mset_k (by decide), mset_k (by decide), mset_at]
    · rw [mset_k (by decide), mset_k (by decide), mset_at]
    · rw [mset_j (by decide), mset_j (by decide), mset_k (by decide), mset_k (by decide), mset_j (by decide), mset_at]
    · rw [mset_j (by decide), mset_j (by decide), mset_k (by decide), mset_k (by decide), mset_at]
    · rw [mset_j (by decide), mset_at]
  have e2 := e2 _ rfl
  revert hF1 e e2
  generalize mset (mset (mset (mset (mset (mset m 103 3 (nI 0)) 103 4 mo1) 104 3 (nI 0)) 106 3 (nI 0)) 103 10 h1) 103 11 d1 = m1
  intro hF1 e e2
  obtain ⟨e3, e4, e5, e6, e7, e8⟩ := e2
  refine wp_bind (w_scan hN hF1 (h.cg (e 99 (by decide) (by decide) (by decide)) (e 100 (by decide) (by decide) (by decide)))) ?_
  rintro _ m2 ⟨M, hM, c1, c2, c3⟩
  have hM4 := hM.1
  have f2 : ∀ x, x ≠ 99 → x ≠ 101 → x ≠ 102 → m2 x = m1 x := fun x x1 x2 x3 => c2 x (fun p hp => by
    rcases List.mem_cons.mp hp with rfl | hp
    · show x < 99 ∨ 99 < x; omega
    · rw [List.mem_singleton.mp hp]; show x < 101 ∨ 102 < x; omega)
  have h0 : TxC B n M h1 d1 m m2 (0, 0, [], []) := by
    refine ⟨⟨c1, Nat.zero_le _⟩, c3, ?_, fun r p hp => by simp at hp, ?_, by simp, fun i q hq => by simp at hq, ?_, ⟨fun z => absurd rfl z, fun _ => ?_⟩, ?_, ?_, by simp, ?_⟩
    · rw [f2 106 (by decide) (by decide) (by decide)]; exact e4
    · rw [f2 104 (by decide) (by decide) (by decide)]; exact e3
    · rw [f2 103 (by decide) (by decide) (by decide)]; exact e5
    · rw [f2 103 (by decide) (by decide) (by decide)]; exact e6
    · rw [f2 103 (by decide) (by decide) (by decide)]; exact e7
    · rw [f2 103 (by decide) (by decide) (by decide)]; exact e8
    · intro x hx
      rw [f2 x (by omega) (by omega) (by omega), e x (by omega) (by omega) (by omega)]
  refine wp_it1 (fun q a m' => ∃ i, i ≤ 401 ∧ q = 401 - i ∧ a = nI i ∧ TxC B n M h1 d1 m m' (itt (tpS (tkK B n) (tkV B n) (h1 - nI 1) (d1 - nI 1) k) i (0, 0, [], [])) ∧ ((itt (tpS (tkK B n) (tkV B n) (h1 - nI 1) (d1 - nI 1) k) i (0, 0, [], [])).1 = 0 → i ≤ (itt (tpS (tkK B n) (tkV B n) (h1 - nI 1) (d1 - nI 1) k) i (0, 0, [], [])).2.1)) ?_ N 401 _ _ (by omega)
    ⟨0, by omega, rfl, rfl, h0, fun _ => Nat.zero_le _⟩
  rintro q X a m3 ⟨i, hi, rfl, rfl, g1, g2⟩ hX
  have fin : fnl (tkK B n) (itt (tpS (tkK B n) (tkV B n) (h1 - nI 1) (d1 - nI 1) k) i (0, 0, [], [])) → Wp (some (nI 0, m3)) (fun _ m' => ∃ M c, Mt B n M ∧ fnl (tkK B n) (itt (tpS (tkK B n) (tkV B n) (h1 - nI 1) (d1 - nI 1) k) c (0, 0, [], [])) ∧
      TxC B n M h1 d1 m m' (itt (tpS (tkK B n) (tkV B n) (h1 - nI 1) (d1 - nI 1) k) c (0, 0, [], []))) := fun z => wp_ret ⟨M, i, hM, z, g1⟩
  have nxt : i < 401 → ¬ fnl (tkK B n) (itt (tpS (tkK B n) (tkV B n) (h1 - nI 1) (d1 - nI 1) k) i (0, 0, [], [])) → ∀ m4, TxC B n M h1 d1 m m4 (tpS (tkK B n) (tkV B n) (h1 - nI 1) (d1 - nI 1) k (itt (tpS (tkK B n) (tkV B n) (h1 - nI 1) (d1 - nI 1) k) i (0, 0, [], []))) →
      Wp (X (nI i + nI 1) m4) (fun _ m' => ∃ M c, Mt B n M ∧ fnl (tkK B n) (itt (tpS (tkK B n) (tkV B n) (h1 - nI 1) (d1 - nI 1) k) c (0, 0, [], [])) ∧ TxC B n M h1 d1 m m' (itt (tpS (tkK B n) (tkV B n) (h1 - nI 1) (d1 - nI 1) k) c (0, 0, [], []))) := by
    intro hi2 hnf m4 h4
    rw [nI_up]
    refine hX (401 - (i + 1)) _ _ (by omega) ⟨i + 1, by omega, rfl, rfl, by rw [itt_s]; exact h4, fun z => ?_⟩
    rw [itt_s] at z ⊢
    have g3 : (itt (tpS (tkK B n) (tkV B n) (h1 - nI 1) (d1 - nI 1) k) i (0, 0, [], [])).1 = 0 := Decidable.by_contra fun y => hnf (Or.inl y)
    have := g2 g3
    have up := tpS_up (k := k) (V := tkV B n) (hH := h1 - nI 1) (hD := d1 - nI 1) hnf z
    exact Nat.le_trans (Nat.succ_le_succ this) up
  have g4 := itt_f4 (k := k) (K := tkK B n) (V := tkV B n) (hH := h1 - nI 1) (hD := d1 - nI 1) i (0, 0, [], []) (by simp)
  revert fin nxt g4 g2 g1
  generalize itt (tpS (tkK B n) (tkV B n) (h1 - nI 1) (d1 - nI 1) k) i (0, 0, [], []) = u
  intro g1 g2 fin nxt g4
  obtain ⟨f, j, C, R⟩ := u
  obtain ⟨k1, k3⟩ := g1.K
  have hj : j ≤ M := g1.1.2
  have hf : m3 103 3 = nI f := g1.2.2.2.2.2.2.2.1
  unfold f_X6_read_L56
  simp only [li_0, li_1, li_2, li_3, li_4, li_5, li_6, li_7, li_8, li_9, li_10, li_11, li_12, li_13, li_14, li_15, li_16, li_17, li_18, li_19, li_20, li_21, li_22, li_23, li_24, li_25, li_26, li_27, li_28, li_29, li_30, li_31, li_32, li_37, li_38, li_39, li_40, li_41, li_42, li_43, li_44, li_45, li_46, li_47, li_48, li_49, li_50, li_57, li_59, li_60, li_61, li_62, li_63, li_64, li_65, li_69, li_81, li_89, li_90, li_92, li_97, li_99, li_100, li_101, li_103, li_104, li_105, li_106, li_108, li_111, li_112, li_113, li_114, li_115, li_116, li_117, li_119, li_122, li_123, li_124, li_125, li_126, li_127, li_128, li_129, li_130, li_131, li_132, li_133, li_134, li_135, li_136, li_137, li_140, li_141, li_142, li_143, li_145, li_147, li_150, li_153, li_159, li_160, li_161, li_162, li_185, li_197, li_213, li_222, li_223, li_255, li_256, li_257, li_258, li_259, li_260, li_261, li_262, li_263, li_264, li_271, li_272, li_273, li_274, li_275, li_276, li_277, li_278, li_300, li_400, li_420, li_500, li_802, li_820, li_823, li_839, li_855, li_871, li_887, li_999, li_1000, li_1001, li_1002, li_1003, li_1004, li_1005, li_1006, li_1007, li_1008, li_1009, li_1010, li_1011, li_1012, li_1013, li_1014, li_1015, li_1016, li_1017, li_1018, li_1019, li_1020, li_1021, li_1022, li_1023, li_1707, li_4096, li_9999, li_65536, li_100000, li_1000000, li_1664525, li_100000000, li_252645135, li_858993459, li_1000000007, li_1013904223, li_1431655765, li_m1]
  by_cases hf0 : f = 0
  · subst hf0
    have g2 : i ≤ j := g2 rfl
    rw [if_neg (nI_nlt (by omega) (by omega)), k1]
    by_cases hK : tkK B n j = 0
    · rw [if_pos (by rw [hK])]
      exact fin (Or.inr hK)
    · rw [if_neg (nI_ne hK (by omega) (by omega)), if_pos hf]
      refine wp_bind (w_lineC hN hM hk g1 hK) ?_
      intro _ m4 h4
      exact nxt (by omega) (fun z => z.elim (fun y => y rfl) hK) m4 h4
  · have hne : ¬ m3 103 3 = nI 0 := by
      rw [hf]
      exact nI_ne hf0 (by omega) (by omega)
    refine wp_ite (fun z => fin (Or.inl hf0)) (fun z => wp_ite (fun z => fin (Or.inl hf0)) (fun z => wp_ite (fun z => absurd z hne) (fun z => fin (Or.inl hf0))))
end RALL
