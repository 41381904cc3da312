/-! text: the pair -/
section PRTEXT
variable {N : Nat} {m m1 m' m2 m3 m5 : Mem} {w w' : Arr} {LN LN' : List Lin} {a : Int32}
theorem Inv.txt (h : Inv m) (H : HRep 2 LN' (m5 124) m5) (G : Good LN' (m5 124)) (P : PastR (m5 124) m5) (hk : ∀ k, k = 0 ∨ (25 ≤ k ∧ k ≤ 47) ∨ k = 125 → m5 k = m k) (h99 : m5 99 2 = nI 0) (h16 : m5 123 16 = nI 0) (hF : FltR m5) (h113 : m5 113 4 = m 113 4) (h5 : m5 123 5 = m 123 5) : Inv m5 := by
  obtain ⟨LN0, -, -, -, hI, -, -, h4⟩ := h
  refine ⟨LN', H, G, P, ?_, ⟨0, by decide, h99, h16, fun i hi => absurd hi (by omega)⟩, hF, by rw [h113]; exact h4⟩
  unfold ImgR at hI ⊢
  rw [hk 0 (by omega), h5, hk 125 (by omega)]
  rcases hI with hI | ⟨a, b, L1, H1, G1⟩
  · exact Or.inl hI
  · exact Or.inr ⟨a, b, L1, H1.cg G1.1.sml H.fx (fun k a b => hk k (by omega)) (fun _ _ _ _ => rfl), G1⟩
theorem pr_text (hN : 20000 ≤ N) : Pr (f_X11_text N a) (f_X12_text N a) := by
  intro m hI
  obtain ⟨LN, H, G, P, hIm, ⟨n, hn, h99, h16, hb⟩, hF, h4⟩ := id hI
  have lz := G.1.lzh
  cases hq : decide (nI 0 ≤ a ∧ a ≤ nI 3) with
  | false =>
    unfold f_X11_text f_X6_read
    simp only [li_0, li_1, li_2, li_3, li_4, li_5, li_6, li_7, li_8, li_9, li_10, li_11, li_12, li_13, li_14, li_15, li_16, li_17, li_18, li_19, li_20, li_21, li_22, li_23, li_24, li_25, li_26, li_27, li_28, li_29, li_30, li_31, li_32, li_37, li_38, li_39, li_40, li_41, li_42, li_43, li_44, li_45, li_46, li_47, li_48, li_49, li_50, li_57, li_59, li_60, li_61, li_62, li_63, li_64, li_65, li_69, li_81, li_89, li_90, li_92, li_97, li_99, li_100, li_101, li_103, li_104, li_105, li_106, li_108, li_111, li_112, li_113, li_114, li_115, li_116, li_117, li_119, li_122, li_123, li_124, li_125, li_126, li_127, li_128, li_129, li_130, li_131, li_132, li_133, li_134, li_135, li_136, li_137, li_140, li_141, li_142, li_143, li_145, li_147, li_150, li_153, li_159, li_160, li_161, li_162, li_185, li_197, li_213, li_222, li_223, li_255, li_256, li_257, li_258, li_259, li_260, li_261, li_262, li_263, li_264, li_271, li_272, li_273, li_274, li_275, li_276, li_277, li_278, li_300, li_400, li_420, li_500, li_802, li_820, li_823, li_839, li_855, li_871, li_887, li_999, li_1000, li_1001, li_1002, li_1003, li_1004, li_1005, li_1006, li_1007, li_1008, li_1009, li_1010, li_1011, li_1012, li_1013, li_1014, li_1015, li_1016, li_1017, li_1018, li_1019, li_1020, li_1021, li_1022, li_1023, li_1707, li_4096, li_9999, li_65536, li_100000, li_1000000, li_1664525, li_100000000, li_252645135, li_858993459, li_1000000007, li_1013904223, li_1431655765, li_m1]
    rw [bnd_s, bnd_s, bnd_s, bnd_s, bnd_s, bnd_s, e_within, bd_s, hq, if_pos (by decide), bd_s, bnd_s, e_within, bd_s, hq, if_pos (by decide)]
    refine wp_ret ?_
    unfold f_X12_text
    simp only [li_0, li_1, li_2, li_3, li_4, li_5, li_6, li_7, li_8, li_9, li_10, li_11, li_12, li_13, li_14, li_15, li_16, li_17, li_18, li_19, li_20, li_21, li_22, li_23, li_24, li_25, li_26, li_27, li_28, li_29, li_30, li_31, li_32, li_37, li_38, li_39, li_40, li_41, li_42, li_43, li_44, li_45, li_46, li_47, li_48, li_49, li_50, li_57, li_59, li_60, li_61, li_62, li_63, li_64, li_65, li_69, li_81, li_89, li_90, li_92, li_97, li_99, li_100, li_101, li_103, li_104, li_105, li_106, li_108, li_111, li_112, li_113, li_114, li_115, li_116, li_117, li_119, li_122, li_123, li_124, li_125, li_126, li_127, li_128, li_129, li_130, li_131, li_132, li_133, li_134, li_135, li_136, li_137, li_140, li_141, li_142, li_143, li_145, li_147, li_150, li_153, li_159, li_160, li_161, li_162, li_185, li_197, li_213, li_222, li_223, li_255, li_256, li_257, li_258, li_259, li_260, li_261, li_262, li_263, li_264, li_271, li_272, li_273, li_274, li_275, li_276, li_277, li_278, li_300, li_400, li_420, li_500, li_802, li_820, li_823, li_839, li_855, li_871, li_887, li_999, li_1000, li_1001, li_1002, li_1003, li_1004, li_1005, li_1006, li_1007, li_1008, li_1009, li_1010, li_1011, li_1012, li_1013, li_1014, li_1015, li_1016, li_1017, li_1018, li_1019, li_1020, li_1021, li_1022, li_1023, li_1707, li_4096, li_9999, li_65536, li_100000, li_1000000, li_1664525, li_100000000, li_252645135, li_858993459, li_1000000007, li_1013904223, li_1431655765, li_m1]
    rw [bnd_s, bnd_s, e_isIn, bd_s, hq, if_pos (by decide), bnd_s]
    refine wp_ret ⟨rfl, ?_⟩
    have e : ∀ m5 : Mem, m5 = mset (mset (mset (mset (mset (mset (mset (mset (mset (mset m 103 3 (nI 0)) 103 4 mo1) 104 3 (nI 0)) 106 3 (nI 0)) 103 10 (m 3 3)) 103 11 (m 5 3)) 99 2 (nI 0)) 123 23 (nI 0)) 123 25 mo1) 123 16 (nI 0) → Inv m5 := by
      rintro m5 rfl
      have f : Fr [(99, 99), (103, 104), (106, 106), (123, 123)] m (mset (mset (mset (mset (mset (mset (mset (mset (mset (mset m 103 3 (nI 0)) 103 4 mo1) 104 3 (nI 0)) 106 3 (nI 0)) 103 10 (m 3 3)) 103 11 (m 5 3)) 99 2 (nI 0)) 123 23 (nI 0)) 123 25 mo1) 123 16 (nI 0)) :=
        Fr.set (Fr.set (Fr.set (Fr.set (Fr.set (Fr.set (Fr.set (Fr.set (Fr.set (Fr.set Fr.rf (by decide)) (by decide)) (by decide)) (by decide)) (by decide)) (by decide)) (by decide)) (by decide)) (by decide)) (by decide)
      have hFx : Fx (mset (mset (mset (mset (mset (mset (mset (mset (mset (mset m 103 3 (nI 0)) 103 4 mo1) 104 3 (nI 0)) 106 3 (nI 0)) 103 10 (m 3 3)) 103 11 (m 5 3)) 99 2 (nI 0)) 123 23 (nI 0)) 123 25 mo1) 123 16 (nI 0)) :=
        (((((((((H.fx.out (by decide)).out (by decide)).set (by decide)).set (by decide)).out (by decide)).out (by decide)).out (by decide)).out (by decide)).out (by decide)).out (by decide)
      have g1 : ∀ c, c = 4 ∨ c = 5 → (mset (mset (mset (mset (mset (mset (mset (mset (mset (mset m 103 3 (nI 0)) 103 4 mo1) 104 3 (nI 0)) 106 3 (nI 0)) 103 10 (m 3 3)) 103 11 (m 5 3)) 99 2 (nI 0)) 123 23 (nI 0)) 123 25 mo1) 123 16 (nI 0)) 123 c = m 123 c := fun c hc => by
        rw [mset_j (by omega), mset_j (by omega), mset_j (by omega), mset_k (by decide), mset_k (by decide), mset_k (by decide), mset_k (by decide), mset_k (by decide), mset_k (by decide), mset_k (by decide)]
      have g2 : FltR (mset (mset (mset (mset (mset (mset (mset (mset (mset (mset m 103 3 (nI 0)) 103 4 mo1) 104 3 (nI 0)) 106 3 (nI 0)) 103 10 (m 3 3)) 103 11 (m 5 3)) 99 2 (nI 0)) 123 23 (nI 0)) 123 25 mo1) 123 16 (nI 0)) := by
        constructor
        · rw [mset_k (by decide), mset_k (by decide), mset_k (by decide), mset_k (by decide), mset_j (by decide), mset_j (by decide), mset_k (by decide), mset_k (by decide), mset_j (by decide), mset_at, mset_j (by decide), mset_j (by decide), mset_at]
        · rw [mset_k (by decide), mset_k (by decide), mset_k (by decide), mset_k (by decide), mset_j (by decide), mset_j (by decide), mset_k (by decide), mset_k (by decide), mset_at, mset_j (by decide), mset_at]
      have g3 : (mset (mset (mset (mset (mset (mset (mset (mset (mset (mset m 103 3 (nI 0)) 103 4 mo1) 104 3 (nI 0)) 106 3 (nI 0)) 103 10 (m 3 3)) 103 11 (m 5 3)) 99 2 (nI 0)) 123 23 (nI 0)) 123 25 mo1) 123 16 (nI 0)) 99 2 = nI 0 := by
        rw [mset_k (by decide), mset_k (by decide), mset_k (by decide), mset_at]
      have g4 : (mset (mset (mset (mset (mset (mset (mset (mset (mset (mset m 103 3 (nI 0)) 103 4 mo1) 104 3 (nI 0)) 106 3 (nI 0)) 103 10 (m 3 3)) 103 11 (m 5 3)) 99 2 (nI 0)) 123 23 (nI 0)) 123 25 mo1) 123 16 (nI 0)) 123 16 = nI 0 := mset_at _ _ _ _
      revert f hFx g1 g2 g3 g4
      generalize mset (mset (mset (mset (mset (mset (mset (mset (mset (mset m 103 3 (nI 0)) 103 4 mo1) 104 3 (nI 0)) 106 3 (nI 0)) 103 10 (m 3 3)) 103 11 (m 5 3)) 99 2 (nI 0)) 123 23 (nI 0)) 123 25 mo1) 123 16 (nI 0) = m5
      intro f hFx g1 g2 g3 g4
      have e124 : m5 124 = m 124 := f.at 124 (by decide)
      have lo : ∀ x, x < 99 → m5 x = m x := fun x hx => f x (fun p hp => by
        simp only [List.mem_cons, List.mem_nil_iff, or_false] at hp
        rcases hp with rfl | rfl | rfl | rfl
        all_goals simp only
        all_goals omega)
      refine hI.txt (LN' := LN) ?_ (by rw [e124]; exact G) ?_ (fun k hk => ?_) g3 g4 g2 (by rw [f.at 113 (by decide)]) (g1 5 (Or.inr rfl))
      · rw [e124]
        exact H.cg G.1.sml hFx (fun k a b => lo k (by omega)) (fun _ _ _ _ => rfl)
      · rw [e124]
        exact P.cg G.1 (fun k a b => lo k (by omega)) ⟨by rw [lo 48 (by decide)], by rw [lo 48 (by decide)]⟩ (g1 4 (Or.inl rfl)) (f.at 126 (by decide)) (fun _ _ => rfl)
      · by_cases e : k = 125
        · subst e; exact f.at 125 (by decide)
        · exact lo k (by omega)
    exact e _ rfl
  | true =>
    obtain ⟨k, -, hk, rfl⟩ := rng_of (by decide) (by decide) hq
    obtain ⟨B, hB0⟩ : ∃ B : Nat → Nat, ∀ i, i < n → B i < 256 ∧ m 100 i = nI (B i) ∧ m 131 i = nI (B i) := by
      refine ⟨fun i => nv (m 100 i), fun i hi => ?_⟩
      obtain ⟨b, b1, b2, b3⟩ := hb i hi
      have e : nv (m 100 i) = b := by rw [b2, nv_nI (by omega)]
      dsimp only
      rw [e]
      exact ⟨b1, b2, b3⟩
    have hB : ∀ i, i < n → B i < 256 := fun i hi => (hB0 i hi).1
    have hBT : BT m B n := ⟨h99, hn, fun i hi => (hB0 i hi).2.1, hB⟩
    have hb131 : ∀ i, i < n → m 131 i = nI (B i) := fun i hi => (hB0 i hi).2.2
    have h37 : m 124 37 = nI (zh (m 124)) := G.1.h37
    have h53 : m 5 3 = m 124 38 := H.dee.1
    refine wp_mono (w_textC (z := zh (m 124)) hN H.fx hBT hk (H.hea.1.trans h37) lz) ?_
    rintro v m3 ⟨M, c, u, hM, hu, hfn, hF3, hi, e99, e1033, e1034, hcase⟩
    have e124 : m3 124 = m 124 := hi 124 (by decide)
    have e123 : m3 123 = m 123 := hi 123 (by decide)
    refine wp_mono (w_textM (z := zh (m 124)) (hH := nI (zh (m 124)) - nI 1) (hD := m 5 3 - nI 1) hN hM hk (by rw [e123]; exact h16) hn (fun i hi2 => by rw [hi 131 (by decide)]; exact hb131 i hi2) hB (by rw [e124]; exact h37) lz rfl (by rw [e124, h53])) ?_
    rintro v5 m5 ⟨⟨f1, f16, f5⟩, hc2⟩
    rw [e123] at f5
    have lo5 : ∀ x, x < 110 → m5 x = m3 x := fun x hx => f1 x (by omega) (by omega) (by omega) (by omega) (by omega)
    have hi5 : ∀ x, 109 < x → x ≠ 123 → x ≠ 124 → x ≠ 128 → x ≠ 129 → x ≠ 130 → m5 x = m x := fun x hx x1 x2 x3 x4 x5 => by rw [f1 x x1 x2 x3 x4 x5, hi x hx]
    have hF5 : Fx m5 := hF3.of (fun p hp j _ => by
      have : ∀ p ∈ tbs, p.1 < 110 ∨ p.1 = 117 ∨ p.1 = 119 := by decide
      rcases this p hp with q | q | q
      · rw [lo5 _ q]
      · rw [q, f1 117 (by decide) (by decide) (by decide) (by decide) (by decide)]
      · rw [q, f1 119 (by decide) (by decide) (by decide) (by decide) (by decide)])
    rcases hcase with ⟨u0, rfl, low⟩ | ⟨u0, rfl, uR, hT⟩
    · rcases hc2 with ⟨rfl, ⟨c', g1, g2, g3, g4⟩, g5, g6⟩ | ⟨c', j', C', R', g1, g2, -⟩
      · refine ⟨rfl, ?_⟩
        have eu := itt_one g1 (hu ▸ hfn)
        rw [← hu] at eu
        rw [eu] at g3 g4
        have w5 : m5 124 = m 124 := g5.trans e124
        have lo : ∀ x, x < 99 → m5 x = m x := fun x hx => by rw [lo5 x (by omega), low x hx]
        refine hI.txt (LN' := LN) ?_ (by rw [w5]; exact G) ?_ (fun k hk => ?_) (by rw [lo5 99 (by decide)]; exact e99) f16 ⟨by rw [lo5 103 (by decide), e1033, g3], by rw [lo5 103 (by decide), e1034.1 u0, g4]⟩ (by rw [hi5 113 (by decide) (by decide) (by decide) (by decide) (by decide) (by decide)]) f5
        · rw [w5]
          exact H.cg G.1.sml hF5 (fun k a b => lo k (by omega)) (fun _ _ _ _ => rfl)
        · rw [w5]
          exact P.cg G.1 (fun k a b => lo k (by omega)) ⟨by rw [lo 48 (by decide)], by rw [lo 48 (by decide)]⟩ (by rw [g6, e123]) (hi5 126 (by decide) (by decide) (by decide) (by decide) (by decide) (by decide)) (fun _ _ => rfl)
        · by_cases e : k = 125
          · subst e; exact hi5 125 (by decide) (by decide) (by decide) (by decide) (by decide) (by decide)
          · exact lo k (by omega)
      · exfalso
        have hf' : fnl (tkK B n) (itt (tpS (tkK B n) (tkV B n) (nI (zh (m 124)) - nI 1) (m 5 3 - nI 1) k) c' (0, 0, [], [])) := by rw [g1]; exact Or.inr g2
        have eu := itt_one hf' (hu ▸ hfn)
        rw [← hu, g1] at eu
        rw [← eu] at u0
        exact u0 rfl
    · rcases hc2 with ⟨rfl, ⟨c', g1, g2, g3, g4⟩, g5, g6⟩ | ⟨c', j', C', R', g1, g2, rfl, g3, g4, g5, g6⟩
      · exfalso
        have eu := itt_one g1 (hu ▸ hfn)
        rw [← hu] at eu
        rw [eu] at g2
        exact g2 u0
      · have hf' : fnl (tkK B n) (itt (tpS (tkK B n) (tkV B n) (nI (zh (m 124)) - nI 1) (m 5 3 - nI 1) k) c' (0, 0, [], [])) := by rw [g1]; exact Or.inr g2
        have eu := itt_one hf' (hu ▸ hfn)
        rw [← hu, g1] at eu
        clear hu hfn hf' g1
        subst eu
        simp only at hT uR e1033 e1034
        refine ⟨rfl, ?_⟩
        have flt5 : FltR m5 := ⟨by rw [lo5 103 (by decide), e1033, g4], by rw [lo5 103 (by decide), e1034.2 trivial, g5]⟩
        have h125 : m5 125 = m 125 := hi5 125 (by decide) (by decide) (by decide) (by decide) (by decide) (by decide)
        have h113 : m5 113 4 = m 113 4 := by rw [hi5 113 (by decide) (by decide) (by decide) (by decide) (by decide) (by decide)]
        have h126 : m5 126 = m 126 := hi5 126 (by decide) (by decide) (by decide) (by decide) (by decide) (by decide)
        have t99 : m5 99 2 = nI 0 := by rw [lo5 99 (by decide)]; exact e99
        obtain ⟨x0, y0, hw0, hw4, hxy, hx0⟩ := G.2.1
        rcases hT with ⟨rfl, t1, t2, t3, t4, t5⟩ | ⟨k0, t1, t2, t3, t4⟩
        · rcases g6 with ⟨-, r1, LN', r2, r3, r4, r5, r6⟩ | ⟨z, -⟩ | ⟨z, -⟩ | ⟨z, -⟩
          · have lo : ∀ x, x < 99 → x ≠ 11 → x ≠ 12 → x ≠ 13 → x ≠ 14 → m5 x = m x := fun x x0 x1 x2 x3 x4 => by rw [lo5 x (by omega), t1 x x0 x1 x2 x3 x4]
            have ew : ∀ i, i ≠ 40 → i < 823 → m5 124 i = m 124 i := fun i i1 i2 => by rw [r4 i i1 i2, e124]
            refine hI.txt (LN' := LN') (H.law G.1.sml hF5 (fun x x1 x2 x3 x4 x5 x6 => lo x (by omega) x3 x4 x5 x6) ew (lawC_of (t2.cg (lo5 11 (by decide)) (lo5 12 (by decide))) (by rw [lo5 13 (by decide)]; exact t3) t4 (by rw [lo5 14 (by decide)]; exact t5) r5 r6) r3) ⟨G.1.cg (fun i hi => ?_), ⟨x0, y0, by rw [ew 0 (by decide) (by decide)]; exact hw0, by rw [ew 4 (by decide) (by decide)]; exact hw4, hxy, hx0⟩, r2⟩
              (P.cg G.1 (fun k a b => lo k (by omega) (by omega) (by omega) (by omega) (by omega)) ⟨by rw [lo 48 (by decide) (by decide) (by decide) (by decide) (by decide)], by rw [lo 48 (by decide) (by decide) (by decide) (by decide) (by decide)]⟩ (by rw [r1, e123]) h126 (fun i hi => ew i (by omega) (by omega))) (fun k hk => ?_) t99 f16 flt5 h113 f5
            · have : i ≠ 40 ∧ i < 823 := by
                simp [ownF] at hi
                omega
              exact ew i this.1 this.2
            · by_cases e : k = 125
              · subst e; exact h125
              · exact lo k (by omega) (by omega) (by omega) (by omega) (by omega)
          · exact absurd z (by decide)
          · exact absurd z (by decide)
          · exact absurd z (by decide)
        · obtain ⟨kk, p, hk6, hp, p2, p1, p3, -⟩ := P
          -- all of it, when the Moments are forgotten
          have done : HRep 2 LN (m5 124) m5 → WFc (m5 124) → (∀ i, i = 0 ∨ i = 4 ∨ i = 40 ∨ 823 ≤ i → m5 124 i = m 124 i) → m5 123 4 = nI 0 → (∀ x, x < 99 → x ≠ 4 → x ≠ 15 → x ≠ 16 → x ≠ 17 → x ≠ 18 → x ≠ 19 → x ≠ 20 → x ≠ 48 → m5 x = m x) → Inv m5 := by
            intro H' W' ew e4 lo
            refine hI.txt (LN' := LN) H' ⟨W', ⟨x0, y0, by rw [ew 0 (by decide)]; exact hw0, by rw [ew 4 (by decide)]; exact hw4, hxy, hx0⟩, G.2.2.cg (fun i hi => ew i (by omega))⟩ (PastR.zero hp (by rw [lo5 48 (by decide), t2, p1]) (by rw [lo5 48 (by decide), t1]) e4) (fun k hk => ?_) t99 f16 flt5 h113 f5
            by_cases e : k = 125
            · subst e; exact h125
            · exact lo k (by omega) (by omega) (by omega) (by omega) (by omega) (by omega) (by omega) (by omega) (by omega)
          rcases t4 with ⟨rfl, s1, s2, s3, s4⟩ | ⟨rfl, s1, s2⟩ | ⟨rfl, s1, s2, s3, s4⟩
          · rcases g6 with ⟨z, -⟩ | ⟨-, r1, r2, r3, r4⟩ | ⟨z, -⟩ | ⟨z, -⟩
            · exact absurd z (by decide)
            · have lo : ∀ x, x < 99 → x ≠ 4 → x ≠ 15 → x ≠ 16 → x ≠ 48 → m5 x = m x := fun x x0 x1 x2 x3 x4 => by rw [lo5 x (by omega), s1 x x0 x1 x2 x3 x4]
              have ew : ∀ i, i ≠ 41 → (i < 105 ∨ 153 ≤ i) → m5 124 i = m 124 i := fun i i1 i2 => by rw [r3 i i1 i2, e124]
              obtain ⟨H', W'⟩ := tx_sta (m' := m5) (w' := m5 124) (R := R') H G.1 rfl hF5 (fun x x0 x1 => lo x x1) (s2.cg (lo5 15 (by decide)) (lo5 16 (by decide))) g3 (fun h hh => by rw [lo5 4 (by decide)]; exact s3 h hh) (fun h c hh hc => by rw [lo5 4 (by decide)]; exact s4 h c hh hc) (fun q hq => by obtain ⟨hD, v1, -⟩ := t3 q hq; exact ⟨hD, v1⟩) r2 ew r4
              exact done H' W' (fun i hi => ew i (by omega) (by omega)) r1 (fun x x0 x1 x2 x3 x4 x5 x6 x7 x8 => lo x x0 x1 x2 x3 x8)
            · exact absurd z (by decide)
            · exact absurd z (by decide)
          · rcases g6 with ⟨z, -⟩ | ⟨z, -⟩ | ⟨-, r1, r2, r3, r4⟩ | ⟨z, -⟩
            · exact absurd z (by decide)
            · exact absurd z (by decide)
            · have lo : ∀ x, x < 99 → x ≠ 17 → x ≠ 18 → x ≠ 48 → m5 x = m x := fun x x0 x1 x2 x3 => by rw [lo5 x (by omega), s1 x x0 x1 x2 x3]
              have ew : ∀ i, i ≠ 42 → (i < 153 ∨ 185 ≤ i) → m5 124 i = m 124 i := fun i i1 i2 => by rw [r3 i i1 i2, e124]
              obtain ⟨H', W'⟩ := tx_pro (m' := m5) (w' := m5 124) (R := R') (d0 := zd (m 124)) H G.1 rfl hF5 (fun x x0 x1 => lo x x1) (s2.cg (lo5 17 (by decide)) (lo5 18 (by decide))) g3 (fun q hq => by
                obtain ⟨hD, v1, v2⟩ := t3 q hq
                rw [h53, G.1.h38] at v2
                rw [v2] at v1
                exact ⟨_, v1⟩) r2 ew r4
              exact done H' W' (fun i hi => ew i (by omega) (by omega)) r1 (fun x x0 x1 x2 x3 x4 x5 x6 x7 x8 => lo x x0 x4 x5 x8)
            · exact absurd z (by decide)
          · rcases g6 with ⟨z, -⟩ | ⟨z, -⟩ | ⟨z, -⟩ | ⟨-, r1, r2, r3, r4⟩
            · exact absurd z (by decide)
            · exact absurd z (by decide)
            · exact absurd z (by decide)
            · have lo : ∀ x, x < 99 → x ≠ 4 → x ≠ 19 → x ≠ 20 → x ≠ 48 → m5 x = m x := fun x x0 x1 x2 x3 x4 => by rw [lo5 x (by omega), s1 x x0 x1 x2 x3 x4]
              have ew : ∀ i, i ≠ 43 → (i < 185 ∨ 197 ≤ i) → m5 124 i = m 124 i := fun i i1 i2 => by rw [r3 i i1 i2, e124]
              obtain ⟨H', W'⟩ := tx_gal (m' := m5) (w' := m5 124) (R := R') (hD := m 5 3 - nI 1) H G.1 rfl hF5 (fun x x0 x1 => lo x x1) (s2.cg (lo5 19 (by decide)) (lo5 20 (by decide))) g3 (fun h hh => by rw [lo5 4 (by decide)]; exact s3 h hh) (fun h c hh hc hc6 => by rw [lo5 4 (by decide)]; exact s4 h c hh hc hc6) (fun q hq => by
                obtain ⟨hD, v1, v2⟩ := t3 q hq
                rw [v2] at v1
                exact v1) r2 ew r4
              exact done H' W' (fun i hi => ew i (by omega) (by omega)) r1 (fun x x0 x1 x2 x3 x4 x5 x6 x7 x8 => lo x x0 x1 x6 x7 x8)
end PRTEXT
