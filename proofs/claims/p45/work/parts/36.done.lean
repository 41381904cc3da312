/-! HEARERS and DEEDS told; paid, gloves, let; performed, evenings, undone: pairs -/
section DONE
variable {w w' : Arr} {LN : List Lin} {m m' m2 : Mem} {N : Nat}
/-- from the class's keep and the reference's, one behind the other with what the class does between -/
theorem keep_pair {k p : Nat} {m1 m3 : Mem} (hP : PasR k p (m 124) m) (G : Good LN (m 124)) (hM : MomR (50 + 7 * p) (m 124) m1) (e1 : m1 48 1 = nI ((p + 1) % 6)) (e2 : m1 48 2 = nI (min 6 (k + 1))) (hc : ∀ c, c ≠ 48 → (c < 50 + 7 * p ∨ 50 + 7 * p + 6 < c) → m1 c = m c)
    (h3 : ∀ c, 48 ≤ c → c ≤ 91 → m3 c = m1 c) (e4 : m3 123 4 = nI (min 6 (k + 1))) (hs1 : ∀ j, j < 37 → m3 126 (37 * (min 6 (k + 1) - 1) + j) = m 124 j) (hs2 : ∀ i, i + 1 < min 6 (k + 1) → ∀ j, j < 37 → m3 126 (37 * i + j) = m 126 (37 * (i + (if k = 6 then 1 else 0)) + j)) : PasR (min 6 (k + 1)) ((p + 1) % 6) (m 124) m3 := by
  refine hP.kept G.1 G.2.1 (by rw [h3 48 (by omega) (by omega)]; exact e1) (by rw [h3 48 (by omega) (by omega)]; exact e2) e4 (hM.cg G.1.sml (fun c h1 h2 => h3 c (by omega) (by
    have := hP.2.1
    omega)) (fun _ _ => rfl)) (fun c h1 h2 h3' => ?_) hs1 hs2
  rw [h3 c (by omega) h2]
  exact hc c (by omega) h3'
theorem pr_perform {a : Int32} (hN : 20000 ≤ N) : Pr (f_X11_perform N a) (f_X12_perform N a) := by
  intro m hI
  obtain ⟨LN, H, G, ⟨k, p, hP⟩, hIm, hT, hFl, h113⟩ := id hI
  obtain ⟨hk, hp, e2, e1, e3, -⟩ := id hP
  have ld := G.1.lzd
  have hM : ∀ m1 : Mem, m1 124 = m 124 → f_X12_perform N a m1 = if b2i (inb a (zd (m 124))) = nI 0 then some (mo1, m1) else (chk (inb ((89 : Int32) + a) 1707) <|
      if ((m1 124 0) + ((21 : Int32) * (m1 124 ((89 : Int32) + a).toNatClampNeg))) < (9999 : Int32) then (bd (f_X12_keeps N m1) fun _ m_36 => bd (f_X12_does N a m_36) fun r_41 m_41 => some (r_41, m_41)) else (some ((-1), m1))) := by
    intro m1 h1
    unfold f_X12_perform
    rw [e_isDeed h1 G.1, bd_s]
    rfl
  unfold f_X11_perform
  simp only [li_0, li_1, li_2, li_3, li_4, li_5, li_6, li_7, li_8, li_9, li_10, li_11, li_12, li_13, li_14, li_15, li_16, li_17, li_18, li_19, li_20, li_21, li_22, li_23, li_24, li_25, li_26, li_27, li_28, li_29, li_30, li_31, li_32, li_37, li_38, li_39, li_40, li_41, li_42, li_43, li_44, li_45, li_46, li_47, li_48, li_49, li_50, li_57, li_59, li_60, li_61, li_62, li_63, li_64, li_65, li_69, li_81, li_89, li_90, li_92, li_97, li_99, li_100, li_101, li_103, li_104, li_105, li_106, li_108, li_111, li_112, li_113, li_114, li_115, li_116, li_117, li_119, li_122, li_123, li_124, li_125, li_126, li_127, li_128, li_129, li_130, li_131, li_132, li_133, li_134, li_135, li_136, li_137, li_140, li_141, li_142, li_143, li_145, li_147, li_150, li_153, li_159, li_160, li_161, li_162, li_185, li_197, li_213, li_222, li_223, li_255, li_256, li_257, li_258, li_259, li_260, li_261, li_262, li_263, li_264, li_271, li_272, li_273, li_274, li_275, li_276, li_277, li_278, li_300, li_400, li_420, li_500, li_802, li_820, li_823, li_839, li_855, li_871, li_887, li_999, li_1000, li_1001, li_1002, li_1003, li_1004, li_1005, li_1006, li_1007, li_1008, li_1009, li_1010, li_1011, li_1012, li_1013, li_1014, li_1015, li_1016, li_1017, li_1018, li_1019, li_1020, li_1021, li_1022, li_1023, li_1707, li_4096, li_9999, li_65536, li_100000, li_1000000, li_1664525, li_100000000, li_252645135, li_858993459, li_1000000007, li_1013904223, li_1431655765, li_m1]
  rw [hr_hasD H G.1, bd_s]
  rcases inb_cases a (n := zd (m 124)) (by omega) with ⟨e, -⟩ | ⟨d, hd, rfl⟩
  · rw [e, if_pos (by decide)]
    refine wp_ret ?_
    rw [hM m rfl, e, if_pos (by decide)]
    exact wp_ret ⟨rfl, hI⟩
  · rw [inb_nI hd (by omega), if_neg (by decide), hr_hour H (by decide), bd_s, hr_dee H G.1 hd (by decide), bd_s, bnd_s]
    rw [inb_nI hd (by omega)] at hM
    have ec : m 124 (houI 0) + nI 21 * deeV (m 124) d 1 = m 124 0 + nI 21 * m 124 (89 + d) := rfl
    rw [ec]
    have hM2 : ∀ m1 : Mem, m1 124 = m 124 → f_X12_perform N (nI d) m1 = if m 124 0 + nI 21 * m 124 (89 + d) < nI 9999 then (bd (f_X12_keeps N m1) fun _ m_36 => bd (f_X12_does N (nI d) m_36) fun r_41 m_41 => some (r_41, m_41)) else (some (mo1, m1)) := by
      intro m1 h1
      rw [hM m1 h1, if_neg (by decide)]
      simp only [li_0, li_1, li_2, li_3, li_4, li_5, li_6, li_7, li_8, li_9, li_10, li_11, li_12, li_13, li_14, li_15, li_16, li_17, li_18, li_19, li_20, li_21, li_22, li_23, li_24, li_25, li_26, li_27, li_28, li_29, li_30, li_31, li_32, li_37, li_38, li_39, li_40, li_41, li_42, li_43, li_44, li_45, li_46, li_47, li_48, li_49, li_50, li_57, li_59, li_60, li_61, li_62, li_63, li_64, li_65, li_69, li_81, li_89, li_90, li_92, li_97, li_99, li_100, li_101, li_103, li_104, li_105, li_106, li_108, li_111, li_112, li_113, li_114, li_115, li_116, li_117, li_119, li_122, li_123, li_124, li_125, li_126, li_127, li_128, li_129, li_130, li_131, li_132, li_133, li_134, li_135, li_136, li_137, li_140, li_141, li_142, li_143, li_145, li_147, li_150, li_153, li_159, li_160, li_161, li_162, li_185, li_197, li_213, li_222, li_223, li_255, li_256, li_257, li_258, li_259, li_260, li_261, li_262, li_263, li_264, li_271, li_272, li_273, li_274, li_275, li_276, li_277, li_278, li_300, li_400, li_420, li_500, li_802, li_820, li_823, li_839, li_855, li_871, li_887, li_999, li_1000, li_1001, li_1002, li_1003, li_1004, li_1005, li_1006, li_1007, li_1008, li_1009, li_1010, li_1011, li_1012, li_1013, li_1014, li_1015, li_1016, li_1017, li_1018, li_1019, li_1020, li_1021, li_1022, li_1023, li_1707, li_4096, li_9999, li_65536, li_100000, li_1000000, li_1664525, li_100000000, li_252645135, li_858993459, li_1000000007, li_1013904223, li_1431655765, li_m1, nI_add]
      rw [inb_nI (by omega) (by omega), chk_t, nI_clamp (by omega), h1]
    refine wp_ite (fun q => ?_) (fun q => ?_)
    · refine wp_bind (w_keepC H G.1 hk hp e1 e2) ?_
      rintro _ m1 ⟨H1, hMo, g1, g2, gc⟩
      have t1 : m1 113 4 = nI 0 := by rw [gc 113 (by omega) (by omega)]; exact h113
      refine wp_bind (w_doesC (tru := true) hN H1 G.1 G.2.1 (by decide) hd t1) ?_
      rintro _ m2 ⟨rfl, H2, f2, t2⟩
      have e124 : m2 124 = m 124 := by rw [f2.at 124 (by decide), gc 124 (by omega) (by omega)]
      have e123 : m2 123 = m 123 := by rw [f2.at 123 (by decide), gc 123 (by omega) (by omega)]
      have e126 : m2 126 = m 126 := by rw [f2.at 126 (by decide), gc 126 (by omega) (by omega)]
      refine wp_ret ?_
      rw [hM2 m2 e124, if_pos q]
      refine wp_bind (w_keepsM hN e124 hk (by rw [e123]; exact e3)) ?_
      rintro _ m3 ⟨s4, s26, sj, sf, ss1, ss2⟩
      have e124' : m3 124 = m 124 := by rw [sf.at 124 (by decide)]; exact e124
      refine wp_bind (w_doesM (tru := true) hN e124' G.1 G.2.1 (by decide) hd G.2.2 H.lawk s26) ?_
      rintro _ m4 ⟨rfl, h4, j4, f4⟩
      have wf := dosS_wf (LN := LN) (tru := true) (d := d) 21 (m 124) 0 G.1 G.2.1 (by decide) hd
      -- MINUTE stays small: it was looked at before
      have wm : WFm 11258 (dosS LN true d 21 (m 124) 0).1 := by
        obtain ⟨a0, b0, h0, h40, hba, haB⟩ := G.2.1
        obtain ⟨kk, k1, k2, ek⟩ := (G.1.dee hd).2
        rw [h0, ek, pk_mul, nI_add, nI_ltI (by omega) (by decide)] at q
        have := (dosS_wf (LN := LN) (tru := true) (d := d) (B := a0) 21 (m 124) 0 G.1 ⟨a0, b0, h0, h40, hba, Nat.le_refl _⟩ (by omega) hd).2.1
        obtain ⟨x, y, g0, g4, g5, g6⟩ := this
        exact ⟨x, y, g0, g4, g5, by omega⟩
      have hP3 : PasR (min 6 (k + 1)) ((p + 1) % 6) (m 124) m4 := by
        refine keep_pair hP G hMo g1 g2 gc (fun c h1 h2 => ?_) ?_ ?_ ?_
        · rw [f4 c (fun q hq => by
            simp only [List.mem_cons, List.not_mem_nil, or_false] at hq
            rcases hq with rfl | rfl <;> omega), sf c (fun q hq => by
            simp only [List.mem_cons, List.not_mem_nil, or_false] at hq
            rcases hq with rfl | rfl <;> omega), f2 c (fun q hq => by
            simp only [List.mem_cons, List.not_mem_nil, or_false] at hq
            rcases hq with rfl | rfl | rfl <;> omega)]
        · rw [j4 4 (by decide)]; exact s4
        · intro j hj
          rw [f4.at 126 (by decide)]; exact ss1 j hj
        · intro i hi j hj
          rw [f4.at 126 (by decide), ss2 i hi j hj, e126]
      have hk7 : ∀ i, (37 ≤ i ∧ i < 40) ∨ i = 41 ∨ (45 ≤ i ∧ i < 153) ∨ (185 ≤ i ∧ i < 197) → (dosS LN true d 21 (m 124) 0).1 i = m 124 i := fun i hi => dosS_o 21 _ _ (by omega) (by omega) (by omega) (by omega)
      refine wp_ret ⟨rfl, hI.re (LN := LN) (w' := (dosS LN true d 21 (m 124) 0).1) ?_ h4 ⟨wf.1, wm, dosS_law (B := 0) 21 _ 0 G.1 G.2.2 hd⟩ ?_ ?_ ?_ ?_ ?_⟩
      · exact (H2.fr wf.1.sml sf (by decide +kernel)).fr wf.1.sml f4 (by decide +kernel)
      · exact PastR.cg (w := m 124) (m := m4) ⟨_, _, hP3⟩ G.1 (fun _ _ _ => rfl) ⟨rfl, rfl⟩ rfl rfl hk7
      · intro c hcs
        rw [f4 c (fun q hq => by
          simp only [List.mem_cons, List.not_mem_nil, or_false] at hq
          rcases hq with rfl | rfl <;> omega), sf c (fun q hq => by
          simp only [List.mem_cons, List.not_mem_nil, or_false] at hq
          rcases hq with rfl | rfl <;> omega), f2 c (fun q hq => by
          simp only [List.mem_cons, List.not_mem_nil, or_false] at hq
          rcases hq with rfl | rfl | rfl <;> omega), gc c (by omega) (by omega)]
      · rw [f4.at 103 (by decide), sf.at 103 (by decide), f2.at 103 (by decide), gc 103 (by omega) (by omega)]; exact ⟨rfl, rfl⟩
      · rw [f4.at 113 (by decide), sf.at 113 (by decide), t2, gc 113 (by omega) (by omega)]
      · intro j hj
        rw [j4 j (by omega), sj j (by omega) (by omega), e123]
    · refine wp_ret ?_
      rw [hM2 m rfl, if_neg q]
      exact wp_ret ⟨rfl, hI⟩
theorem fr_c {S : List (Nat × Nat)} {a b : Mem} {c : Nat} (h : Fr S a b) (hc : S.all (fun p => decide (c < p.1) || decide (p.2 < c)) = true) : b c = a c := h.at c hc
/-- what was kept on both sides, then done on both sides -/
theorem act_inv {k p : Nat} {m1 m3 m4 : Mem} (hI : Inv m) (G : Good LN (m 124)) (hP : PasR k p (m 124) m) (hMo : MomR (50 + 7 * p) (m 124) m1) (g1 : m1 48 1 = nI ((p + 1) % 6)) (g2 : m1 48 2 = nI (min 6 (k + 1))) (gc : ∀ c, c ≠ 48 → (c < 50 + 7 * p ∨ 50 + 7 * p + 6 < c) → m1 c = m c)
    (H2 : HRep 2 LN w' m2) (f2 : Fr [(3, 24), (111, 115)] m1 m2) (t2 : m2 113 4 = m1 113 4) (s4 : m3 123 4 = nI (min 6 (k + 1))) (sj : ∀ j, j ≠ 4 → j ≠ 26 → m3 123 j = m2 123 j) (sf : Fr [(123, 123), (126, 126)] m2 m3)
    (ss1 : ∀ j, j < 37 → m3 126 (37 * (min 6 (k + 1) - 1) + j) = m 124 j) (ss2 : ∀ i, i + 1 < min 6 (k + 1) → ∀ j, j < 37 → m3 126 (37 * i + j) = m2 126 (37 * (i + (if k = 6 then 1 else 0)) + j))
    (h4 : m4 124 = w') (j4 : ∀ j, j < 28 ∨ 31 < j → m4 123 j = m3 123 j) (f4 : Fr [(123, 124), (132, 134)] m3 m4) (G' : Good LN w')
    (hk7 : ∀ i, (37 ≤ i ∧ i < 40) ∨ i = 41 ∨ (45 ≤ i ∧ i < 153) ∨ (185 ≤ i ∧ i < 197) → w' i = m 124 i) : Inv m4 := by
  obtain ⟨hk, hp, -, -, -, -⟩ := id hP
  have e123 : m2 123 = m 123 := by rw [f2.at 123 (by decide), gc 123 (by omega) (by omega)]
  have e126 : m2 126 = m 126 := by rw [f2.at 126 (by decide), gc 126 (by omega) (by omega)]
  have o4 : ∀ c, c < 123 → m4 c = m3 c := fun c hc => f4 c (fun q hq => by
    simp only [List.mem_cons, List.not_mem_nil, or_false] at hq
    rcases hq with rfl | rfl <;> omega)
  have o3 : ∀ c, c < 123 → m3 c = m2 c := fun c hc => sf c (fun q hq => by
    simp only [List.mem_cons, List.not_mem_nil, or_false] at hq
    rcases hq with rfl | rfl <;> omega)
  have o2 : ∀ c, (c < 3 ∨ 24 < c) → (c < 111 ∨ 115 < c) → m2 c = m1 c := fun c h1 h2 => f2 c (fun q hq => by
    simp only [List.mem_cons, List.not_mem_nil, or_false] at hq
    rcases hq with rfl | rfl <;> omega)
  have hP3 : PasR (min 6 (k + 1)) ((p + 1) % 6) (m 124) m4 := by
    refine keep_pair hP G hMo g1 g2 gc (fun c h1 h2 => ?_) ?_ ?_ ?_
    · rw [o4 c (by omega), o3 c (by omega), o2 c (by omega) (by omega)]
    · rw [j4 4 (by decide)]; exact s4
    · intro j hj
      rw [f4.at 126 (by decide)]; exact ss1 j hj
    · intro i hi j hj
      rw [f4.at 126 (by decide), ss2 i hi j hj, e126]
  refine hI.re (LN := LN) (w' := w') ?_ h4 G' ?_ ?_ ?_ ?_ ?_
  · exact (H2.fr G'.1.sml sf (by decide +kernel)).fr G'.1.sml f4 (by decide +kernel)
  · exact PastR.cg (w := m 124) (m := m4) ⟨_, _, hP3⟩ G.1 (fun _ _ _ => rfl) ⟨rfl, rfl⟩ rfl rfl hk7
  · intro c hcs
    by_cases h125 : c = 125 ∨ c = 131
    · rcases h125 with rfl | rfl
      · rw [f4.at 125 (by decide), sf.at 125 (by decide), o2 125 (by omega) (by omega), gc 125 (by omega) (by omega)]
      · rw [f4.at 131 (by decide), sf.at 131 (by decide), o2 131 (by omega) (by omega), gc 131 (by omega) (by omega)]
    · rw [o4 c (by omega), o3 c (by omega), o2 c (by omega) (by omega), gc c (by omega) (by omega)]
  · rw [o4 103 (by omega), o3 103 (by omega), o2 103 (by omega) (by omega), gc 103 (by omega) (by omega)]; exact ⟨rfl, rfl⟩
  · rw [o4 113 (by omega), o3 113 (by omega), t2, gc 113 (by omega) (by omega)]
  · intro j hj
    rw [j4 j (by omega), sj j (by omega) (by omega), e123]
theorem nte_good {a b c : Int32} (G : Good LN w) : Good LN (nteS w a b c) := ⟨G.1.nte, by
  obtain ⟨x, y, h0, h4, h⟩ := G.2.1
  exact ⟨x, y, by rw [nteS_o (by decide) (by decide)]; exact h0, by rw [nteS_o (by decide) (by decide)]; exact h4, h⟩, G.2.2.nte G.1⟩
theorem pr_pay {a b : Int32} (hN : 20000 ≤ N) : Pr (f_X11_pay N a b) (f_X12_pay N a b) := by
  intro m hI
  obtain ⟨LN, H, G, ⟨k, p, hP⟩, hIm, hT, hFl, h113⟩ := id hI
  obtain ⟨hk, hp, e2, e1, e3, -⟩ := id hP
  have lh := G.1.lzh
  have hM : ∀ m1 : Mem, m1 124 = m 124 → f_X12_pay N a b m1 = if b2i (inb a (zh (m 124))) = nI 0 then some (nI 0, m1) else (if b2i (decide (nI 1 ≤ b ∧ b ≤ nI 99)) = nI 0 then some (nI 0, m1) else (bd (f_X12_keeps N m1) fun _ m_21 =>
      chk (inb ((9 : Int32) + a) 1707) <| bd (f_X12_lesser N 99 ((m_21 124 ((9 : Int32) + a).toNatClampNeg) + b) m_21) fun r_45 m_45 => chk (inb ((9 : Int32) + a) 1707) <| bnd (mset m_45 124 ((9 : Int32) + a).toNatClampNeg r_45) fun m_48 => bnd (mset m_48 124 2 ((m_48 124 2) - b)) fun m_58 => bd (f_X12_notes N 3 a b m_58) fun _ m_63 => some (1, m_63))) := by
    intro m1 h1
    unfold f_X12_pay
    rw [e_isHearer h1 G.1, bd_s, e_isIn]
    rfl
  unfold f_X11_pay
  simp only [li_0, li_1, li_2, li_3, li_4, li_5, li_6, li_7, li_8, li_9, li_10, li_11, li_12, li_13, li_14, li_15, li_16, li_17, li_18, li_19, li_20, li_21, li_22, li_23, li_24, li_25, li_26, li_27, li_28, li_29, li_30, li_31, li_32, li_37, li_38, li_39, li_40, li_41, li_42, li_43, li_44, li_45, li_46, li_47, li_48, li_49, li_50, li_57, li_59, li_60, li_61, li_62, li_63, li_64, li_65, li_69, li_81, li_89, li_90, li_92, li_97, li_99, li_100, li_101, li_103, li_104, li_105, li_106, li_108, li_111, li_112, li_113, li_114, li_115, li_116, li_117, li_119, li_122, li_123, li_124, li_125, li_126, li_127, li_128, li_129, li_130, li_131, li_132, li_133, li_134, li_135, li_136, li_137, li_140, li_141, li_142, li_143, li_145, li_147, li_150, li_153, li_159, li_160, li_161, li_162, li_185, li_197, li_213, li_222, li_223, li_255, li_256, li_257, li_258, li_259, li_260, li_261, li_262, li_263, li_264, li_271, li_272, li_273, li_274, li_275, li_276, li_277, li_278, li_300, li_400, li_420, li_500, li_802, li_820, li_823, li_839, li_855, li_871, li_887, li_999, li_1000, li_1001, li_1002, li_1003, li_1004, li_1005, li_1006, li_1007, li_1008, li_1009, li_1010, li_1011, li_1012, li_1013, li_1014, li_1015, li_1016, li_1017, li_1018, li_1019, li_1020, li_1021, li_1022, li_1023, li_1707, li_4096, li_9999, li_65536, li_100000, li_1000000, li_1664525, li_100000000, li_252645135, li_858993459, li_1000000007, li_1013904223, li_1431655765, li_m1]
  rw [hr_hasH H G.1, bd_s, e_within]
  rcases inb_cases a (n := zh (m 124)) (by omega) with ⟨e, -⟩ | ⟨h, hh, rfl⟩
  · rw [e, if_pos (by decide)]
    refine wp_ret ?_
    rw [hM m rfl, e, if_pos (by decide)]
    exact wp_ret ⟨rfl, hI⟩
  · rw [inb_nI hh (by omega), if_neg (by decide), bd_s]
    rw [inb_nI hh (by omega)] at hM
    cases hq : decide (nI 1 ≤ b ∧ b ≤ nI 99) with
    | false =>
      rw [if_pos (by decide)]
      refine wp_ret ?_
      rw [hM m rfl, hq, if_neg (by decide), if_pos (by decide)]
      exact wp_ret ⟨rfl, hI⟩
    | true =>
      rw [hq] at hM
      rw [if_neg (by decide)]
      obtain ⟨q, hq1, hq2, rfl⟩ := rng_of (by decide) (by decide) hq
      refine wp_bind (w_keepC H G.1 hk hp e1 e2) ?_
      rintro _ m1 ⟨H1, hMo, g1, g2, gc⟩
      rw [hr_hea H1 G.1 hh (by decide), bd_s, hr_heaPut H1 G.1 hh (by decide), bd_s, show heaV (m 124) h 5 = m 124 (9 + h) from rfl]
      obtain ⟨pd, hpd, epd⟩ := (G.1.hea hh).2.2.2.1
      rw [epd, nI_add]
      obtain ⟨v, hv, ev⟩ : ∃ v, v ≤ 99 ∧ (if nI (pd + q) < nI 99 then nI (pd + q) else nI 99) = nI v := by
        by_cases z : pd + q < 99
        · exact ⟨pd + q, by omega, if_pos (nI_lt z (by decide))⟩
        · exact ⟨99, Nat.le_refl _, if_neg (nI_nlt (by omega) (by omega))⟩
      rw [ev]
      have H2 := H1.hea_set (c := 5) (v := nI v) G.1 hh (by omega)
      have W2 : WFc (upd (m 124) (heaI 5 + h) (nI v)) := G.1.hea_set hh (by omega)
      rw [hr_hour H2 (by decide), bd_s, hr_setHour H2 (by decide), bd_s]
      have H3 := H2.hou_set (c := 2) (v := upd (m 124) (heaI 5 + h) (nI v) (houI 2) - nI q) W2 (by decide)
      have W3 : WFc (upd (upd (m 124) (heaI 5 + h) (nI v)) (houI 2) (upd (m 124) (heaI 5 + h) (nI v) (houI 2) - nI q)) := W2.up (by decide)
      refine wp_bind (w_note (a := nI 3) (b := nI h) (c := nI q) hN H3 W3) ?_
      rintro _ m2 ⟨H4, f4⟩
      have f12 : Fr [(3, 24), (111, 115)] m1 m2 := (Fr.set (S := [(3, 24), (111, 115)]) (Fr.set Fr.rf (by decide)) (by decide)).trans (f4.mono (by decide))
      have e124 : m2 124 = m 124 := by rw [f12.at 124 (by decide), gc 124 (by omega) (by omega)]
      have e123 : m2 123 = m 123 := by rw [f12.at 123 (by decide), gc 123 (by omega) (by omega)]
      refine wp_ret ?_
      rw [hM m2 e124, if_neg (by decide), if_neg (by decide)]
      refine wp_bind (w_keepsM hN e124 hk (by rw [e123]; exact e3)) ?_
      rintro _ m3 ⟨s4, s26, sj, sf, ss1, ss2⟩
      have e124' : m3 124 = m 124 := by rw [sf.at 124 (by decide)]; exact e124
      simp only [li_0, li_1, li_2, li_3, li_4, li_5, li_6, li_7, li_8, li_9, li_10, li_11, li_12, li_13, li_14, li_15, li_16, li_17, li_18, li_19, li_20, li_21, li_22, li_23, li_24, li_25, li_26, li_27, li_28, li_29, li_30, li_31, li_32, li_37, li_38, li_39, li_40, li_41, li_42, li_43, li_44, li_45, li_46, li_47, li_48, li_49, li_50, li_57, li_59, li_60, li_61, li_62, li_63, li_64, li_65, li_69, li_81, li_89, li_90, li_92, li_97, li_99, li_100, li_101, li_103, li_104, li_105, li_106, li_108, li_111, li_112, li_113, li_114, li_115, li_116, li_117, li_119, li_122, li_123, li_124, li_125, li_126, li_127, li_128, li_129, li_130, li_131, li_132, li_133, li_134, li_135, li_136, li_137, li_140, li_141, li_142, li_143, li_145, li_147, li_150, li_153, li_159, li_160, li_161, li_162, li_185, li_197, li_213, li_222, li_223, li_255, li_256, li_257, li_258, li_259, li_260, li_261, li_262, li_263, li_264, li_271, li_272, li_273, li_274, li_275, li_276, li_277, li_278, li_300, li_400, li_420, li_500, li_802, li_820, li_823, li_839, li_855, li_871, li_887, li_999, li_1000, li_1001, li_1002, li_1003, li_1004, li_1005, li_1006, li_1007, li_1008, li_1009, li_1010, li_1011, li_1012, li_1013, li_1014, li_1015, li_1016, li_1017, li_1018, li_1019, li_1020, li_1021, li_1022, li_1023, li_1707, li_4096, li_9999, li_65536, li_100000, li_1000000, li_1664525, li_100000000, li_252645135, li_858993459, li_1000000007, li_1013904223, li_1431655765, li_m1, nI_add]
      rw [inb_nI (by omega) (by omega), chk_t, nI_clamp (by omega), e124', epd, nI_add, e_lesser, bd_s, ev, chk_t, bnd_s, bnd_s]
      have h9 : 9 + h = heaI 5 + h := rfl
      have ew : mset (mset m3 124 (9 + h) (nI v)) 124 2 (mset m3 124 (9 + h) (nI v) 124 2 - nI q) 124 = upd (upd (m 124) (heaI 5 + h) (nI v)) (houI 2) (upd (m 124) (heaI 5 + h) (nI v) (houI 2) - nI q) := by
        rw [mset_eq, mset_eq, e124']
        rfl
      have h26 : mset (mset m3 124 (9 + h) (nI v)) 124 2 (mset m3 124 (9 + h) (nI v) 124 2 - nI q) 123 26 = nI 1 := by rw [mset_k (by decide), mset_k (by decide)]; exact s26
      refine wp_bind (w_noteM (a := nI 3) (b := nI h) (c := nI q) ew W3 h26) ?_
      rintro _ m4 ⟨h4, f4'⟩
      have G3 : Good LN (upd (upd (m 124) (heaI 5 + h) (nI v)) (houI 2) (upd (m 124) (heaI 5 + h) (nI v) (houI 2) - nI q)) := ⟨W3, (G.2.1.up (by show 9 + h ≠ 0; omega) (by show 9 + h ≠ 4; omega)).up (by decide) (by decide), (G.2.2.up (by show 9 + h ≠ 40; omega) (by show 9 + h < 823; omega)).up (by decide) (by decide)⟩
      refine wp_ret ⟨rfl, act_inv hI G hP hMo g1 g2 gc H4 f12 (by rw [f4.at 113 (by decide), mset_ne (by decide), mset_ne (by decide)]) s4 sj sf ss1 ss2 h4 (fun j hj => ?_) ?_ (nte_good G3) (fun i hi => ?_)⟩
      · rw [f4'.at 123 (by decide), mset_ne (by decide), mset_ne (by decide)]
      · exact (Fr.set (S := [(123, 124), (132, 134)]) (Fr.set Fr.rf (by decide)) (by decide)).trans (f4'.mono (by decide))
      · rw [nteS_o (by omega) (by omega), ud_n (by show i ≠ 2; omega), ud_n (by show i ≠ 9 + h; omega)]
/-- THERE or GLOVES of a HEARER turned -/
theorem xor_bit (x h i : Nat) : (x ^^^ 2 ^ h).testBit i = (x.testBit i != decide (h = i)) := by
  rw [Nat.testBit_xor, Nat.testBit_two_pow]
theorem xor_lt {x h n : Nat} (hx : x < 2 ^ n) (hh : h < n) : x ^^^ 2 ^ h < 2 ^ n := Nat.xor_lt_two_pow hx (Nat.pow_lt_pow_right (by decide) hh)
theorem HRep.bit_set {h c : Nat} (H : HRep 2 LN w m) (W0 : WFc w) (hh : h < zh w) (hc : c = 3 ∨ c = 4) {x : Nat} (hx : x = if c = 3 then zt w ^^^ 2 ^ h else zv w ^^^ 2 ^ h) {b : Bool} (hb : b = !(if c = 3 then zt w else zv w).testBit h) : HRep 2 LN (upd w (c + 4) (nI x)) (mset m 4 (h * 8 + c) (b2i b)) := by
  have l := W0.lzh
  have p12 := W0.p12
  have hx31 : x < 2 ^ 31 := by
    rw [hx]
    have h1 := xor_lt W0.h7.2 hh
    have h2 := xor_lt W0.h8.2 hh
    split <;> omega
  refine H.one (j0 := 1) W0.sml (by decide) (H.fx.out (by decide)) (fun k h1 h2 h3 h4 => mset_ne (by omega)) ⟨?_, fun h' hh' c' hc' => ?_⟩ (fun j hj hne i hi => ud_n ?_)
  · rw [mset_ne (by decide), ud_n (by omega)]; exact H.hea.1
  · have ez : zh (upd w (c + 4) (nI x)) = zh w := by unfold zh; rw [ud_n (by omega)]
    rw [ez] at hh'
    have ec : cnt (upd w (c + 4) (nI x)) h' = cnt w h' := cnt_cg (fun i hi => ud_n (by omega)) W0.lzs h'
    have e7 : zt (upd w (c + 4) (nI x)) = if c = 3 then x else zt w := by
      unfold zt
      rcases hc with rfl | rfl
      · rw [ud_s, nv_nI hx31, if_pos rfl]
      · rw [ud_n (by decide), if_neg (by decide)]
    have e8 : zv (upd w (c + 4) (nI x)) = if c = 3 then zv w else x := by
      unfold zv
      rcases hc with rfl | rfl
      · rw [ud_n (by decide), if_pos rfl]
      · rw [ud_s, nv_nI hx31, if_neg (by decide)]
    show mset m 4 (h * 8 + c) (b2i b) 4 (h' * 8 + c') = _
    by_cases e : h' = h ∧ c' = c
    · obtain ⟨rfl, rfl⟩ := e
      rw [mset_at]
      unfold heaV
      rcases hc with rfl | rfl
      · rw [if_neg (by decide), if_neg (by decide), if_neg (by decide), if_pos rfl, e7, if_pos rfl, hb, hx, if_pos rfl, if_pos rfl, xor_bit]
        simp
      · rw [if_neg (by decide), if_neg (by decide), if_neg (by decide), if_neg (by decide), if_pos rfl, e8, if_neg (by decide), hb, hx, if_neg (by decide), if_neg (by decide), xor_bit]
        simp
    · rw [mset_j (by omega), show m 4 (h' * 8 + c') = heaV w h' c' from H.hea.2 h' hh' c' hc']
      unfold heaV
      rw [ec, ud_n (show 45 + h' ≠ c + 4 by omega), ud_n (show 57 + h' ≠ c + 4 by omega), ud_n (show 69 + h' ≠ c + 4 by omega), ud_n (show 9 + h' ≠ c + 4 by omega), ud_n (show 185 + h' ≠ c + 4 by omega), e7, e8]
      by_cases h3 : c' = 3
      · subst h3
        rw [if_neg (by decide), if_neg (by decide), if_neg (by decide), if_pos rfl, if_neg (by decide), if_neg (by decide), if_neg (by decide), if_pos rfl]
        rcases hc with rfl | rfl
        · rw [if_pos rfl, hx, if_pos rfl, xor_bit, decide_eq_false (by omega)]
          simp
        · rw [if_neg (by decide)]
      · by_cases h4 : c' = 4
        · subst h4
          rw [if_neg (by decide), if_neg (by decide), if_neg (by decide), if_neg (by decide), if_pos rfl, if_neg (by decide), if_neg (by decide), if_neg (by decide), if_neg (by decide), if_pos rfl]
          rcases hc with rfl | rfl
          · rw [if_pos rfl]
          · rw [if_neg (by decide), hx, if_neg (by decide), xor_bit, decide_eq_false (by omega)]
            simp
        · rw [if_neg h3, if_neg h4, if_neg h3, if_neg h4]
  · rintro rfl
    have hj' : j = 1 ∨ j = 3 ∨ j = 5 ∨ j = 7 ∨ j = 13 ∨ j = 15 ∨ j = 17 ∨ j = 19 ∨ j = 21 := by simpa [cmps] using hj
    rcases hj' with rfl | rfl | rfl | rfl | rfl | rfl | rfl | rfl | rfl
    all_goals simp [own] at hi
    all_goals omega
theorem wfc_bits {c x : Nat} (W0 : WFc w) (hc : c = 3 ∨ c = 4) (hx : x < 2 ^ zh w) : WFc (upd w (c + 4) (nI x)) := by
  have l := W0.lzh
  have hl : lowW (upd (upd (upd w 0 (nI 0)) 4 (nI 0)) (c + 4) (nI x)) := by
    have ez : zh (upd (upd (upd w 0 (nI 0)) 4 (nI 0)) (c + 4) (nI x)) = zh w := by unfold zh; rw [ud_n (by omega), ud_n (by decide), ud_n (by decide)]
    unfold lowW
    rw [ez]
    refine ⟨?_, ?_, ?_, fun h hh => ?_, ⟨0, 0, ?_, ?_, Nat.le_refl _, by decide⟩⟩
    · rw [ud_n (by omega), ud_n (by decide), ud_n (by decide)]; exact W0.2.2.1
    · rcases hc with rfl | rfl
      · rw [ud_s]; exact isn.nI (by omega)
      · rw [ud_n (by decide), ud_n (by decide), ud_n (by decide)]; exact W0.2.2.2.2.2.2.2.1
    · rcases hc with rfl | rfl
      · rw [ud_n (by decide), ud_n (by decide), ud_n (by decide)]; exact W0.2.2.2.2.2.2.2.2.1
      · rw [ud_s]; exact isn.nI (by omega)
    · rw [ud_n (by omega), ud_n (by omega), ud_n (by omega)]; exact (W0.hea hh).2.2.2.1
    · rw [ud_n (by omega), ud_n (by decide), ud_s]
    · rw [ud_n (by omega), ud_s]
  have := W0.low hl (fun i hi => by rw [ud_n (by omega), ud_n (by omega), ud_n (by omega)])
  refine this.cg (fun i hi => ?_)
  by_cases e : i = c + 4
  · rw [e, ud_s, ud_s]
  · have h0 : i ≠ 0 ∧ i ≠ 4 := by
      constructor <;> rintro rfl <;> simp [ownF] at hi
    rw [ud_n e, ud_n e, ud_n h0.2, ud_n h0.1]
theorem w_turn {k p c : Nat} {h : Nat} {to : Bool} {line : Int32} (hN : 20000 ≤ N) (hI : Inv m) (H : HRep 2 LN (m 124) m) (G : Good LN (m 124)) (hP : PasR k p (m 124) m) (hh : h < zh (m 124)) (hc : c = 3 ∨ c = 4) (hto : (if c = 3 then zt (m 124) else zv (m 124)).testBit h = !to)
    {Q : Int32 → Mem → Prop}
    (kk : ∀ m2 : Mem, m2 124 = m 124 → (∀ {y : Ans}, (∀ m3 : Mem, m3 124 = m 124 → m3 123 26 = nI 1 → Wp y (fun _ m4 => True) → True) → True) → (∀ y : Mem → Ans, (∀ m3 : Mem, m3 124 = m 124 → m3 123 26 = nI 1 → Wp (y m3) (fun v m4 => v = nI 1 ∧ m4 124 = nteS (upd (m 124) (c + 4) (nI (if c = 3 then zt (m 124) ^^^ 2 ^ h else zv (m 124) ^^^ 2 ^ h))) line (nI h) (b2i to) ∧ (∀ j, m4 123 j = m3 123 j) ∧ Fr [(124, 124)] m3 m4)) → Wp (bd (f_X12_keeps N m2) fun _ m3 => y m3) (fun v m4 => v = nI 1 ∧ Inv m4)) → Q (nI 1) m2) :
    Wp (bd (f_X4_keep N m) fun _ m_52 => bd (f_X9_put N 3 (nI h) (nI c) (b2i to) m_52) fun _ m_66 => bd (f_X1_note N line (nI h) (b2i to) m_66) fun _ m_78 => some (nI 1, m_78)) Q := by
  obtain ⟨hk, hp, e2, e1, e3, -⟩ := id hP
  have lh := G.1.lzh
  have p12 := G.1.p12
  refine wp_bind (w_keepC H G.1 hk hp e1 e2) ?_
  rintro _ m1 ⟨H1, hMo, g1, g2, gc⟩
  have hxlt : (if c = 3 then zt (m 124) ^^^ 2 ^ h else zv (m 124) ^^^ 2 ^ h) < 2 ^ zh (m 124) := by
    have h1 := xor_lt G.1.h7.2 hh
    have h2 := xor_lt G.1.h8.2 hh
    split <;> assumption
  have H2 := H1.bit_set (c := c) (h := h) (x := if c = 3 then zt (m 124) ^^^ 2 ^ h else zv (m 124) ^^^ 2 ^ h) (b := to) G.1 hh hc rfl (by rw [hto]; simp)
  have W2 := wfc_bits G.1 hc hxlt
  rw [hr_heaPut H1 G.1 hh (by omega), bd_s]
  refine wp_bind (w_note (a := line) (b := nI h) (c := b2i to) hN H2 W2) ?_
  rintro _ m2 ⟨H4, f4⟩
  have f12 : Fr [(3, 24), (111, 115)] m1 m2 := (Fr.set (S := [(3, 24), (111, 115)]) Fr.rf (by decide)).trans (f4.mono (by decide))
  have e124 : m2 124 = m 124 := by rw [f12.at 124 (by decide), gc 124 (by omega) (by omega)]
  have e123 : m2 123 = m 123 := by rw [f12.at 123 (by decide), gc 123 (by omega) (by omega)]
  refine wp_ret (kk m2 e124 (fun _ => trivial) (fun y hy => ?_))
  refine wp_bind (w_keepsM hN e124 hk (by rw [e123]; exact e3)) ?_
  rintro _ m3 ⟨s4, s26, sj, sf, ss1, ss2⟩
  have e124' : m3 124 = m 124 := by rw [sf.at 124 (by decide)]; exact e124
  refine wp_mono (hy m3 e124' s26) ?_
  rintro v m4 ⟨rfl, h4, j4, f4'⟩
  have G2 : Good LN (upd (m 124) (c + 4) (nI (if c = 3 then zt (m 124) ^^^ 2 ^ h else zv (m 124) ^^^ 2 ^ h))) := ⟨W2, G.2.1.up (by omega) (by omega), G.2.2.up (by omega) (by omega)⟩
  refine ⟨rfl, act_inv hI G hP hMo g1 g2 gc H4 f12 (by rw [f4.at 113 (by decide), mset_ne (by decide)]) s4 sj sf ss1 ss2 h4 (fun j hj => j4 j) (f4'.mono (by decide)) (nte_good G2) (fun i hi => ?_)⟩
  rw [nteS_o (by omega) (by omega), ud_n (by omega)]
theorem b2i_inj {a b : Bool} : b2i a = b2i b ↔ a = b := by cases a <;> cases b <;> decide
theorem pr_glove {a : Int32} {b : Bool} (hN : 20000 ≤ N) : Pr (f_X11_glove N a (b2i b)) (f_X12_glove N a (b2i b)) := by
  intro m hI
  obtain ⟨LN, H, G, ⟨k, p, hP⟩, hIm, hT, hFl, h113⟩ := id hI
  have lh := G.1.lzh
  have p12 := G.1.p12
  have hM : ∀ m1 : Mem, m1 124 = m 124 → f_X12_glove N a (b2i b) m1 = if b2i (inb a (zh (m 124))) = nI 0 then some (nI 0, m1) else (bd (f_X12_isGloved N a m1) fun r_10 m_10 => if r_10 = b2i b then (some (0, m_10)) else (bd (f_X12_keeps N m_10) fun _ m_20 => bnd (mset m_20 124 8 ((m_20 124 8) ^^^ ((1 : Int32) <<< (a &&& 31)))) fun m_35 =>
      if b2i b = 0 then (bd (f_X12_notes N 4 a 0 m_35) fun _ m_48 => some (1, m_48)) else (bd (f_X12_notes N 4 a 1 m_35) fun _ m_48 => some (1, m_48)))) := by
    intro m1 h1
    unfold f_X12_glove
    rw [e_isHearer h1 G.1, bd_s]
    rfl
  unfold f_X11_glove f_X11_turn f_X11_turn_J9
  simp only [li_0, li_1, li_2, li_3, li_4, li_5, li_6, li_7, li_8, li_9, li_10, li_11, li_12, li_13, li_14, li_15, li_16, li_17, li_18, li_19, li_20, li_21, li_22, li_23, li_24, li_25, li_26, li_27, li_28, li_29, li_30, li_31, li_32, li_37, li_38, li_39, li_40, li_41, li_42, li_43, li_44, li_45, li_46, li_47, li_48, li_49, li_50, li_57, li_59, li_60, li_61, li_62, li_63, li_64, li_65, li_69, li_81, li_89, li_90, li_92, li_97, li_99, li_100, li_101, li_103, li_104, li_105, li_106, li_108, li_111, li_112, li_113, li_114, li_115, li_116, li_117, li_119, li_122, li_123, li_124, li_125, li_126, li_127, li_128, li_129, li_130, li_131, li_132, li_133, li_134, li_135, li_136, li_137, li_140, li_141, li_142, li_143, li_145, li_147, li_150, li_153, li_159, li_160, li_161, li_162, li_185, li_197, li_213, li_222, li_223, li_255, li_256, li_257, li_258, li_259, li_260, li_261, li_262, li_263, li_264, li_271, li_272, li_273, li_274, li_275, li_276, li_277, li_278, li_300, li_400, li_420, li_500, li_802, li_820, li_823, li_839, li_855, li_871, li_887, li_999, li_1000, li_1001, li_1002, li_1003, li_1004, li_1005, li_1006, li_1007, li_1008, li_1009, li_1010, li_1011, li_1012, li_1013, li_1014, li_1015, li_1016, li_1017, li_1018, li_1019, li_1020, li_1021, li_1022, li_1023, li_1707, li_4096, li_9999, li_65536, li_100000, li_1000000, li_1664525, li_100000000, li_252645135, li_858993459, li_1000000007, li_1013904223, li_1431655765, li_m1]
  have key : Wp (bd (f_X9_has N 3 a m) fun r_19 m_19 => if r_19 = nI 0 then (some (nI 0, m_19)) else (bd (f_X9_at N 3 a (nI 4) m_19) fun r_34 m_34 => if r_34 = b2i b then (some (nI 0, m_34)) else (bd (f_X4_keep N m_34) fun _ m_52 => bd (f_X9_put N 3 a (nI 4) (b2i b) m_52) fun _ m_66 => bd (f_X1_note N (nI 4) a (b2i b) m_66) fun _ m_78 => some (nI 1, m_78))))
      (fun r m_5 => Wp (chk (isB r) (some (r, m_5))) (fun v1 m1 => Wp (f_X12_glove N a (b2i b) m1) (fun v2 m2 => v1 = v2 ∧ Inv m2))) := by
    rw [hr_hasH H G.1, bd_s]
    rcases inb_cases a (n := zh (m 124)) (by omega) with ⟨e, -⟩ | ⟨h, hh, rfl⟩
    · rw [e, if_pos (by decide)]
      refine wp_ret ?_
      rw [show isB (nI 0) = true by decide, chk_t]
      refine wp_ret ?_
      rw [hM m rfl, e, if_pos (by decide)]
      exact wp_ret ⟨rfl, hI⟩
    · rw [inb_nI hh (by omega)] at hM
      rw [inb_nI hh (by omega), if_neg (by decide), hr_hea H G.1 hh (by decide), bd_s, show heaV (m 124) h 4 = b2i ((zv (m 124)).testBit h) from rfl]
      by_cases hb : (zv (m 124)).testBit h = b
      · rw [if_pos (by rw [hb])]
        refine wp_ret ?_
        rw [show isB (nI 0) = true by decide, chk_t]
        refine wp_ret ?_
        rw [hM m rfl, if_neg (by decide), e_gloved rfl G.1 (by omega), bd_s, if_pos (by rw [hb])]
        exact wp_ret ⟨rfl, hI⟩
      · rw [if_neg (fun z => hb (b2i_inj.mp z))]
        refine w_turn (c := 4) (to := b) (line := nI 4) hN hI H G hP hh (Or.inr rfl) (by
          rw [if_neg (by decide)]
          cases h1 : (zv (m 124)).testBit h <;> cases h2 : b <;> simp_all) ?_
        intro m2 e124 _ hy
        rw [show isB (nI 1) = true by decide, chk_t]
        refine wp_ret ?_
        rw [hM m2 e124, if_neg (by decide), e_gloved e124 G.1 (by omega), bd_s, if_neg (fun z => hb (b2i_inj.mp z))]
        refine wp_mono (hy (fun m_20 => bnd (mset m_20 124 8 ((m_20 124 8) ^^^ ((1 : Int32) <<< (nI h &&& 31)))) fun m_35 => if b2i b = 0 then (bd (f_X12_notes N 4 (nI h) 0 m_35) fun _ m_48 => some (1, m_48)) else (bd (f_X12_notes N 4 (nI h) 1 m_35) fun _ m_48 => some (1, m_48))) ?_) (fun v m4 hv => ⟨hv.1.symm, hv.2⟩)
        intro m3 h124 h26
        simp only [li_0, li_1, li_2, li_3, li_4, li_5, li_6, li_7, li_8, li_9, li_10, li_11, li_12, li_13, li_14, li_15, li_16, li_17, li_18, li_19, li_20, li_21, li_22, li_23, li_24, li_25, li_26, li_27, li_28, li_29, li_30, li_31, li_32, li_37, li_38, li_39, li_40, li_41, li_42, li_43, li_44, li_45, li_46, li_47, li_48, li_49, li_50, li_57, li_59, li_60, li_61, li_62, li_63, li_64, li_65, li_69, li_81, li_89, li_90, li_92, li_97, li_99, li_100, li_101, li_103, li_104, li_105, li_106, li_108, li_111, li_112, li_113, li_114, li_115, li_116, li_117, li_119, li_122, li_123, li_124, li_125, li_126, li_127, li_128, li_129, li_130, li_131, li_132, li_133, li_134, li_135, li_136, li_137, li_140, li_141, li_142, li_143, li_145, li_147, li_150, li_153, li_159, li_160, li_161, li_162, li_185, li_197, li_213, li_222, li_223, li_255, li_256, li_257, li_258, li_259, li_260, li_261, li_262, li_263, li_264, li_271, li_272, li_273, li_274, li_275, li_276, li_277, li_278, li_300, li_400, li_420, li_500, li_802, li_820, li_823, li_839, li_855, li_871, li_887, li_999, li_1000, li_1001, li_1002, li_1003, li_1004, li_1005, li_1006, li_1007, li_1008, li_1009, li_1010, li_1011, li_1012, li_1013, li_1014, li_1015, li_1016, li_1017, li_1018, li_1019, li_1020, li_1021, li_1022, li_1023, li_1707, li_4096, li_9999, li_65536, li_100000, li_1000000, li_1664525, li_100000000, li_252645135, li_858993459, li_1000000007, li_1013904223, li_1431655765, li_m1]
        rw [bnd_s, h124, G.1.h8.1, nz_one (by omega), nz_xor]
        have W2 := wfc_bits (c := 4) G.1 (Or.inr rfl) (xor_lt G.1.h8.2 hh)
        have ew : mset m3 124 8 (nI (zv (m 124) ^^^ 2 ^ h)) 124 = upd (m 124) (4 + 4) (nI (zv (m 124) ^^^ 2 ^ h)) := by rw [mset_eq, h124]
        have nt : ∀ x, x = b2i b → Wp (bd (f_X12_notes N (nI 4) (nI h) x (mset m3 124 8 (nI (zv (m 124) ^^^ 2 ^ h)))) fun _ m_48 => some (nI 1, m_48)) (fun v m4 => v = nI 1 ∧ m4 124 = nteS (upd (m 124) (4 + 4) (nI (if 4 = 3 then zt (m 124) ^^^ 2 ^ h else zv (m 124) ^^^ 2 ^ h))) (nI 4) (nI h) (b2i b) ∧ (∀ j, m4 123 j = m3 123 j) ∧ Fr [(124, 124)] m3 m4) := by
          rintro x rfl
          refine wp_bind (w_noteM ew W2 (by rw [mset_k (by decide)]; exact h26)) ?_
          rintro _ m4 ⟨h4, f4⟩
          exact wp_ret ⟨rfl, h4, fun j => by rw [f4.at 123 (by decide), mset_k (by decide)], (Fr.set (S := [(124, 124)]) Fr.rf (by decide)).trans f4⟩
        cases b with
        | false => rw [if_pos (by decide)]; exact nt _ rfl
        | true => rw [if_neg (by decide)]; exact nt _ rfl
  cases b with
  | false =>
    rw [if_pos (by decide)]
    exact wp_bd key
  | true =>
    rw [if_neg (by decide)]
    exact wp_bd key
theorem pr_let {a : Int32} {b : Bool} (hN : 20000 ≤ N) : Pr (f_X11_let N a (b2i b)) (f_X12_let N a (b2i b)) := by
  intro m hI
  obtain ⟨LN, H, G, ⟨k, p, hP⟩, hIm, hT, hFl, h113⟩ := id hI
  have lh := G.1.lzh
  have p12 := G.1.p12
  have hM : ∀ m1 : Mem, m1 124 = m 124 → f_X12_let N a (b2i b) m1 = if b2i (inb a (zh (m 124))) = nI 0 then some (nI 0, m1) else (bd (f_X12_isThere N a m1) fun r_10 m_10 => if r_10 = b2i b then (some (0, m_10)) else (bd (f_X12_keeps N m_10) fun _ m_20 => bnd (mset m_20 124 7 ((m_20 124 7) ^^^ ((1 : Int32) <<< (a &&& 31)))) fun m_35 =>
      if b2i b = 0 then (bd (f_X12_notes N 5 a 0 m_35) fun _ m_48 => some (1, m_48)) else (bd (f_X12_notes N 5 a 1 m_35) fun _ m_48 => some (1, m_48)))) := by
    intro m1 h1
    unfold f_X12_let
    rw [e_isHearer h1 G.1, bd_s]
    rfl
  unfold f_X11_let f_X11_turn f_X11_turn_J9
  simp only [li_0, li_1, li_2, li_3, li_4, li_5, li_6, li_7, li_8, li_9, li_10, li_11, li_12, li_13, li_14, li_15, li_16, li_17, li_18, li_19, li_20, li_21, li_22, li_23, li_24, li_25, li_26, li_27, li_28, li_29, li_30, li_31, li_32, li_37, li_38, li_39, li_40, li_41, li_42, li_43, li_44, li_45, li_46, li_47, li_48, li_49, li_50, li_57, li_59, li_60, li_61, li_62, li_63, li_64, li_65, li_69, li_81, li_89, li_90, li_92, li_97, li_99, li_100, li_101, li_103, li_104, li_105, li_106, li_108, li_111, li_112, li_113, li_114, li_115, li_116, li_117, li_119, li_122, li_123, li_124, li_125, li_126, li_127, li_128, li_129, li_130, li_131, li_132, li_133, li_134, li_135, li_136, li_137, li_140, li_141, li_142, li_143, li_145, li_147, li_150, li_153, li_159, li_160, li_161, li_162, li_185, li_197, li_213, li_222, li_223, li_255, li_256, li_257, li_258, li_259, li_260, li_261, li_262, li_263, li_264, li_271, li_272, li_273, li_274, li_275, li_276, li_277, li_278, li_300, li_400, li_420, li_500, li_802, li_820, li_823, li_839, li_855, li_871, li_887, li_999, li_1000, li_1001, li_1002, li_1003, li_1004, li_1005, li_1006, li_1007, li_1008, li_1009, li_1010, li_1011, li_1012, li_1013, li_1014, li_1015, li_1016, li_1017, li_1018, li_1019, li_1020, li_1021, li_1022, li_1023, li_1707, li_4096, li_9999, li_65536, li_100000, li_1000000, li_1664525, li_100000000, li_252645135, li_858993459, li_1000000007, li_1013904223, li_1431655765, li_m1]
  have key : Wp (bd (f_X9_has N 3 a m) fun r_19 m_19 => if r_19 = nI 0 then (some (nI 0, m_19)) else (bd (f_X9_at N 3 a (nI 3) m_19) fun r_34 m_34 => if r_34 = b2i b then (some (nI 0, m_34)) else (bd (f_X4_keep N m_34) fun _ m_52 => bd (f_X9_put N 3 a (nI 3) (b2i b) m_52) fun _ m_66 => bd (f_X1_note N (nI 5) a (b2i b) m_66) fun _ m_78 => some (nI 1, m_78))))
      (fun r m_5 => Wp (chk (isB r) (some (r, m_5))) (fun v1 m1 => Wp (f_X12_let N a (b2i b) m1) (fun v2 m2 => v1 = v2 ∧ Inv m2))) := by
    rw [hr_hasH H G.1, bd_s]
    rcases inb_cases a (n := zh (m 124)) (by omega) with ⟨e, -⟩ | ⟨h, hh, rfl⟩
    · rw [e, if_pos (by decide)]
      refine wp_ret ?_
      rw [show isB (nI 0) = true by decide, chk_t]
      refine wp_ret ?_
      rw [hM m rfl, e, if_pos (by decide)]
      exact wp_ret ⟨rfl, hI⟩
    · rw [inb_nI hh (by omega)] at hM
      rw [inb_nI hh (by omega), if_neg (by decide), hr_hea H G.1 hh (by decide), bd_s, show heaV (m 124) h 3 = b2i ((zt (m 124)).testBit h) from rfl]
      by_cases hb : (zt (m 124)).testBit h = b
      · rw [if_pos (by rw [hb])]
        refine wp_ret ?_
        rw [show isB (nI 0) = true by decide, chk_t]
        refine wp_ret ?_
        rw [hM m rfl, if_neg (by decide), e_there rfl G.1 (by omega), bd_s, if_pos (by rw [hb])]
        exact wp_ret ⟨rfl, hI⟩
      · rw [if_neg (fun z => hb (b2i_inj.mp z))]
        refine w_turn (c := 3) (to := b) (line := nI 5) hN hI H G hP hh (Or.inl rfl) (by
          rw [if_pos rfl]
          cases h1 : (zt (m 124)).testBit h <;> cases h2 : b <;> simp_all) ?_
        intro m2 e124 _ hy
        rw [show isB (nI 1) = true by decide, chk_t]
        refine wp_ret ?_
        rw [hM m2 e124, if_neg (by decide), e_there e124 G.1 (by omega), bd_s, if_neg (fun z => hb (b2i_inj.mp z))]
        refine wp_mono (hy (fun m_20 => bnd (mset m_20 124 7 ((m_20 124 7) ^^^ ((1 : Int32) <<< (nI h &&& 31)))) fun m_35 => if b2i b = 0 then (bd (f_X12_notes N 5 (nI h) 0 m_35) fun _ m_48 => some (1, m_48)) else (bd (f_X12_notes N 5 (nI h) 1 m_35) fun _ m_48 => some (1, m_48))) ?_) (fun v m4 hv => ⟨hv.1.symm, hv.2⟩)
        intro m3 h124 h26
        simp only [li_0, li_1, li_2, li_3, li_4, li_5, li_6, li_7, li_8, li_9, li_10, li_11, li_12, li_13, li_14, li_15, li_16, li_17, li_18, li_19, li_20, li_21, li_22, li_23, li_24, li_25, li_26, li_27, li_28, li_29, li_30, li_31, li_32, li_37, li_38, li_39, li_40, li_41, li_42, li_43, li_44, li_45, li_46, li_47, li_48, li_49, li_50, li_57, li_59, li_60, li_61, li_62, li_63, li_64, li_65, li_69, li_81, li_89, li_90, li_92, li_97, li_99, li_100, li_101, li_103, li_104, li_105, li_106, li_108, li_111, li_112, li_113, li_114, li_115, li_116, li_117, li_119, li_122, li_123, li_124, li_125, li_126, li_127, li_128, li_129, li_130, li_131, li_132, li_133, li_134, li_135, li_136, li_137, li_140, li_141, li_142, li_143, li_145, li_147, li_150, li_153, li_159, li_160, li_161, li_162, li_185, li_197, li_213, li_222, li_223, li_255, li_256, li_257, li_258, li_259, li_260, li_261, li_262, li_263, li_264, li_271, li_272, li_273, li_274, li_275, li_276, li_277, li_278, li_300, li_400, li_420, li_500, li_802, li_820, li_823, li_839, li_855, li_871, li_887, li_999, li_1000, li_1001, li_1002, li_1003, li_1004, li_1005, li_1006, li_1007, li_1008, li_1009, li_1010, li_1011, li_1012, li_1013, li_1014, li_1015, li_1016, li_1017, li_1018, li_1019, li_1020, li_1021, li_1022, li_1023, li_1707, li_4096, li_9999, li_65536, li_100000, li_1000000, li_1664525, li_100000000, li_252645135, li_858993459, li_1000000007, li_1013904223, li_1431655765, li_m1]
        rw [bnd_s, h124, G.1.h7.1, nz_one (by omega), nz_xor]
        have W2 := wfc_bits (c := 3) G.1 (Or.inl rfl) (xor_lt G.1.h7.2 hh)
        have ew : mset m3 124 7 (nI (zt (m 124) ^^^ 2 ^ h)) 124 = upd (m 124) (3 + 4) (nI (zt (m 124) ^^^ 2 ^ h)) := by rw [mset_eq, h124]
        have nt : ∀ x, x = b2i b → Wp (bd (f_X12_notes N (nI 5) (nI h) x (mset m3 124 7 (nI (zt (m 124) ^^^ 2 ^ h)))) fun _ m_48 => some (nI 1, m_48)) (fun v m4 => v = nI 1 ∧ m4 124 = nteS (upd (m 124) (3 + 4) (nI (if 3 = 3 then zt (m 124) ^^^ 2 ^ h else zv (m 124) ^^^ 2 ^ h))) (nI 5) (nI h) (b2i b) ∧ (∀ j, m4 123 j = m3 123 j) ∧ Fr [(124, 124)] m3 m4) := by
          rintro x rfl
          refine wp_bind (w_noteM ew W2 (by rw [mset_k (by decide)]; exact h26)) ?_
          rintro _ m4 ⟨h4, f4⟩
          exact wp_ret ⟨rfl, h4, fun j => by rw [f4.at 123 (by decide), mset_k (by decide)], (Fr.set (S := [(124, 124)]) Fr.rf (by decide)).trans f4⟩
        cases b with
        | false => rw [if_pos (by decide)]; exact nt _ rfl
        | true => rw [if_neg (by decide)]; exact nt _ rfl
  cases b with
  | false =>
    rw [if_pos (by decide)]
    exact wp_bd key
  | true =>
    rw [if_neg (by decide)]
    exact wp_bd key
theorem pr_undo (hN : 20000 ≤ N) : Pr (f_X11_undo N) (f_X12_undo N) := by
  intro m hI
  obtain ⟨LN, H, G, ⟨k, p, hP⟩, hIm, hT, hFl, h113⟩ := id hI
  obtain ⟨hk, hp, e2, e1, e3, hs⟩ := id hP
  unfold f_X11_undo
  match k, hP, hk, e2, e3, hs with
  | 0, hP, hk, e2, e3, hs =>
    unfold f_X4_back
    rw [e2, if_neg (by decide), bd_s, show isB 0 = true by decide, chk_t]
    refine wp_ret ?_
    unfold f_X12_undo
    rw [e3, if_pos (by decide)]
    exact wp_ret ⟨rfl, hI⟩
  | k + 1, hP, hk, e2, e3, hs =>
    refine wp_bind (w_backC H G.1 hP) ?_
    rintro _ m1 ⟨rfl, H1, g1, g2, gc⟩
    rw [show isB (nI 1) = true by decide, chk_t]
    refine wp_ret ?_
    have e124 : m1 124 = m 124 := gc 124 (by omega) (by omega)
    have e126 : m1 126 = m 126 := gc 126 (by omega) (by omega)
    have e123 : m1 123 = m 123 := gc 123 (by omega) (by omega)
    refine wp_mono (w_undoM hN e124 (k := k) (by omega) (by rw [e123]; exact e3)) ?_
    rintro _ m2 ⟨rfl, h2, h4, hj, f2⟩
    rw [e126] at h2
    obtain ⟨hR, hl⟩ := hs k (by omega)
    have W' := G.1.low hl (fun j hj => ovl_hi hj)
    have o2 : ∀ c, c < 123 ∨ 124 < c → m2 c = m1 c := fun c hc => f2 c (fun q hq => by
      have : q = (123, 124) := by simpa using hq
      subst this
      exact hc)
    refine ⟨rfl, hI.re (LN := LN) (w' := ovl (m 124) (m 126) k) (H1.fr W'.sml f2 (by decide +kernel)) h2 ⟨W', hl.2.2.2.2, G.2.2.cg (fun i hi => ovl_hi (by omega))⟩ ⟨_, _, hP.back (m' := m2) G.1 ?_ ?_ h4 (fun c h1 h2 => ?_) ?_⟩ (fun c hc => ?_) ?_ ?_ ?_⟩
    · rw [o2 48 (by omega)]; exact g1
    · rw [o2 48 (by omega)]; exact g2
    · rw [o2 c (by omega), gc c (by omega) (by omega)]
    · rw [o2 126 (by omega)]; exact e126
    · rw [o2 c (by omega), gc c (by omega) (by omega)]
    · rw [o2 103 (by omega), gc 103 (by omega) (by omega)]; exact ⟨rfl, rfl⟩
    · rw [o2 113 (by omega), gc 113 (by omega) (by omega)]
    · intro j h
      rw [hj j (by omega), e123]
end DONE
