/-! HEARERS and DEEDS told; paid, gloves, let; performed, evenings, undone: pairs -/
section DONE
variable {w w' : Arr} {LN : List Lin} {m m' m2 : Mem} {N : Nat}
/-- from the class's keep and the reference's, one behind the other with what the class does between -/
theorem keep_pair {k p : Nat} {m1 m3 : Mem} (hP : PasR k p (m 124) m) (G : Good LN (m 124)) (hM : MomR (50 + 7 * p) (m 124) m1) (e1 : m1 48 1 = nI ((p + 1) % 6)) (e2 : m1 48 2 = nI (min 6 (k + 1))) (hc : ∀ c, c ≠ 48 → (c < 50 + 7 * p ∨ 50 + 7 * p + 6 < c) → m1 c = m c)
    (h3 : ∀ c, 48 ≤ c → c ≤ 91 → m3 c = m1 c) (e4 : m3 123 4 = nI (min 6 (k + 1))) (hs1 : ∀ j, j < 37 → m3 126 (37 * (min 6 (k + 1) - 1) + j) = m 124 j) (hs2 : ∀ i, i + 1 < min 6 (k + 1) → ∀ j, j < 37 → m3 126 (37 * i + j) = m 126 (37 * (i + (if k = 6 then 1 else 0)) + j)) : PasR (min 6 (k + 1)) ((p + 1) % 6) (m 124) m3 := by
  refine hP.kept G.1 G.2.1 (by rw [h3 48 (by omega) (by omega)]; exact e1) (by rw [h3 48 (by omega) (by omega)]; exact e2) e4 (hM.cg G.1.sml (fun c h1 h2 => h3 c (by omega) (by
    have := hP.2.1
    omega)) (fun _ _ => rfl)) (fun c h1 h2 h3' => ?_) hs1 hs2
  rw [h3 c (by omega) h2]
  exact hc c (by omega) h3'
theorem pr_perform {a : Int32} (hN : 20000 ≤ N) : Pr (f_X11_perform N a) (f_X12_perform N a) := by
  intro m hI
  obtain ⟨LN, H, G, ⟨k, p, hP⟩, hIm, hT, hFl, h113⟩ := id hI
  obtain ⟨hk, hp, e2, e1, e3, -⟩ := id hP
  have ld := G.1.lzd
  have hM : ∀ m1 : Mem, m1 124 = m 124 → f_X12_perform N a m1 = if b2i (inb a (zd (m 124))) = nI 0 then some (mo1, m1) else (chk (inb ((89 : Int32) + a) 1707) <|
      if ((m1 124 0) + ((21 : Int32) * (m1 124 ((89 : Int32) + a).toNatClampNeg))) < (9999 : Int32) then (bd (f_X12_keeps N m1) fun _ m_36 => bd (f_X12_does N a m_36) fun r_41 m_41 => some (r_41, m_41)) else (some ((-1), m1))) := by
    intro m1 h1
    unfold f_X12_perform
    rw [e_isDeed h1 G.1, bd_s]
    rfl
  unfold f_X11_perform
  simp only [li_0, li_1, li_2, li_3, li_4, li_5, li_6, li_7, li_8, li_9, li_10, li_11, li_12, li_13, li_14, li_15, li_16, li_17, li_18, li_19, li_20, li_21, li_22, li_23, li_24, li_25, li_26, li_27, li_28, li_29, li_30, li_31, li_32, li_37, li_38, li_39, li_40, li_41, li_42, li_43, li_44, li_45, li_46, li_47, li_48, li_49, li_50, li_57, li_59, li_60, li_61, li_62, li_63, li_64, li_65, li_69, li_81, li_89, li_90, li_92, li_97, li_99, li_100, li_101, li_103, li_104, li_105, li_106, li_108, li_111, li_112, li_113, li_114, li_115, li_116, li_117, li_119, li_122, li_123, li_124, li_125, li_126, li_127, li_128, li_129, li_130, li_131, li_132, li_133, li_134, li_135, li_136, li_137, li_140, li_141, li_142, li_143, li_145, li_147, li_150, li_153, li_159, li_160, li_161, li_162, li_185, li_197, li_213, li_222, li_223, li_255, li_256, li_257, li_258, li_259, li_260, li_261, li_262, li_263, li_264, li_271, li_272, li_273, li_274, li_275, li_276, li_277, li_278, li_300, li_400, li_420, li_500, li_802, li_820, li_823, li_839, li_855, li_871, li_887, li_999, li_1000, li_1001, li_1002, li_1003, li_1004, li_1005, li_1006, li_1007, li_1008, li_1009, li_1010, li_1011, li_1012, li_1013, li_1014, li_1015, li_1016, li_1017, li_1018, li_1019, li_1020, li_1021, li_1022, li_1023, li_1707, li_4096, li_9999, li_65536, li_100000, li_1000000, li_1664525, li_100000000, li_252645135, li_858993459, li_1000000007, li_1013904223, li_1431655765, li_m1]
  rw [hr_hasD H G.1, bd_s]
  rcases inb_cases a (n := zd (m 124)) (by omega) with ⟨e, -⟩ | ⟨d, hd, rfl⟩
  · rw [e, if_pos (by decide)]
    refine wp_ret ?_
    rw [hM m rfl, e, if_pos (by decide)]
    exact wp_ret ⟨rfl, hI⟩
  · rw [inb_nI hd (by omega), if_neg (by decide), hr_hour H (by decide), bd_s, hr_dee H G.1 hd (by decide), bd_s, bnd_s]
    rw [inb_nI hd (by omega)] at hM
    have ec : m 124 (houI 0) + nI 21 * deeV (m 124) d 1 = m 124 0 + nI 21 * m 124 (89 + d) := rfl
    rw [ec]
    have hM2 : ∀ m1 : Mem, m1 124 = m 124 → f_X12_perform N (nI d) m1 = if m 124 0 + nI 21 * m 124 (89 + d) < nI 9999 then (bd (f_X12_keeps N m1) fun _ m_36 => bd (f_X12_does N (nI d) m_36) fun r_41 m_41 => some (r_41, m_41)) else (some (mo1, m1)) := by
      intro m1 h1
      rw [hM m1 h1, if_neg (by decide)]
      simp only [li_0, li_1, li_2, li_3, li_4, li_5, li_6, li_7, li_8, li_9, li_10, li_11, li_12, li_13, li_14, li_15, li_16, li_17, li_18, li_19, li_20, li_21, li_22, li_23, li_24, li_25, li_26, li_27, li_28, li_29, li_30, li_31, li_32, li_37, li_38, li_39, li_40, li_41, li_42, li_43, li_44, li_45, li_46, li_47, li_48, li_49, li_50, li_57, li_59, li_60, li_61, li_62, li_63, li_64, li_65, li_69, li_81, li_89, li_90, li_92, li_97, li_99, li_100, li_101, li_103, li_104, li_105, li_106, li_108, li_111, li_112, li_113, li_114, li_115, li_116, li_117, li_119, li_122, li_123, li_124, li_125, li_126, li_127, li_128, li_129, li_130, li_131, li_132, li_133, li_134, li_135, li_136, li_137, li_140, li_141, li_142, li_143, li_145, li_147, li_150, li_153, li_159, li_160, li_161, li_162, li_185, li_197, li_213, li_222, li_223, li_255, li_256, li_257, li_258, li_259, li_260, li_261, li_262, li_263, li_264, li_271, li_272, li_273, li_274, li_275, li_276, li_277, li_278, li_300, li_400, li_420, li_500, li_802, li_820, li_823, li_839, li_855, li_871, li_887, li_999, li_1000, li_1001, li_1002, li_1003, li_1004, li_1005, li_1006, li_1007, li_1008, li_1009, li_1010, li_1011, li_1012, li_1013, li_1014, li_1015, li_1016, li_1017, li_1018, li_1019, li_1020, li_1021, li_1022, li_1023, li_1707, li_4096, li_9999, li_65536, li_100000, li_1000000, li_1664525, li_100000000, li_252645135, li_858993459, li_1000000007, li_1013904223, li_1431655765, li_m1, nI_add]
      rw [inb_nI (by omega) (by omega), chk_t, nI_clamp (by omega), h1]
    refine wp_ite (fun q => ?_) (fun q => ?_)
    · refine wp_bind (w_keepC H G.1 hk hp e1 e2) ?_
      rintro _ m1 ⟨H1, hMo, g1, g2, gc⟩
      have t1 : m1 113 4 = nI 0 := by rw [gc 113 (by omega) (by omega)]; exact h113
      refine wp_bind (w_doesC (tru := true) hN H1 G.1 G.2.1 (by decide) hd t1) ?_
      rintro _ m2 ⟨rfl, H2, f2, t2⟩
      have e124 : m2 124 = m 124 := by rw [f2.at 124 (by decide), gc 124 (by omega) (by omega)]
      have e123 : m2 123 = m 123 := by rw [f2.at 123 (by decide), gc 123 (by omega) (by omega)]
      have e126 : m2 126 = m 126 := by rw [f2.at 126 (by decide), gc 126 (by omega) (by omega)]
      refine wp_ret ?_
      rw [hM2 m2 e124, if_pos q]
      refine wp_bind (w_keepsM hN e124 hk (by rw [e123]; exact e3)) ?_
      rintro _ m3 ⟨s4, s26, sj, sf, ss1, ss2⟩
      have e124' : m3 124 = m 124 := by rw [sf.at 124 (by decide)]; exact e124
      refine wp_bind (w_doesM (tru := true) hN e124' G.1 G.2.1 (by decide) hd G.2.2 H.lawk s26) ?_
      rintro _ m4 ⟨rfl, h4, j4, f4⟩
      have wf := dosS_wf (LN := LN) (tru := true) (d := d) 21 (m 124) 0 G.1 G.2.1 (by decide) hd
      -- MINUTE stays small: it was looked at before
      have wm : WFm 11258 (dosS LN true d 21 (m 124) 0).1 := by
        obtain ⟨a0, b0, h0, h40, hba, haB⟩ := G.2.1
        obtain ⟨kk, k1, k2, ek⟩ := (G.1.dee hd).2
        rw [h0, ek, pk_mul, nI_add, nI_ltI (by omega) (by decide)] at q
        have := (dosS_wf (LN := LN) (tru := true) (d := d) (B := a0) 21 (m 124) 0 G.1 ⟨a0, b0, h0, h40, hba, Nat.le_refl _⟩ (by omega) hd).2.1
        obtain ⟨x, y, g0, g4, g5, g6⟩ := this
        exact ⟨x, y, g0, g4, g5, by omega⟩
      have hP3 : PasR (min 6 (k + 1)) ((p + 1) % 6) (m 124) m4 := by
        refine keep_pair hP G hMo g1 g2 gc (fun c h1 h2 => ?_) ?_ ?_ ?_
        · rw [f4 c (fun q hq => by
            simp only [List.mem_cons, List.not_mem_nil, or_false] at hq
            rcases hq with rfl | rfl <;> omega), sf c (fun q hq => by
            simp only [List.mem_cons, List.not_mem_nil, or_false] at hq
            rcases hq with rfl | rfl <;> omega), f2 c (fun q hq => by
            simp only [List.mem_cons, List.not_mem_nil, or_false] at hq
            rcases hq with rfl | rfl | rfl <;> omega)]
        · rw [j4 4 (by decide)]; exact s4
        · intro j hj
          rw [f4.at 126 (by decide)]; exact ss1 j hj
        · intro i hi j hj
          rw [f4.at 126 (by decide), ss2 i hi j hj, e126]
      have hk7 : ∀ i, (37 ≤ i ∧ i < 40) ∨ i = 41 ∨ (45 ≤ i ∧ i < 153) ∨ (185 ≤ i ∧ i < 197) → (dosS LN true d 21 (m 124) 0).1 i = m 124 i := fun i hi => dosS_o 21 _ _ (by omega) (by omega) (by omega) (by omega)
      refine wp_ret ⟨rfl, hI.re (LN := LN) (w' := (dosS LN true d 21 (m 124) 0).1) ?_ h4 ⟨wf.1, wm, dosS_law (B := 0) 21 _ 0 G.1 G.2.2 hd⟩ ?_ ?_ ?_ ?_ ?_⟩
      · exact (H2.fr wf.1.sml sf (by decide +kernel)).fr wf.1.sml f4 (by decide +kernel)
      · exact PastR.cg (w := m 124) (m := m4) ⟨_, _, hP3⟩ G.1 (fun _ _ _ => rfl) ⟨rfl, rfl⟩ rfl rfl hk7
      · intro c hcs
        rw [f4 c (fun q hq => by
          simp only [List.mem_cons, List.not_mem_nil, or_false] at hq
          rcases hq with rfl | rfl <;> omega), sf c (fun q hq => by
          simp only [List.mem_cons, List.not_mem_nil, or_false] at hq
          rcases hq with rfl | rfl <;> omega), f2 c (fun q hq => by
          simp only [List.mem_cons, List.not_mem_nil, or_false] at hq
          rcases hq with rfl | rfl | rfl <;> omega), gc c (by omega) (by omega)]
      · rw [f4.at 103 (by decide), sf.at 103 (by decide), f2.at 103 (by decide), gc 103 (by omega) (by omega)]; exact ⟨rfl, rfl⟩
      · rw [f4.at 113 (by decide), sf.at 113 (by decide), t2, gc 113 (by omega) (by omega)]
      · intro j hj
        rw [j4 j (by omega), sj j (by omega) (by omega), e123]
    · refine wp_ret ?_
      rw [hM2 m rfl, if_neg q]
      exact wp_ret ⟨rfl, hI⟩
end DONE
