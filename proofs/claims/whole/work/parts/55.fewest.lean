/-! makes and brakes: pairs -/
section FEWEST
variable {w w' v0 : Arr} {LN : List Lin} {m m' m2 : Mem} {N d n j i : Nat} {x : Int32}
theorem w_fewest (hN : 20000 ≤ N) (H : HRep 2 LN w m) (G : Good LN w) (hd : d < zd w) (h1 : 1 ≤ n) (hn : n ≤ 5) :
    Wp (f_X11_fewestAway N (nI d) (nI n) m) (fun v m' => BstV (ralS LN w d n) (fun s => Dq LN w d n (sdf (ralS LN w d n) s)) v ∧ HRep 2 LN w m' ∧ Fr [(3, 9), (92, 98), (111, 112), (116, 120)] m m') := by
  obtain ⟨Wn, -, -, on⟩ := tirS_ok (LN := LN) G.1 G.2.2 hd n
  unfold f_X11_fewestAway
  refine wp_bind (thk_in H G.1) ?_
  rintro _ m1 ⟨H1, hM1, f1⟩
  refine wp_bind (w_prepare hN G.1 G.2.2 hd H1 h1 hn) ?_
  rintro _ m2 ⟨H2, P2, f2⟩
  refine wp_bind (thk_out H2 Wn.sml G.1 (hM1.fr G.1.sml f2 (by decide)) on) ?_
  rintro _ m3 ⟨H3, f3⟩
  have P3 : PrpR LN w d n n m3 := by
    obtain ⟨a, b, c, e, g⟩ := P2
    unfold PrpR
    rw [f3.at 117 (by decide), f3.at 118 (by decide), f3.at 119 (by decide), f3.at 120 (by decide), f3.at 116 (by decide)]
    exact ⟨a, b, c, e, g⟩
  refine wp_bind (w_away hN G.1 G.2.2 hd H3 P3 h1 hn) ?_
  rintro v m4 ⟨rfl, hv⟩
  exact wp_ret ⟨hv, H3, ((f1.mono (by decide)).trans (f2.mono (by decide))).trans (f3.mono (by decide))⟩
/-- the reference does it in a house where another is there or gloved, and puts all back -/
theorem w_dx {x : Nat} (hN : 20000 ≤ N) (hj : (j = 7 ∨ j = 8)) (hx : x < 2 ^ zh w) (h124 : m' 124 = upd w j (nI x)) (h26 : m' 123 26 = nI 0) (h7 : ∀ j, j < 37 → m' 127 j = w j) (G : Good LN w) (ho : lawOk LN) (hd : d < zd w) :
    Wp (bd (f_X12_does N (nI d) m') fun r_19 m_19 => bd (f_X12_putsBack N m_19) fun _ m_24 => some (r_19, m_24)) (fun v m2 => v = nI (dosS LN false d 21 (upd w j (nI x)) 0).2 ∧ m2 124 = w ∧ (∀ j, j < 26 → m2 123 j = m' 123 j) ∧ Fr [(123, 124), (132, 134)] m' m2) := by
  have ld := G.1.lzd
  have W' : WFc (upd w j (nI x)) := by
    rcases hj with rfl | rfl
    · exact wfc_bits (c := 3) G.1 (Or.inl rfl) hx
    · exact wfc_bits (c := 4) G.1 (Or.inr rfl) hx
  have zd' : zd (upd w j (nI x)) = zd w := by
    unfold zd
    rw [ud_n (by omega)]
  refine wp_bind (w_doesM (tru := false) hN h124 W' (G.2.1.up (by omega) (by omega)) (by decide) (by rw [zd']; exact hd) (G.2.2.up (by omega) (by omega)) ho h26) ?_
  rintro _ m1 ⟨rfl, h1, j1, f1⟩
  refine wp_bind (w_pbM (w := w) hN (fun k hk => by rw [f1.at 127 (by decide)]; exact h7 k hk) (fun k hk => ?_)) ?_
  · rw [h1, dosS_f (by omega) hk, ud_n (by omega)]
  rintro _ m2 ⟨h2, f2⟩
  exact wp_ret ⟨rfl, h2, fun k hk => by rw [f2.at 123 (by decide), j1 k (by omega)], f1.trans (f2.mono (by decide))⟩
theorem w_dwo {s : Nat} (hN : 20000 ≤ N) (hm : m 124 = w) (G : Good LN w) (ho : lawOk LN) (hd : d < zd w) : Wp (f_X12_doneWithout N (nI d) (nI s) m) (fun v m2 => v = nI (dosS LN false d 21 (upd w 7 (nI (sdf (zt w) s))) 0).2 ∧ m2 124 = w ∧ (∀ j, j < 26 → m2 123 j = m 123 j) ∧ Fr [(123, 124), (127, 127), (132, 134)] m m2) := by
  unfold f_X12_doneWithout
  simp only [li_0, li_1, li_2, li_3, li_4, li_5, li_6, li_7, li_8, li_9, li_10, li_11, li_12, li_13, li_14, li_15, li_16, li_17, li_18, li_19, li_20, li_21, li_22, li_23, li_24, li_25, li_26, li_27, li_28, li_29, li_30, li_31, li_32, li_37, li_38, li_39, li_40, li_41, li_42, li_43, li_44, li_45, li_46, li_47, li_48, li_49, li_50, li_57, li_59, li_60, li_61, li_62, li_63, li_64, li_65, li_69, li_81, li_89, li_90, li_92, li_97, li_99, li_100, li_101, li_103, li_104, li_105, li_106, li_108, li_111, li_112, li_113, li_114, li_115, li_116, li_117, li_119, li_122, li_123, li_124, li_125, li_126, li_127, li_128, li_129, li_130, li_131, li_132, li_133, li_134, li_135, li_136, li_137, li_140, li_141, li_142, li_143, li_145, li_147, li_150, li_153, li_159, li_160, li_161, li_162, li_185, li_197, li_213, li_222, li_223, li_255, li_256, li_257, li_258, li_259, li_260, li_261, li_262, li_263, li_264, li_271, li_272, li_273, li_274, li_275, li_276, li_277, li_278, li_300, li_400, li_420, li_500, li_802, li_820, li_823, li_839, li_855, li_871, li_887, li_999, li_1000, li_1001, li_1002, li_1003, li_1004, li_1005, li_1006, li_1007, li_1008, li_1009, li_1010, li_1011, li_1012, li_1013, li_1014, li_1015, li_1016, li_1017, li_1018, li_1019, li_1020, li_1021, li_1022, li_1023, li_1707, li_4096, li_9999, li_65536, li_100000, li_1000000, li_1664525, li_100000000, li_252645135, li_858993459, li_1000000007, li_1013904223, li_1431655765, li_m1]
  refine wp_bind (w_layM hN) ?_
  rintro _ m1 ⟨h7, h26, hj, f1⟩
  have e124 : m1 124 = w := (f1.at 124 (by decide)).trans hm
  rw [e124, G.1.h7.1, nz_diff, bnd_s]
  refine wp_mono (w_dx (j := 7) hN (Or.inl rfl) (Nat.lt_of_le_of_lt (sdf_le _ _) G.1.h7.2) (by rw [mset_eq, e124]) (by rw [mset_ne (by decide)]; exact h26) (fun k hk => by rw [mset_ne (by decide), h7 k hk, hm]) G ho hd) ?_
  rintro _ m2 ⟨rfl, h2, j2, f2⟩
  exact ⟨rfl, h2, fun k hk => by rw [j2 k hk, mset_ne (by decide), hj k (by omega)], (f1.mono (by decide)).trans ((Fr.set (S := [(123, 124), (127, 127), (132, 134)]) Fr.rf (by decide)).trans (f2.mono (by decide)))⟩
theorem w_dwg {s : Nat} (hN : 20000 ≤ N) (hm : m 124 = w) (G : Good LN w) (ho : lawOk LN) (hd : d < zd w) (hs : s < 2 ^ zh w) : Wp (f_X12_doneWithGloves N (nI d) (nI s) m) (fun v m2 => v = nI (dosS LN false d 21 (upd w 8 (nI (zv w ||| s))) 0).2 ∧ m2 124 = w ∧ (∀ j, j < 26 → m2 123 j = m 123 j) ∧ Fr [(123, 124), (127, 127), (132, 134)] m m2) := by
  unfold f_X12_doneWithGloves
  refine wp_bind (w_layM hN) ?_
  rintro _ m1 ⟨h7, h26, hj, f1⟩
  have e124 : m1 124 = w := (f1.at 124 (by decide)).trans hm
  rw [e124, G.1.h8.1, nz_or, bnd_s]
  refine wp_mono (w_dx (j := 8) hN (Or.inr rfl) (Nat.or_lt_two_pow G.1.h8.2 hs) (by rw [mset_eq, e124]) (by rw [mset_ne (by decide)]; exact h26) (fun k hk => by rw [mset_ne (by decide), h7 k hk, hm]) G ho hd) ?_
  rintro _ m2 ⟨rfl, h2, j2, f2⟩
  exact ⟨rfl, h2, fun k hk => by rw [j2 k hk, mset_ne (by decide), hj k (by omega)], (f1.mono (by decide)).trans ((Fr.set (S := [(123, 124), (127, 127), (132, 134)]) Fr.rf (by decide)).trans (f2.mono (by decide)))⟩
theorem w_makesM {a3 : Int32} {K : Int32 → Mem → Ans} {Q : Int32 → Mem → Prop} (hN : 20000 ≤ N) (hm : m 124 = w) (G : Good LN w) (ho : lawOk LN) (hd : d < zd w) (hn : n ≤ 5)
    (hK : ∀ v m', BstV (zt w) (fun s => (dosS LN false d 21 (upd w 7 (nI (sdf (zt w) s))) 0).2 = n) v → m' 124 = w → (∀ j, j < 26 → m' 123 j = m 123 j) → Fr [(123, 124), (127, 127), (132, 134)] m m' → Wp (K v m') Q) :
    Wp (it2 (f_X12_makes_L34 N (nI d) (nI n) a3 K) N mo1 (nI 0) m) Q := by
  have lh := G.1.lzh
  have p := pow_le31 lh
  have lz := G.1.h7.2
  refine wp_it2 (fun q x y m' => ∃ o s, s ≤ zt w + 1 ∧ q = zt w + 1 - s ∧ x = oix o ∧ y = nI s ∧ BP (zt w) (fun s => (dosS LN false d 21 (upd w 7 (nI (sdf (zt w) s))) 0).2 = n) s o ∧ m' 124 = w ∧ (∀ j, j < 26 → m' 123 j = m 123 j) ∧ Fr [(123, 124), (127, 127), (132, 134)] m m') ?_ N (zt w + 1) _ _ _ (by omega)
    ⟨none, 0, by omega, rfl, rfl, rfl, BP.zero, hm, fun _ _ => rfl, Fr.rf⟩
  rintro q X x y m' ⟨o, s, hs, rfl, rfl, rfl, hbp, h', j', f'⟩ hX
  unfold f_X12_makes_L34
  simp only [li_0, li_1, li_2, li_3, li_4, li_5, li_6, li_7, li_8, li_9, li_10, li_11, li_12, li_13, li_14, li_15, li_16, li_17, li_18, li_19, li_20, li_21, li_22, li_23, li_24, li_25, li_26, li_27, li_28, li_29, li_30, li_31, li_32, li_37, li_38, li_39, li_40, li_41, li_42, li_43, li_44, li_45, li_46, li_47, li_48, li_49, li_50, li_57, li_59, li_60, li_61, li_62, li_63, li_64, li_65, li_69, li_81, li_89, li_90, li_92, li_97, li_99, li_100, li_101, li_103, li_104, li_105, li_106, li_108, li_111, li_112, li_113, li_114, li_115, li_116, li_117, li_119, li_122, li_123, li_124, li_125, li_126, li_127, li_128, li_129, li_130, li_131, li_132, li_133, li_134, li_135, li_136, li_137, li_140, li_141, li_142, li_143, li_145, li_147, li_150, li_153, li_159, li_160, li_161, li_162, li_185, li_197, li_213, li_222, li_223, li_255, li_256, li_257, li_258, li_259, li_260, li_261, li_262, li_263, li_264, li_271, li_272, li_273, li_274, li_275, li_276, li_277, li_278, li_300, li_400, li_420, li_500, li_802, li_820, li_823, li_839, li_855, li_871, li_887, li_999, li_1000, li_1001, li_1002, li_1003, li_1004, li_1005, li_1006, li_1007, li_1008, li_1009, li_1010, li_1011, li_1012, li_1013, li_1014, li_1015, li_1016, li_1017, li_1018, li_1019, li_1020, li_1021, li_1022, li_1023, li_1707, li_4096, li_9999, li_65536, li_100000, li_1000000, li_1664525, li_100000000, li_252645135, li_858993459, li_1000000007, li_1013904223, li_1431655765, li_m1, nI_up]
  rw [h', G.1.h7.1, nz_diff]
  refine wp_ite (fun q => ?_) (fun q => ?_) <;> rw [nI_ltI (by omega) (by omega)] at q
  · obtain ⟨s, rfl⟩ : ∃ s', s = s' + 1 := ⟨s - 1, by omega⟩
    exact hK _ m' (hbp.fin (by omega)) h' j' f'
  · have ls := sdf_le s (zt w)
    have go : ∀ o' m3, BP (zt w) (fun s => (dosS LN false d 21 (upd w 7 (nI (sdf (zt w) s))) 0).2 = n) (s + 1) o' → m3 124 = w → (∀ j, j < 26 → m3 123 j = m 123 j) → Fr [(123, 124), (127, 127), (132, 134)] m m3 → Wp (X (oix o') (nI (s + 1)) m3) Q := by
      intro o' m3 hb h3 j3 f3
      exact hX (zt w + 1 - (s + 1)) _ _ _ (by omega) ⟨o', s + 1, by omega, rfl, rfl, rfl, hb, h3, j3, f3⟩
    refine wp_ite (fun q2 => ?_) (fun q2 => ?_)
    · rw [nI_eq (by omega) (by decide)] at q2
      have hsb := sb_sdf.mp q2
      have run : (∀ b, o = some b → pc s < pc b) → Wp (bd (f_X12_doneWithout N (nI d) (nI s) m') fun r_84 m_84 => if r_84 = nI n then (X (nI s) (nI (s + 1)) m_84) else (X (oix o) (nI (s + 1)) m_84)) Q := by
        intro hl
        refine wp_bind (w_dwo hN h' G ho hd) ?_
        rintro _ m3 ⟨rfl, h3, j3, f3⟩
        have l21 := dosS_n (LN := LN) (tru := false) (d := d) 21 (upd w 7 (nI (sdf (zt w) s))) 0
        refine wp_ite (fun q3 => ?_) (fun q3 => ?_) <;> rw [nI_eq (by omega) (by omega)] at q3
        · exact go (some s) m3 (hbp.new hsb q3 hl) h3 (fun k hk => by rw [j3 k hk, j' k hk]) (f'.trans f3)
        · exact go o m3 (hbp.skip (fun z => q3 z.2)) h3 (fun k hk => by rw [j3 k hk, j' k hk]) (f'.trans f3)
      cases o with
      | none =>
        rw [if_pos (by rfl)]
        exact run (fun b hb => by cases hb)
      | some b =>
        have hb := hbp.lt
        have l1 := pc_le s
        have l2 := pc_le b
        rw [if_neg (show ¬ oix (some b) = mo1 from nI_no1 (by omega)), e_count _ hN (by omega), bd_s]
        show Wp (bd (f_X12_count N (nI b) m') _) Q
        rw [e_count _ hN (by omega), bd_s]
        refine wp_ite (fun q3 => ?_) (fun q3 => ?_) <;> rw [nI_leI (by omega) (by omega)] at q3
        · exact go (some b) m' (hbp.keep q3) h' j' f'
        · exact run (fun b' hb' => by
            have := Option.some.inj hb'
            subst this
            omega)
    · rw [nI_eq (by omega) (by decide)] at q2
      exact go o m' (hbp.skip (fun z => q2 (sb_sdf.mpr z.1))) h' j' f'
theorem w_brakesM {a3 : Int32} {K : Int32 → Mem → Ans} {Q : Int32 → Mem → Prop} (hN : 20000 ≤ N) (hm : m 124 = w) (G : Good LN w) (ho : lawOk LN) (hd : d < zd w)
    (hK : ∀ v m', BstV (rdyS w) (fun s => (dosS LN false d 21 (upd w 8 (nI (zv w ||| s))) 0).2 = 1) v → m' 124 = w → (∀ j, j < 26 → m' 123 j = m 123 j) → Fr [(123, 124), (127, 127), (132, 134)] m m' → Wp (K v m') Q) :
    Wp (it2 (f_X12_brakes_L43 N (nI d) a3 (nI (rdyS w)) K) N mo1 (nI 0) m) Q := by
  have lh := G.1.lzh
  have p := pow_le31 lh
  have lz := rdyS_lt G.1
  refine wp_it2 (fun q x y m' => ∃ o s, s ≤ rdyS w + 1 ∧ q = rdyS w + 1 - s ∧ x = oix o ∧ y = nI s ∧ BP (rdyS w) (fun s => (dosS LN false d 21 (upd w 8 (nI (zv w ||| s))) 0).2 = 1) s o ∧ m' 124 = w ∧ (∀ j, j < 26 → m' 123 j = m 123 j) ∧ Fr [(123, 124), (127, 127), (132, 134)] m m') ?_ N (rdyS w + 1) _ _ _ (by omega)
    ⟨none, 0, by omega, rfl, rfl, rfl, BP.zero, hm, fun _ _ => rfl, Fr.rf⟩
  rintro q X x y m' ⟨o, s, hs, rfl, rfl, rfl, hbp, h', j', f'⟩ hX
  unfold f_X12_brakes_L43
  simp only [li_0, li_1, li_2, li_3, li_4, li_5, li_6, li_7, li_8, li_9, li_10, li_11, li_12, li_13, li_14, li_15, li_16, li_17, li_18, li_19, li_20, li_21, li_22, li_23, li_24, li_25, li_26, li_27, li_28, li_29, li_30, li_31, li_32, li_37, li_38, li_39, li_40, li_41, li_42, li_43, li_44, li_45, li_46, li_47, li_48, li_49, li_50, li_57, li_59, li_60, li_61, li_62, li_63, li_64, li_65, li_69, li_81, li_89, li_90, li_92, li_97, li_99, li_100, li_101, li_103, li_104, li_105, li_106, li_108, li_111, li_112, li_113, li_114, li_115, li_116, li_117, li_119, li_122, li_123, li_124, li_125, li_126, li_127, li_128, li_129, li_130, li_131, li_132, li_133, li_134, li_135, li_136, li_137, li_140, li_141, li_142, li_143, li_145, li_147, li_150, li_153, li_159, li_160, li_161, li_162, li_185, li_197, li_213, li_222, li_223, li_255, li_256, li_257, li_258, li_259, li_260, li_261, li_262, li_263, li_264, li_271, li_272, li_273, li_274, li_275, li_276, li_277, li_278, li_300, li_400, li_420, li_500, li_802, li_820, li_823, li_839, li_855, li_871, li_887, li_999, li_1000, li_1001, li_1002, li_1003, li_1004, li_1005, li_1006, li_1007, li_1008, li_1009, li_1010, li_1011, li_1012, li_1013, li_1014, li_1015, li_1016, li_1017, li_1018, li_1019, li_1020, li_1021, li_1022, li_1023, li_1707, li_4096, li_9999, li_65536, li_100000, li_1000000, li_1664525, li_100000000, li_252645135, li_858993459, li_1000000007, li_1013904223, li_1431655765, li_m1, nI_up]
  rw [nz_diff]
  refine wp_ite (fun q => ?_) (fun q => ?_) <;> rw [nI_ltI (by omega) (by omega)] at q
  · obtain ⟨s, rfl⟩ : ∃ s', s = s' + 1 := ⟨s - 1, by omega⟩
    exact hK _ m' (hbp.fin (by omega)) h' j' f'
  · have ls := sdf_le s (rdyS w)
    have go : ∀ o' m3, BP (rdyS w) (fun s => (dosS LN false d 21 (upd w 8 (nI (zv w ||| s))) 0).2 = 1) (s + 1) o' → m3 124 = w → (∀ j, j < 26 → m3 123 j = m 123 j) → Fr [(123, 124), (127, 127), (132, 134)] m m3 → Wp (X (oix o') (nI (s + 1)) m3) Q := by
      intro o' m3 hb h3 j3 f3
      exact hX (rdyS w + 1 - (s + 1)) _ _ _ (by omega) ⟨o', s + 1, by omega, rfl, rfl, rfl, hb, h3, j3, f3⟩
    refine wp_ite (fun q2 => ?_) (fun q2 => ?_)
    · rw [nI_eq (by omega) (by decide)] at q2
      have hsb := sb_sdf.mp q2
      have run : (∀ b, o = some b → pc s < pc b) → Wp (bd (f_X12_doneWithGloves N (nI d) (nI s) m') fun r_81 m_81 => if r_81 = nI 1 then (X (nI s) (nI (s + 1)) m_81) else (X (oix o) (nI (s + 1)) m_81)) Q := by
        intro hl
        refine wp_bind (w_dwg hN h' G ho hd (by omega)) ?_
        rintro _ m3 ⟨rfl, h3, j3, f3⟩
        have l21 := dosS_n (LN := LN) (tru := false) (d := d) 21 (upd w 8 (nI (zv w ||| s))) 0
        refine wp_ite (fun q3 => ?_) (fun q3 => ?_) <;> rw [nI_eq (by omega) (by omega)] at q3
        · exact go (some s) m3 (hbp.new hsb q3 hl) h3 (fun k hk => by rw [j3 k hk, j' k hk]) (f'.trans f3)
        · exact go o m3 (hbp.skip (fun z => q3 z.2)) h3 (fun k hk => by rw [j3 k hk, j' k hk]) (f'.trans f3)
      cases o with
      | none =>
        rw [if_pos (by rfl)]
        exact run (fun b hb => by cases hb)
      | some b =>
        have hb := hbp.lt
        have l1 := pc_le s
        have l2 := pc_le b
        rw [if_neg (show ¬ oix (some b) = mo1 from nI_no1 (by omega)), e_count _ hN (by omega), bd_s]
        show Wp (bd (f_X12_count N (nI b) m') _) Q
        rw [e_count _ hN (by omega), bd_s]
        refine wp_ite (fun q3 => ?_) (fun q3 => ?_) <;> rw [nI_leI (by omega) (by omega)] at q3
        · exact go (some b) m' (hbp.keep q3) h' j' f'
        · exact run (fun b' hb' => by
            have := Option.some.inj hb'
            subst this
            omega)
    · rw [nI_eq (by omega) (by decide)] at q2
      exact go o m' (hbp.skip (fun z => q2 (sb_sdf.mpr z.1))) h' j' f'
/-- a number of hearers, or the set -/
theorem BstV.is {R : Nat} {P : Nat → Prop} {v : Int32} (h : BstV R P v) : v = mo1 ∨ ∃ s, s ≤ R ∧ v = nI s := by
  rcases h with ⟨h, -⟩ | ⟨s, rfl, hs, -⟩
  · exact Or.inl h
  · exact Or.inr ⟨s, sb_le hs, rfl⟩
theorem diff_cg {S T R : Nat} (W0 : WFc w) (hw : lawW w LN) (hd : d < zd w) (h1 : 1 ≤ n) (hR : R = ralS LN w d n) (h : ∀ k, k < zh w → (rdyS w).testBit k = true → R.testBit k = true → S.testBit k = T.testBit k) (hS : sb S (rdyS w)) (hT : sb T (rdyS w)) : Dq LN w d n S ↔ Dq LN w d n T := by
  refine Dq_cg W0 hw hd h1 (fun i hi k hk hne hmay => ?_)
  have hrd : (rdyS w).testBit k = true := by
    cases h1 : S.testBit k with
    | true => exact hS k h1
    | false =>
      cases h2 : T.testBit k with
      | true => exact hT k h2
      | false => rw [h1, h2] at hne; exact absurd rfl hne
  have hRk : R.testBit k = true := by
    rw [hR]
    exact (ralS_bit n).mpr ⟨i, hi, hk, rowM_ne.mpr ⟨hrd, hmay⟩⟩
  exact hne (h k hk hrd hRk)
theorem Inv.few (h : Inv m) (H : HRep 2 LN (m 124) m') (G : Good LN (m 124)) (f1 : Fr [(3, 9), (92, 98), (111, 112), (116, 120)] m m') (e124 : m2 124 = m 124) (hj : ∀ j, j < 26 → m2 123 j = m' 123 j) (f2 : Fr [(123, 124), (127, 127), (132, 134)] m' m2) : Inv m2 := by
  refine h.th (LN := LN) (H.fr G.1.sml f2 (by decide +kernel)) G ((f1.mono (by decide)).trans (f2.mono (by decide))) e124 ?_ (fun j hj2 => ?_)
  · rw [f2.at 113 (by decide), f1.at 113 (by decide)]
  · rw [hj j (by omega), f1.at 123 (by decide)]
theorem pr_makes {a b c : Int32} (hN : 20000 ≤ N) : Pr (f_X11_makes N a b c) (f_X12_makes N a b c) := by
  intro m hI
  obtain ⟨LN, H, G, -⟩ := id hI
  have ld := G.1.lzd
  have lh := G.1.lzh
  have p := pow_le31 lh
  unfold f_X11_makes
  simp only [li_0, li_1, li_2, li_3, li_4, li_5, li_6, li_7, li_8, li_9, li_10, li_11, li_12, li_13, li_14, li_15, li_16, li_17, li_18, li_19, li_20, li_21, li_22, li_23, li_24, li_25, li_26, li_27, li_28, li_29, li_30, li_31, li_32, li_37, li_38, li_39, li_40, li_41, li_42, li_43, li_44, li_45, li_46, li_47, li_48, li_49, li_50, li_57, li_59, li_60, li_61, li_62, li_63, li_64, li_65, li_69, li_81, li_89, li_90, li_92, li_97, li_99, li_100, li_101, li_103, li_104, li_105, li_106, li_108, li_111, li_112, li_113, li_114, li_115, li_116, li_117, li_119, li_122, li_123, li_124, li_125, li_126, li_127, li_128, li_129, li_130, li_131, li_132, li_133, li_134, li_135, li_136, li_137, li_140, li_141, li_142, li_143, li_145, li_147, li_150, li_153, li_159, li_160, li_161, li_162, li_185, li_197, li_213, li_222, li_223, li_255, li_256, li_257, li_258, li_259, li_260, li_261, li_262, li_263, li_264, li_271, li_272, li_273, li_274, li_275, li_276, li_277, li_278, li_300, li_400, li_420, li_500, li_802, li_820, li_823, li_839, li_855, li_871, li_887, li_999, li_1000, li_1001, li_1002, li_1003, li_1004, li_1005, li_1006, li_1007, li_1008, li_1009, li_1010, li_1011, li_1012, li_1013, li_1014, li_1015, li_1016, li_1017, li_1018, li_1019, li_1020, li_1021, li_1022, li_1023, li_1707, li_4096, li_9999, li_65536, li_100000, li_1000000, li_1664525, li_100000000, li_252645135, li_858993459, li_1000000007, li_1013904223, li_1431655765, li_m1]
  rw [hr_hasD H G.1, bd_s]
  rcases inb_cases a (n := zd (m 124)) (by omega) with ⟨e, -⟩ | ⟨d, hd, rfl⟩
  · rw [e, if_pos (by decide)]
    refine wp_ret ?_
    unfold f_X12_makes
    simp only [li_0, li_1, li_2, li_3, li_4, li_5, li_6, li_7, li_8, li_9, li_10, li_11, li_12, li_13, li_14, li_15, li_16, li_17, li_18, li_19, li_20, li_21, li_22, li_23, li_24, li_25, li_26, li_27, li_28, li_29, li_30, li_31, li_32, li_37, li_38, li_39, li_40, li_41, li_42, li_43, li_44, li_45, li_46, li_47, li_48, li_49, li_50, li_57, li_59, li_60, li_61, li_62, li_63, li_64, li_65, li_69, li_81, li_89, li_90, li_92, li_97, li_99, li_100, li_101, li_103, li_104, li_105, li_106, li_108, li_111, li_112, li_113, li_114, li_115, li_116, li_117, li_119, li_122, li_123, li_124, li_125, li_126, li_127, li_128, li_129, li_130, li_131, li_132, li_133, li_134, li_135, li_136, li_137, li_140, li_141, li_142, li_143, li_145, li_147, li_150, li_153, li_159, li_160, li_161, li_162, li_185, li_197, li_213, li_222, li_223, li_255, li_256, li_257, li_258, li_259, li_260, li_261, li_262, li_263, li_264, li_271, li_272, li_273, li_274, li_275, li_276, li_277, li_278, li_300, li_400, li_420, li_500, li_802, li_820, li_823, li_839, li_855, li_871, li_887, li_999, li_1000, li_1001, li_1002, li_1003, li_1004, li_1005, li_1006, li_1007, li_1008, li_1009, li_1010, li_1011, li_1012, li_1013, li_1014, li_1015, li_1016, li_1017, li_1018, li_1019, li_1020, li_1021, li_1022, li_1023, li_1707, li_4096, li_9999, li_65536, li_100000, li_1000000, li_1664525, li_100000000, li_252645135, li_858993459, li_1000000007, li_1013904223, li_1431655765, li_m1]
    rw [e_isDeed rfl G.1, e, bd_s, if_pos (by decide)]
    exact wp_ret ⟨rfl, hI⟩
  · rw [inb_nI hd (by omega), if_neg (by decide), e_within, bd_s]
    cases hq : decide (nI 1 ≤ b ∧ b ≤ nI 5) with
    | false =>
      rw [if_pos (by decide)]
      refine wp_ret ?_
      unfold f_X12_makes
      simp only [li_0, li_1, li_2, li_3, li_4, li_5, li_6, li_7, li_8, li_9, li_10, li_11, li_12, li_13, li_14, li_15, li_16, li_17, li_18, li_19, li_20, li_21, li_22, li_23, li_24, li_25, li_26, li_27, li_28, li_29, li_30, li_31, li_32, li_37, li_38, li_39, li_40, li_41, li_42, li_43, li_44, li_45, li_46, li_47, li_48, li_49, li_50, li_57, li_59, li_60, li_61, li_62, li_63, li_64, li_65, li_69, li_81, li_89, li_90, li_92, li_97, li_99, li_100, li_101, li_103, li_104, li_105, li_106, li_108, li_111, li_112, li_113, li_114, li_115, li_116, li_117, li_119, li_122, li_123, li_124, li_125, li_126, li_127, li_128, li_129, li_130, li_131, li_132, li_133, li_134, li_135, li_136, li_137, li_140, li_141, li_142, li_143, li_145, li_147, li_150, li_153, li_159, li_160, li_161, li_162, li_185, li_197, li_213, li_222, li_223, li_255, li_256, li_257, li_258, li_259, li_260, li_261, li_262, li_263, li_264, li_271, li_272, li_273, li_274, li_275, li_276, li_277, li_278, li_300, li_400, li_420, li_500, li_802, li_820, li_823, li_839, li_855, li_871, li_887, li_999, li_1000, li_1001, li_1002, li_1003, li_1004, li_1005, li_1006, li_1007, li_1008, li_1009, li_1010, li_1011, li_1012, li_1013, li_1014, li_1015, li_1016, li_1017, li_1018, li_1019, li_1020, li_1021, li_1022, li_1023, li_1707, li_4096, li_9999, li_65536, li_100000, li_1000000, li_1664525, li_100000000, li_252645135, li_858993459, li_1000000007, li_1013904223, li_1431655765, li_m1]
      rw [e_isDeed rfl G.1, inb_nI hd (by omega), bd_s, if_neg (by decide), e_isIn, bd_s, hq, if_pos (by decide)]
      exact wp_ret ⟨rfl, hI⟩
    | true =>
      rw [if_neg (by decide), e_within, bd_s]
      cases hq2 : decide (nI 0 ≤ c ∧ c ≤ nI 1) with
      | false =>
        rw [if_pos (by decide)]
        refine wp_ret ?_
        unfold f_X12_makes
        simp only [li_0, li_1, li_2, li_3, li_4, li_5, li_6, li_7, li_8, li_9, li_10, li_11, li_12, li_13, li_14, li_15, li_16, li_17, li_18, li_19, li_20, li_21, li_22, li_23, li_24, li_25, li_26, li_27, li_28, li_29, li_30, li_31, li_32, li_37, li_38, li_39, li_40, li_41, li_42, li_43, li_44, li_45, li_46, li_47, li_48, li_49, li_50, li_57, li_59, li_60, li_61, li_62, li_63, li_64, li_65, li_69, li_81, li_89, li_90, li_92, li_97, li_99, li_100, li_101, li_103, li_104, li_105, li_106, li_108, li_111, li_112, li_113, li_114, li_115, li_116, li_117, li_119, li_122, li_123, li_124, li_125, li_126, li_127, li_128, li_129, li_130, li_131, li_132, li_133, li_134, li_135, li_136, li_137, li_140, li_141, li_142, li_143, li_145, li_147, li_150, li_153, li_159, li_160, li_161, li_162, li_185, li_197, li_213, li_222, li_223, li_255, li_256, li_257, li_258, li_259, li_260, li_261, li_262, li_263, li_264, li_271, li_272, li_273, li_274, li_275, li_276, li_277, li_278, li_300, li_400, li_420, li_500, li_802, li_820, li_823, li_839, li_855, li_871, li_887, li_999, li_1000, li_1001, li_1002, li_1003, li_1004, li_1005, li_1006, li_1007, li_1008, li_1009, li_1010, li_1011, li_1012, li_1013, li_1014, li_1015, li_1016, li_1017, li_1018, li_1019, li_1020, li_1021, li_1022, li_1023, li_1707, li_4096, li_9999, li_65536, li_100000, li_1000000, li_1664525, li_100000000, li_252645135, li_858993459, li_1000000007, li_1013904223, li_1431655765, li_m1]
        rw [e_isDeed rfl G.1, inb_nI hd (by omega), bd_s, if_neg (by decide), e_isIn, bd_s, hq, if_neg (by decide), e_isIn, bd_s, hq2, if_pos (by decide)]
        exact wp_ret ⟨rfl, hI⟩
      | true =>
        rw [if_neg (by decide)]
        obtain ⟨n, hn1, hn5, rfl⟩ := rng_of (by decide) (by decide) hq
        refine wp_bind (w_fewest hN H G hd hn1 hn5) ?_
        rintro v m1 ⟨hv, H1, f1⟩
        have e124 : m1 124 = m 124 := f1.at 124 (by decide)
        have lR := ralS_lt (LN := LN) (w := m 124) (d := d) n
        have lZ := G.1.h7.2
        have hM : f_X12_makes N (nI d) (nI n) c m1 = it2 (f_X12_makes_L34 N (nI d) (nI n) c (fun k4_101 mk101 => if k4_101 = mo1 then (some (k4_101, mk101))
            else (if c = nI 1 then (some (k4_101, mk101))
            else (bd (f_X12_count N k4_101 mk101) fun r_119 m_119 => some (r_119, m_119))))) N mo1 (nI 0) m1 := by
          unfold f_X12_makes
          simp only [li_0, li_1, li_2, li_3, li_4, li_5, li_6, li_7, li_8, li_9, li_10, li_11, li_12, li_13, li_14, li_15, li_16, li_17, li_18, li_19, li_20, li_21, li_22, li_23, li_24, li_25, li_26, li_27, li_28, li_29, li_30, li_31, li_32, li_37, li_38, li_39, li_40, li_41, li_42, li_43, li_44, li_45, li_46, li_47, li_48, li_49, li_50, li_57, li_59, li_60, li_61, li_62, li_63, li_64, li_65, li_69, li_81, li_89, li_90, li_92, li_97, li_99, li_100, li_101, li_103, li_104, li_105, li_106, li_108, li_111, li_112, li_113, li_114, li_115, li_116, li_117, li_119, li_122, li_123, li_124, li_125, li_126, li_127, li_128, li_129, li_130, li_131, li_132, li_133, li_134, li_135, li_136, li_137, li_140, li_141, li_142, li_143, li_145, li_147, li_150, li_153, li_159, li_160, li_161, li_162, li_185, li_197, li_213, li_222, li_223, li_255, li_256, li_257, li_258, li_259, li_260, li_261, li_262, li_263, li_264, li_271, li_272, li_273, li_274, li_275, li_276, li_277, li_278, li_300, li_400, li_420, li_500, li_802, li_820, li_823, li_839, li_855, li_871, li_887, li_999, li_1000, li_1001, li_1002, li_1003, li_1004, li_1005, li_1006, li_1007, li_1008, li_1009, li_1010, li_1011, li_1012, li_1013, li_1014, li_1015, li_1016, li_1017, li_1018, li_1019, li_1020, li_1021, li_1022, li_1023, li_1707, li_4096, li_9999, li_65536, li_100000, li_1000000, li_1664525, li_100000000, li_252645135, li_858993459, li_1000000007, li_1013904223, li_1431655765, li_m1]
          rw [e_isDeed e124 G.1, inb_nI hd (by omega), bd_s, if_neg (by decide), e_isIn, bd_s, hq, if_neg (by decide), e_isIn, bd_s, hq2, if_neg (by decide)]
        have model : ∀ u, (∀ m4, Wp (if v = mo1 then (some (v, m4) : Ans) else (if c = nI 1 then (some (v, m4)) else (bd (f_X12_count N v m4) fun r_119 m_119 => some (r_119, m_119)))) (fun x y => x = u ∧ y = m4)) → Wp (f_X12_makes N (nI d) (nI n) c m1) (fun v2 m2 => u = v2 ∧ Inv m2) := by
          intro u hu
          rw [hM]
          refine w_makesM hN e124 G H.lawk hd hn5 ?_
          intro v' m4 hv' h4 j4 f4
          have hcut := hv'.cut (R := ralS LN (m 124) d n) (Q := fun s => Dq LN (m 124) d n (sdf (ralS LN (m 124) d n) s)) (fun k hk => by
            have := ralS_sb k hk
            unfold rdyS at this
            rw [sdf_bit, Bool.and_eq_true] at this
            exact this.1) (fun s hs => ?_)
          · have : v' = v := hcut.uni hv
            subst this
            refine wp_mono (hu m4) ?_
            rintro _ _ ⟨rfl, rfl⟩
            exact ⟨rfl, hI.few H1 G f1 h4 j4 f4⟩
          · rw [done_up (S := rdyS (upd (m 124) 7 (nI (sdf (zt (m 124)) s)))) (Or.inl rfl) G.1 G.2.2 hd rfl hn1 (by omega)]
            have er : rdyS (upd (m 124) 7 (nI (sdf (zt (m 124)) s))) = sdf (sdf (zt (m 124)) s) (zv (m 124)) := by
              have := sdf_le (zt (m 124)) s
              unfold rdyS
              have e7 : zt (upd (m 124) 7 (nI (sdf (zt (m 124)) s))) = sdf (zt (m 124)) s := by
                show nv (upd (m 124) 7 _ 7) = _
                rw [ud_s, nv_nI (by omega)]
              have e8 : zv (upd (m 124) 7 (nI (sdf (zt (m 124)) s))) = zv (m 124) := by
                show nv (upd (m 124) 7 _ 8) = _
                rw [ud_n (by decide)]; rfl
              rw [e7, e8]
            rw [er]
            refine diff_cg G.1 G.2.2 hd hn1 rfl (fun k hk h1 h2 => ?_) (fun k hk => ?_) (fun k hk => ?_)
            · unfold rdyS at h1
              rw [sdf_bit] at h1
              rw [sdf_bit, sdf_bit, sdf_bit, Nat.testBit_and, h2]
              revert h1
              cases (zt (m 124)).testBit k <;> cases (zv (m 124)).testBit k <;> cases s.testBit k <;> simp
            · unfold rdyS
              rw [sdf_bit, sdf_bit] at hk
              rw [sdf_bit]
              revert hk
              cases (zt (m 124)).testBit k <;> cases (zv (m 124)).testBit k <;> cases s.testBit k <;> simp
            · rw [sdf_bit, Bool.and_eq_true] at hk
              exact ralS_sb k hk.1
        have hcase := hv.is
        unfold f_X11_numberOrSet
        simp only [li_0, li_1, li_2, li_3, li_4, li_5, li_6, li_7, li_8, li_9, li_10, li_11, li_12, li_13, li_14, li_15, li_16, li_17, li_18, li_19, li_20, li_21, li_22, li_23, li_24, li_25, li_26, li_27, li_28, li_29, li_30, li_31, li_32, li_37, li_38, li_39, li_40, li_41, li_42, li_43, li_44, li_45, li_46, li_47, li_48, li_49, li_50, li_57, li_59, li_60, li_61, li_62, li_63, li_64, li_65, li_69, li_81, li_89, li_90, li_92, li_97, li_99, li_100, li_101, li_103, li_104, li_105, li_106, li_108, li_111, li_112, li_113, li_114, li_115, li_116, li_117, li_119, li_122, li_123, li_124, li_125, li_126, li_127, li_128, li_129, li_130, li_131, li_132, li_133, li_134, li_135, li_136, li_137, li_140, li_141, li_142, li_143, li_145, li_147, li_150, li_153, li_159, li_160, li_161, li_162, li_185, li_197, li_213, li_222, li_223, li_255, li_256, li_257, li_258, li_259, li_260, li_261, li_262, li_263, li_264, li_271, li_272, li_273, li_274, li_275, li_276, li_277, li_278, li_300, li_400, li_420, li_500, li_802, li_820, li_823, li_839, li_855, li_871, li_887, li_999, li_1000, li_1001, li_1002, li_1003, li_1004, li_1005, li_1006, li_1007, li_1008, li_1009, li_1010, li_1011, li_1012, li_1013, li_1014, li_1015, li_1016, li_1017, li_1018, li_1019, li_1020, li_1021, li_1022, li_1023, li_1707, li_4096, li_9999, li_65536, li_100000, li_1000000, li_1664525, li_100000000, li_252645135, li_858993459, li_1000000007, li_1013904223, li_1431655765, li_m1]
        rcases hcase with rfl | ⟨s, hs, rfl⟩
        · rw [if_pos rfl, bd_s]
          refine wp_ret (model _ (fun m4 => ?_))
          rw [if_pos rfl]
          exact wp_ret ⟨rfl, rfl⟩
        · rw [if_neg (nI_no1 (by omega))]
          by_cases hc : c = nI 1
          · rw [if_pos hc, bd_s]
            refine wp_ret (model _ (fun m4 => ?_))
            rw [if_neg (nI_no1 (by omega)), if_pos hc]
            exact wp_ret ⟨rfl, rfl⟩
          · rw [if_neg hc, e_bitCount _ (by omega), bd_s, bd_s]
            refine wp_ret (model _ (fun m4 => ?_))
            rw [if_neg (nI_no1 (by omega)), if_neg hc, e_count _ hN (by omega), bd_s]
            exact wp_ret ⟨rfl, rfl⟩
theorem pr_brakes {a c : Int32} (hN : 20000 ≤ N) : Pr (f_X11_brakes N a c) (f_X12_brakes N a c) := by
  intro m hI
  obtain ⟨LN, H, G, -⟩ := id hI
  have ld := G.1.lzd
  have lh := G.1.lzh
  have p := pow_le31 lh
  unfold f_X11_brakes
  simp only [li_0, li_1, li_2, li_3, li_4, li_5, li_6, li_7, li_8, li_9, li_10, li_11, li_12, li_13, li_14, li_15, li_16, li_17, li_18, li_19, li_20, li_21, li_22, li_23, li_24, li_25, li_26, li_27, li_28, li_29, li_30, li_31, li_32, li_37, li_38, li_39, li_40, li_41, li_42, li_43, li_44, li_45, li_46, li_47, li_48, li_49, li_50, li_57, li_59, li_60, li_61, li_62, li_63, li_64, li_65, li_69, li_81, li_89, li_90, li_92, li_97, li_99, li_100, li_101, li_103, li_104, li_105, li_106, li_108, li_111, li_112, li_113, li_114, li_115, li_116, li_117, li_119, li_122, li_123, li_124, li_125, li_126, li_127, li_128, li_129, li_130, li_131, li_132, li_133, li_134, li_135, li_136, li_137, li_140, li_141, li_142, li_143, li_145, li_147, li_150, li_153, li_159, li_160, li_161, li_162, li_185, li_197, li_213, li_222, li_223, li_255, li_256, li_257, li_258, li_259, li_260, li_261, li_262, li_263, li_264, li_271, li_272, li_273, li_274, li_275, li_276, li_277, li_278, li_300, li_400, li_420, li_500, li_802, li_820, li_823, li_839, li_855, li_871, li_887, li_999, li_1000, li_1001, li_1002, li_1003, li_1004, li_1005, li_1006, li_1007, li_1008, li_1009, li_1010, li_1011, li_1012, li_1013, li_1014, li_1015, li_1016, li_1017, li_1018, li_1019, li_1020, li_1021, li_1022, li_1023, li_1707, li_4096, li_9999, li_65536, li_100000, li_1000000, li_1664525, li_100000000, li_252645135, li_858993459, li_1000000007, li_1013904223, li_1431655765, li_m1]
  rw [hr_hasD H G.1, bd_s]
  rcases inb_cases a (n := zd (m 124)) (by omega) with ⟨e, -⟩ | ⟨d, hd, rfl⟩
  · rw [e, if_pos (by decide)]
    refine wp_ret ?_
    unfold f_X12_brakes
    simp only [li_0, li_1, li_2, li_3, li_4, li_5, li_6, li_7, li_8, li_9, li_10, li_11, li_12, li_13, li_14, li_15, li_16, li_17, li_18, li_19, li_20, li_21, li_22, li_23, li_24, li_25, li_26, li_27, li_28, li_29, li_30, li_31, li_32, li_37, li_38, li_39, li_40, li_41, li_42, li_43, li_44, li_45, li_46, li_47, li_48, li_49, li_50, li_57, li_59, li_60, li_61, li_62, li_63, li_64, li_65, li_69, li_81, li_89, li_90, li_92, li_97, li_99, li_100, li_101, li_103, li_104, li_105, li_106, li_108, li_111, li_112, li_113, li_114, li_115, li_116, li_117, li_119, li_122, li_123, li_124, li_125, li_126, li_127, li_128, li_129, li_130, li_131, li_132, li_133, li_134, li_135, li_136, li_137, li_140, li_141, li_142, li_143, li_145, li_147, li_150, li_153, li_159, li_160, li_161, li_162, li_185, li_197, li_213, li_222, li_223, li_255, li_256, li_257, li_258, li_259, li_260, li_261, li_262, li_263, li_264, li_271, li_272, li_273, li_274, li_275, li_276, li_277, li_278, li_300, li_400, li_420, li_500, li_802, li_820, li_823, li_839, li_855, li_871, li_887, li_999, li_1000, li_1001, li_1002, li_1003, li_1004, li_1005, li_1006, li_1007, li_1008, li_1009, li_1010, li_1011, li_1012, li_1013, li_1014, li_1015, li_1016, li_1017, li_1018, li_1019, li_1020, li_1021, li_1022, li_1023, li_1707, li_4096, li_9999, li_65536, li_100000, li_1000000, li_1664525, li_100000000, li_252645135, li_858993459, li_1000000007, li_1013904223, li_1431655765, li_m1]
    rw [e_isDeed rfl G.1, e, bd_s, if_pos (by decide)]
    exact wp_ret ⟨rfl, hI⟩
  · rw [inb_nI hd (by omega), if_neg (by decide), e_within, bd_s]
    cases hq2 : decide (nI 0 ≤ c ∧ c ≤ nI 1) with
    | false =>
      rw [if_pos (by decide)]
      refine wp_ret ?_
      unfold f_X12_brakes
      simp only [li_0, li_1, li_2, li_3, li_4, li_5, li_6, li_7, li_8, li_9, li_10, li_11, li_12, li_13, li_14, li_15, li_16, li_17, li_18, li_19, li_20, li_21, li_22, li_23, li_24, li_25, li_26, li_27, li_28, li_29, li_30, li_31, li_32, li_37, li_38, li_39, li_40, li_41, li_42, li_43, li_44, li_45, li_46, li_47, li_48, li_49, li_50, li_57, li_59, li_60, li_61, li_62, li_63, li_64, li_65, li_69, li_81, li_89, li_90, li_92, li_97, li_99, li_100, li_101, li_103, li_104, li_105, li_106, li_108, li_111, li_112, li_113, li_114, li_115, li_116, li_117, li_119, li_122, li_123, li_124, li_125, li_126, li_127, li_128, li_129, li_130, li_131, li_132, li_133, li_134, li_135, li_136, li_137, li_140, li_141, li_142, li_143, li_145, li_147, li_150, li_153, li_159, li_160, li_161, li_162, li_185, li_197, li_213, li_222, li_223, li_255, li_256, li_257, li_258, li_259, li_260, li_261, li_262, li_263, li_264, li_271, li_272, li_273, li_274, li_275, li_276, li_277, li_278, li_300, li_400, li_420, li_500, li_802, li_820, li_823, li_839, li_855, li_871, li_887, li_999, li_1000, li_1001, li_1002, li_1003, li_1004, li_1005, li_1006, li_1007, li_1008, li_1009, li_1010, li_1011, li_1012, li_1013, li_1014, li_1015, li_1016, li_1017, li_1018, li_1019, li_1020, li_1021, li_1022, li_1023, li_1707, li_4096, li_9999, li_65536, li_100000, li_1000000, li_1664525, li_100000000, li_252645135, li_858993459, li_1000000007, li_1013904223, li_1431655765, li_m1]
      rw [e_isDeed rfl G.1, inb_nI hd (by omega), bd_s, if_neg (by decide), e_isIn, bd_s, hq2, if_pos (by decide)]
      exact wp_ret ⟨rfl, hI⟩
    | true =>
      rw [if_neg (by decide)]
      refine wp_bind (w_fewest (n := 1) hN H G hd (by decide) (by decide)) ?_
      rintro v m1 ⟨hv, H1, f1⟩
      have e124 : m1 124 = m 124 := f1.at 124 (by decide)
      have lR := ralS_lt (LN := LN) (w := m 124) (d := d) 1
      have lZ := rdyS_lt G.1
      have hM : f_X12_brakes N (nI d) c m1 = it2 (f_X12_brakes_L43 N (nI d) c (nI (rdyS (m 124))) (fun k4_98 mk98 => if k4_98 = mo1 then (some (k4_98, mk98))
          else (if c = nI 1 then (some (k4_98, mk98))
          else (bd (f_X12_count N k4_98 mk98) fun r_116 m_116 => some (r_116, m_116))))) N mo1 (nI 0) m1 := by
        unfold f_X12_brakes
        simp only [li_0, li_1, li_2, li_3, li_4, li_5, li_6, li_7, li_8, li_9, li_10, li_11, li_12, li_13, li_14, li_15, li_16, li_17, li_18, li_19, li_20, li_21, li_22, li_23, li_24, li_25, li_26, li_27, li_28, li_29, li_30, li_31, li_32, li_37, li_38, li_39, li_40, li_41, li_42, li_43, li_44, li_45, li_46, li_47, li_48, li_49, li_50, li_57, li_59, li_60, li_61, li_62, li_63, li_64, li_65, li_69, li_81, li_89, li_90, li_92, li_97, li_99, li_100, li_101, li_103, li_104, li_105, li_106, li_108, li_111, li_112, li_113, li_114, li_115, li_116, li_117, li_119, li_122, li_123, li_124, li_125, li_126, li_127, li_128, li_129, li_130, li_131, li_132, li_133, li_134, li_135, li_136, li_137, li_140, li_141, li_142, li_143, li_145, li_147, li_150, li_153, li_159, li_160, li_161, li_162, li_185, li_197, li_213, li_222, li_223, li_255, li_256, li_257, li_258, li_259, li_260, li_261, li_262, li_263, li_264, li_271, li_272, li_273, li_274, li_275, li_276, li_277, li_278, li_300, li_400, li_420, li_500, li_802, li_820, li_823, li_839, li_855, li_871, li_887, li_999, li_1000, li_1001, li_1002, li_1003, li_1004, li_1005, li_1006, li_1007, li_1008, li_1009, li_1010, li_1011, li_1012, li_1013, li_1014, li_1015, li_1016, li_1017, li_1018, li_1019, li_1020, li_1021, li_1022, li_1023, li_1707, li_4096, li_9999, li_65536, li_100000, li_1000000, li_1664525, li_100000000, li_252645135, li_858993459, li_1000000007, li_1013904223, li_1431655765, li_m1]
        rw [e_isDeed e124 G.1, inb_nI hd (by omega), bd_s, if_neg (by decide), e_isIn, bd_s, hq2, if_neg (by decide), e124, G.1.h7.1, G.1.h8.1, nz_diff, bnd_s]
        rfl
      have model : ∀ u, (∀ m4, Wp (if v = mo1 then (some (v, m4) : Ans) else (if c = nI 1 then (some (v, m4)) else (bd (f_X12_count N v m4) fun r_119 m_119 => some (r_119, m_119)))) (fun x y => x = u ∧ y = m4)) → Wp (f_X12_brakes N (nI d) c m1) (fun v2 m2 => u = v2 ∧ Inv m2) := by
        intro u hu
        rw [hM]
        refine w_brakesM hN e124 G H.lawk hd ?_
        intro v' m4 hv' h4 j4 f4
        have hcut := hv'.cut (R := ralS LN (m 124) d 1) (Q := fun s => Dq LN (m 124) d 1 (sdf (ralS LN (m 124) d 1) s)) (fun k hk => ralS_sb k hk) (fun s hs => ?_)
        · have : v' = v := hcut.uni hv
          subst this
          refine wp_mono (hu m4) ?_
          rintro _ _ ⟨rfl, rfl⟩
          exact ⟨rfl, hI.few H1 G f1 h4 j4 f4⟩
        · have lss := sb_le hs
          have l8 := G.1.h8.2
          have hor : zv (m 124) ||| s < 2 ^ zh (m 124) := Nat.or_lt_two_pow l8 (by omega)
          rw [done_up (S := rdyS (upd (m 124) 8 (nI (zv (m 124) ||| s)))) (Or.inr rfl) G.1 G.2.2 hd rfl (by decide) (by decide)]
          have er : rdyS (upd (m 124) 8 (nI (zv (m 124) ||| s))) = sdf (zt (m 124)) (zv (m 124) ||| s) := by
            unfold rdyS
            have e7 : zt (upd (m 124) 8 (nI (zv (m 124) ||| s))) = zt (m 124) := by
              show nv (upd (m 124) 8 _ 7) = _
              rw [ud_n (by decide)]; rfl
            have e8 : zv (upd (m 124) 8 (nI (zv (m 124) ||| s))) = zv (m 124) ||| s := by
              show nv (upd (m 124) 8 _ 8) = _
              rw [ud_s, nv_nI (by omega)]
            rw [e7, e8]
          rw [er]
          refine diff_cg G.1 G.2.2 hd (by decide) rfl (fun k hk h1 h2 => ?_) (fun k hk => ?_) (fun k hk => ?_)
          · unfold rdyS at h1
            rw [sdf_bit] at h1
            rw [sdf_bit, sdf_bit, Nat.testBit_or, Nat.testBit_and, h2]
            revert h1
            cases (zt (m 124)).testBit k <;> cases (zv (m 124)).testBit k <;> cases s.testBit k <;> simp
          · unfold rdyS
            rw [sdf_bit, Nat.testBit_or] at hk
            rw [sdf_bit]
            revert hk
            cases (zt (m 124)).testBit k <;> cases (zv (m 124)).testBit k <;> cases s.testBit k <;> simp
          · rw [sdf_bit, Bool.and_eq_true] at hk
            exact ralS_sb k hk.1
      have hcase := hv.is
      unfold f_X11_numberOrSet
      simp only [li_0, li_1, li_2, li_3, li_4, li_5, li_6, li_7, li_8, li_9, li_10, li_11, li_12, li_13, li_14, li_15, li_16, li_17, li_18, li_19, li_20, li_21, li_22, li_23, li_24, li_25, li_26, li_27, li_28, li_29, li_30, li_31, li_32, li_37, li_38, li_39, li_40, li_41, li_42, li_43, li_44, li_45, li_46, li_47, li_48, li_49, li_50, li_57, li_59, li_60, li_61, li_62, li_63, li_64, li_65, li_69, li_81, li_89, li_90, li_92, li_97, li_99, li_100, li_101, li_103, li_104, li_105, li_106, li_108, li_111, li_112, li_113, li_114, li_115, li_116, li_117, li_119, li_122, li_123, li_124, li_125, li_126, li_127, li_128, li_129, li_130, li_131, li_132, li_133, li_134, li_135, li_136, li_137, li_140, li_141, li_142, li_143, li_145, li_147, li_150, li_153, li_159, li_160, li_161, li_162, li_185, li_197, li_213, li_222, li_223, li_255, li_256, li_257, li_258, li_259, li_260, li_261, li_262, li_263, li_264, li_271, li_272, li_273, li_274, li_275, li_276, li_277, li_278, li_300, li_400, li_420, li_500, li_802, li_820, li_823, li_839, li_855, li_871, li_887, li_999, li_1000, li_1001, li_1002, li_1003, li_1004, li_1005, li_1006, li_1007, li_1008, li_1009, li_1010, li_1011, li_1012, li_1013, li_1014, li_1015, li_1016, li_1017, li_1018, li_1019, li_1020, li_1021, li_1022, li_1023, li_1707, li_4096, li_9999, li_65536, li_100000, li_1000000, li_1664525, li_100000000, li_252645135, li_858993459, li_1000000007, li_1013904223, li_1431655765, li_m1]
      rcases hcase with rfl | ⟨s, hs, rfl⟩
      · rw [if_pos rfl, bd_s]
        refine wp_ret (model _ (fun m4 => ?_))
        rw [if_pos rfl]
        exact wp_ret ⟨rfl, rfl⟩
      · rw [if_neg (nI_no1 (by omega))]
        by_cases hc : c = nI 1
        · rw [if_pos hc, bd_s]
          refine wp_ret (model _ (fun m4 => ?_))
          rw [if_neg (nI_no1 (by omega)), if_pos hc]
          exact wp_ret ⟨rfl, rfl⟩
        · rw [if_neg hc, e_bitCount _ (by omega), bd_s, bd_s]
          refine wp_ret (model _ (fun m4 => ?_))
          rw [if_neg (nI_no1 (by omega)), if_neg hc, e_count _ hN (by omega), bd_s]
          exact wp_ret ⟨rfl, rfl⟩
end FEWEST
