/-! fits: the reference's loop, the pair -/
section FITM
variable {w w' v0 : Arr} {LN : List Lin} {m m' m2 : Mem} {N d n j i : Nat}
theorem fsF_lt : ∀ s b, fsF w s = some b → b < s
  | 0, b, h => by cases h
  | s + 1, b, h => by
    unfold fsF at h
    cases hq : fsF w s with
    | some c =>
      rw [hq] at h
      have := fsF_lt s c hq
      have e := Option.some.inj h
      omega
    | none =>
      rw [hq] at h
      simp only at h
      split at h
      · have e := Option.some.inj h
        omega
      · cases h
theorem w_fitsM {a : Int32} {K : Int32 → Int32 → Int32 → Mem → Ans} {Q : Int32 → Mem → Prop} (hN : 20000 ≤ N) (hm : m 124 = w) (W0 : WFc w)
    (hK : ∀ m', (∀ h, h < 12 → h < zh w → m' 136 h = nI (cbF w h (2 ^ zh w))) → Fr [(136, 136)] m m' → Wp (K (nI (cnF w (2 ^ zh w))) (oix (fsF w (2 ^ zh w))) (oix (laF w (2 ^ zh w))) m') Q) :
    Wp (it1 (f_X12_fits_L13 N a (fun mk32 => it4 (f_X12_fits_L42 N a K) N (nI 0) mo1 mo1 (nI 0) mk32)) N (nI 0) m) Q := by
  have lh := W0.lzh
  have p := pow_le31 lh
  have p0 := pow_pos' (zh w)
  refine wp_it1 (fun q x m' => ∃ h, h ≤ 12 ∧ q = 12 - h ∧ x = nI h ∧ (∀ k, k < h → m' 136 k = nI 0) ∧ Fr [(136, 136)] m m') ?_ N 12 _ _ (by omega) ⟨0, by omega, rfl, rfl, fun k hk => absurd hk (by omega), Fr.rf⟩
  rintro q X0 x m1 ⟨h, hh, rfl, rfl, hk, f1⟩ hX0
  unfold f_X12_fits_L13
  simp only [li_0, li_1, li_2, li_3, li_4, li_5, li_6, li_7, li_8, li_9, li_10, li_11, li_12, li_13, li_14, li_15, li_16, li_17, li_18, li_19, li_20, li_21, li_22, li_23, li_24, li_25, li_26, li_27, li_28, li_29, li_30, li_31, li_32, li_37, li_38, li_39, li_40, li_41, li_42, li_43, li_44, li_45, li_46, li_47, li_48, li_49, li_50, li_57, li_59, li_60, li_61, li_62, li_63, li_64, li_65, li_69, li_81, li_89, li_90, li_92, li_97, li_99, li_100, li_101, li_103, li_104, li_105, li_106, li_108, li_111, li_112, li_113, li_114, li_115, li_116, li_117, li_119, li_122, li_123, li_124, li_125, li_126, li_127, li_128, li_129, li_130, li_131, li_132, li_133, li_134, li_135, li_136, li_137, li_140, li_141, li_142, li_143, li_145, li_147, li_150, li_153, li_159, li_160, li_161, li_162, li_185, li_197, li_213, li_222, li_223, li_255, li_256, li_257, li_258, li_259, li_260, li_261, li_262, li_263, li_264, li_271, li_272, li_273, li_274, li_275, li_276, li_277, li_278, li_300, li_400, li_420, li_500, li_802, li_820, li_823, li_839, li_855, li_871, li_887, li_999, li_1000, li_1001, li_1002, li_1003, li_1004, li_1005, li_1006, li_1007, li_1008, li_1009, li_1010, li_1011, li_1012, li_1013, li_1014, li_1015, li_1016, li_1017, li_1018, li_1019, li_1020, li_1021, li_1022, li_1023, li_1707, li_4096, li_9999, li_65536, li_100000, li_1000000, li_1664525, li_100000000, li_252645135, li_858993459, li_1000000007, li_1013904223, li_1431655765, li_m1, nI_up]
  refine wp_ite (fun q => ?_) (fun q => ?_) <;> rw [nI_leI (by omega) (by omega)] at q
  · refine wp_it4 (fun q x y z c m' => ∃ S, S ≤ 2 ^ zh w ∧ q = 2 ^ zh w - S ∧ x = nI (cnF w S) ∧ y = oix (fsF w S) ∧ z = oix (laF w S) ∧ c = nI S ∧ (∀ h, h < 12 → h < zh w → m' 136 h = nI (cbF w h S)) ∧ Fr [(136, 136)] m m') ?_ N (2 ^ zh w) _ _ _ _ _ (by omega)
      ⟨0, by omega, rfl, rfl, rfl, rfl, rfl, fun k hk2 _ => hk k (by omega), f1⟩
    rintro q X x y z c m' ⟨S, hS, rfl, rfl, rfl, rfl, rfl, hc, f'⟩ hX
    have hm' : m' 124 = w := (f'.at 124 (by decide)).trans hm
    have e1 : cnF w (S + 1) = cnF w S + if ft w S = true then 1 else 0 := rfl
    have e2 : fsF w (S + 1) = match fsF w S with
      | some a => some a
      | none => if ft w S = true then some S else none := rfl
    have e3 : laF w (S + 1) = if ft w S = true then some S else laF w S := rfl
    unfold f_X12_fits_L42 f_X12_allHearers
    simp only [li_0, li_1, li_2, li_3, li_4, li_5, li_6, li_7, li_8, li_9, li_10, li_11, li_12, li_13, li_14, li_15, li_16, li_17, li_18, li_19, li_20, li_21, li_22, li_23, li_24, li_25, li_26, li_27, li_28, li_29, li_30, li_31, li_32, li_37, li_38, li_39, li_40, li_41, li_42, li_43, li_44, li_45, li_46, li_47, li_48, li_49, li_50, li_57, li_59, li_60, li_61, li_62, li_63, li_64, li_65, li_69, li_81, li_89, li_90, li_92, li_97, li_99, li_100, li_101, li_103, li_104, li_105, li_106, li_108, li_111, li_112, li_113, li_114, li_115, li_116, li_117, li_119, li_122, li_123, li_124, li_125, li_126, li_127, li_128, li_129, li_130, li_131, li_132, li_133, li_134, li_135, li_136, li_137, li_140, li_141, li_142, li_143, li_145, li_147, li_150, li_153, li_159, li_160, li_161, li_162, li_185, li_197, li_213, li_222, li_223, li_255, li_256, li_257, li_258, li_259, li_260, li_261, li_262, li_263, li_264, li_271, li_272, li_273, li_274, li_275, li_276, li_277, li_278, li_300, li_400, li_420, li_500, li_802, li_820, li_823, li_839, li_855, li_871, li_887, li_999, li_1000, li_1001, li_1002, li_1003, li_1004, li_1005, li_1006, li_1007, li_1008, li_1009, li_1010, li_1011, li_1012, li_1013, li_1014, li_1015, li_1016, li_1017, li_1018, li_1019, li_1020, li_1021, li_1022, li_1023, li_1707, li_4096, li_9999, li_65536, li_100000, li_1000000, li_1664525, li_100000000, li_252645135, li_858993459, li_1000000007, li_1013904223, li_1431655765, li_m1, nI_up]
    rw [hm', W0.h37, nz_one (by omega), pk_sub (by omega), bd_s]
    refine wp_ite (fun q => ?_) (fun q => ?_) <;> rw [nI_ltI (by omega) (by omega)] at q
    · have : S = 2 ^ zh w := by omega
      subst this
      exact hK m' hc f'
    · rw [e_couldM hN hm' W0 (by omega), bd_s]
      cases hf : ft w S with
      | false =>
        rw [hf, if_neg (by decide)] at e1 e3
        rw [if_pos (by decide)]
        refine hX (2 ^ zh w - (S + 1)) _ _ _ _ _ (by omega) ⟨S + 1, by omega, rfl, by rw [e1]; rfl, ?_, by rw [e3], rfl, fun h hh hh2 => ?_, f'⟩
        · rw [e2, hf]
          cases fsF w S <;> rfl
        · rw [hc h hh hh2]
          show nI (cbF w h S) = nI (cbF w h S + if ft w S = true ∧ _ then 1 else 0)
          rw [if_neg (fun z => by rw [hf] at z; cases z.1)]
          rfl
      | true =>
        rw [hf, if_pos rfl] at e1 e3
        rw [if_neg (by decide)]
        have J : ∀ o, fsF w (S + 1) = some o → Wp (f_X12_fits_J77 N a K X (nI (cnF w S + 1)) (nI S) (nI o) m') Q := by
          intro o ho
          unfold f_X12_fits_J77
          refine wp_it1 (fun q x m3 => ∃ h, h ≤ zh w ∧ q = zh w - h ∧ x = nI h ∧ (∀ k, k < h → m3 136 k = nI (cbF w k (S + 1))) ∧ (∀ k, h ≤ k → k < zh w → m3 136 k = nI (cbF w k S)) ∧ Fr [(136, 136)] m m3) ?_ N (zh w) _ _ (by omega) ⟨0, by omega, rfl, rfl, fun k hk => absurd hk (by omega), fun k _ hk2 => hc k (by omega) hk2, f'⟩
          rintro q X2 x m3 ⟨h, hh, rfl, rfl, hk1, hk2, f3⟩ hX2
          unfold f_X12_fits_L85
          simp only [li_0, li_1, li_2, li_3, li_4, li_5, li_6, li_7, li_8, li_9, li_10, li_11, li_12, li_13, li_14, li_15, li_16, li_17, li_18, li_19, li_20, li_21, li_22, li_23, li_24, li_25, li_26, li_27, li_28, li_29, li_30, li_31, li_32, li_37, li_38, li_39, li_40, li_41, li_42, li_43, li_44, li_45, li_46, li_47, li_48, li_49, li_50, li_57, li_59, li_60, li_61, li_62, li_63, li_64, li_65, li_69, li_81, li_89, li_90, li_92, li_97, li_99, li_100, li_101, li_103, li_104, li_105, li_106, li_108, li_111, li_112, li_113, li_114, li_115, li_116, li_117, li_119, li_122, li_123, li_124, li_125, li_126, li_127, li_128, li_129, li_130, li_131, li_132, li_133, li_134, li_135, li_136, li_137, li_140, li_141, li_142, li_143, li_145, li_147, li_150, li_153, li_159, li_160, li_161, li_162, li_185, li_197, li_213, li_222, li_223, li_255, li_256, li_257, li_258, li_259, li_260, li_261, li_262, li_263, li_264, li_271, li_272, li_273, li_274, li_275, li_276, li_277, li_278, li_300, li_400, li_420, li_500, li_802, li_820, li_823, li_839, li_855, li_871, li_887, li_999, li_1000, li_1001, li_1002, li_1003, li_1004, li_1005, li_1006, li_1007, li_1008, li_1009, li_1010, li_1011, li_1012, li_1013, li_1014, li_1015, li_1016, li_1017, li_1018, li_1019, li_1020, li_1021, li_1022, li_1023, li_1707, li_4096, li_9999, li_65536, li_100000, li_1000000, li_1664525, li_100000000, li_252645135, li_858993459, li_1000000007, li_1013904223, li_1431655765, li_m1, nI_up]
          rw [(f3.at 124 (by decide)).trans hm, W0.h37]
          refine wp_ite (fun q => ?_) (fun q => ?_) <;> rw [nI_leI (by omega) (by omega)] at q
          · exact hX (2 ^ zh w - (S + 1)) _ _ _ _ _ (by omega) ⟨S + 1, by omega, rfl, by rw [e1], by rw [ho]; rfl, by rw [e3]; rfl, rfl, fun k _ hk3 => hk1 k (by omega), f3⟩
          · have e4 : cbF w h (S + 1) = cbF w h S + (S.testBit h).toNat := by
              show cbF w h S + (if ft w S = true ∧ S.testBit h = true then 1 else 0) = _
              cases hb : S.testBit h with
              | false => rw [if_neg (fun z => by cases z.2)]; rfl
              | true => rw [if_pos ⟨hf, rfl⟩]; rfl
            rw [inb_nI (by omega) (by omega), chk_t, chk_t, nI_clamp (by omega), hk2 h (Nat.le_refl _) (by omega), nz_b01 (by omega) (by omega), nI_add, bnd_s]
            refine hX2 (zh w - (h + 1)) _ _ (by omega) ⟨h + 1, by omega, rfl, rfl, fun k hk3 => ?_, fun k h1 h2 => ?_, Fr.set f3 (by decide)⟩
            · by_cases e : k = h
              · subst e; rw [mset_at, e4]
              · rw [mset_j (by omega)]; exact hk1 k (by omega)
            · rw [mset_j (by omega)]; exact hk2 k (by omega) h2
        cases hs : fsF w S with
        | none =>
          rw [hs, hf] at e2
          rw [if_pos (by rfl)]
          exact J S e2
        | some b =>
          rw [hs] at e2
          have hbl := fsF_lt S b hs
          rw [if_neg (show ¬ oix (some b) = mo1 from nI_no1 (by omega))]
          exact J b e2
  · rw [inb_nI (by omega) (by omega), chk_t, nI_clamp (by omega), bnd_s]
    refine hX0 (12 - (h + 1)) _ _ (by omega) ⟨h + 1, by omega, rfl, rfl, fun k hk2 => ?_, Fr.set f1 (by decide)⟩
    by_cases e : k = h
    · subst e; exact mset_at _ _ _ _
    · rw [mset_j (by omega)]; exact hk k (by omega)
end FITM
