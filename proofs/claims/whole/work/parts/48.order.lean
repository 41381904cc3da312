/-! lines, on both sides -/
section ORDER
variable {w w' v0 : Arr} {LN : List Lin} {m m' m2 : Mem} {N d n S : Nat}
theorem bit_lt {S n i : Nat} (h : S < 2 ^ n) (hb : S.testBit i = true) : i < n := by
  refine Nat.lt_of_not_le (fun q => ?_)
  rw [Nat.testBit_lt_two_pow (Nat.lt_of_lt_of_le h (Nat.pow_le_pow_right (by decide) q))] at hb
  cases hb
theorem bit_0 {S n : Nat} (h : S < 2 ^ n) (hb : ∀ i, i < n → S.testBit i = false) : S = 0 := by
  refine Nat.eq_of_testBit_eq (fun i => ?_)
  rw [Nat.zero_testBit]
  cases hq : S.testBit i with
  | false => rfl
  | true => rw [hb i (bit_lt h hq)] at hq; cases hq
theorem w_leastC (hN : 20000 ≤ N) (H : HRep 2 LN w m) (W0 : WFc w) (hS : S < 2 ^ zd w) : f_X5_leastSum N (nI S) m = some (nI (wai w S.testBit (zd w)), m) := by
  have ld := W0.lzd
  have p8 := pow_le8 ld
  refine Wp.toEq ?_
  unfold f_X5_leastSum
  refine wp_it4 (fun n a b c e m' => ∃ i T x y, i ≤ 8 ∧ n = 8 - i ∧ a = nI x ∧ b = nI y ∧ c = nI T ∧ T < 2 ^ zd w ∧ sm (fun _ => 1) T.testBit (zd w) ≤ 8 - i ∧ x + y * sm (vl w) T.testBit (zd w) + wai w T.testBit (zd w) = wai w S.testBit (zd w) ∧ e = nI i ∧ m' = m) ?_ N 8 _ _ _ _ _ (by omega)
    ⟨0, S, 0, 0, by omega, rfl, rfl, rfl, rfl, hS, by have := sm_le (f := fun _ => 1) (s := S.testBit) (b := 1) (n := zd w) (fun _ _ => Nat.le_refl _); omega, by omega, rfl, rfl⟩
  rintro n X a b c e m' ⟨i, T, x, y, hi, rfl, rfl, rfl, rfl, hT, hct, hsum, rfl, rfl⟩ hX
  have done : (∀ k, k < zd w → T.testBit k = false) → x = wai w S.testBit (zd w) := by
    intro h
    rw [wai_0 h, sm_0 h] at hsum
    omega
  unfold f_X5_leastSum_L10
  simp only [li_0, li_1, li_2, li_3, li_4, li_5, li_6, li_7, li_8, li_9, li_10, li_11, li_12, li_13, li_14, li_15, li_16, li_17, li_18, li_19, li_20, li_21, li_22, li_23, li_24, li_25, li_26, li_27, li_28, li_29, li_30, li_31, li_32, li_37, li_38, li_39, li_40, li_41, li_42, li_43, li_44, li_45, li_46, li_47, li_48, li_49, li_50, li_57, li_59, li_60, li_61, li_62, li_63, li_64, li_65, li_69, li_81, li_89, li_90, li_92, li_97, li_99, li_100, li_101, li_103, li_104, li_105, li_106, li_108, li_111, li_112, li_113, li_114, li_115, li_116, li_117, li_119, li_122, li_123, li_124, li_125, li_126, li_127, li_128, li_129, li_130, li_131, li_132, li_133, li_134, li_135, li_136, li_137, li_140, li_141, li_142, li_143, li_145, li_147, li_150, li_153, li_159, li_160, li_161, li_162, li_185, li_197, li_213, li_222, li_223, li_255, li_256, li_257, li_258, li_259, li_260, li_261, li_262, li_263, li_264, li_271, li_272, li_273, li_274, li_275, li_276, li_277, li_278, li_300, li_400, li_420, li_500, li_802, li_820, li_823, li_839, li_855, li_871, li_887, li_999, li_1000, li_1001, li_1002, li_1003, li_1004, li_1005, li_1006, li_1007, li_1008, li_1009, li_1010, li_1011, li_1012, li_1013, li_1014, li_1015, li_1016, li_1017, li_1018, li_1019, li_1020, li_1021, li_1022, li_1023, li_1707, li_4096, li_9999, li_65536, li_100000, li_1000000, li_1664525, li_100000000, li_252645135, li_858993459, li_1000000007, li_1013904223, li_1431655765, li_m1, nI_up]
  refine wp_ite (fun q => ?_) (fun q => ?_)
  · rw [nI_leI (by decide) (by omega)] at q
    refine wp_ret ⟨?_, rfl⟩
    rw [done ?_]
    intro k hk
    cases hb : T.testBit k with
    | false => rfl
    | true =>
      have := sm_clr (f := fun _ => 1) (n := zd w) hk hb
      omega
  · rw [nI_leI (by decide) (by omega)] at q
    refine wp_ite (fun q2 => ?_) (fun q2 => ?_)
    · rw [nI_eq (by omega) (by decide)] at q2
      subst q2
      refine wp_ret ⟨?_, rfl⟩
      rw [done (fun k _ => Nat.zero_testBit k)]
    · rw [w_firstOf hN H W0 (by omega), bd_s]
      cases hf : fstB w T.testBit (zd w) with
      | none =>
        rw [if_pos (by rfl)]
        refine wp_ret ⟨?_, rfl⟩
        rw [done (fstB_no hf)]
      | some d =>
        obtain ⟨hd, hsd⟩ := fstB_lt hf
        have hmax := (fstB_max W0 (Nat.le_refl _) hf).1
        have hfe := first_eq hd hsd hmax
        have hcl := sm_clr (f := vl w) hd hsd
        have hc1 := sm_clr (f := fun _ => 1) hd hsd
        obtain ⟨d1, d2, d3, d4, d5⟩ := dee_v W0 hd
        rw [if_neg (show ¬ oix (some d) = mo1 from nI_no1 (by omega))]
        show Wp (bd (f_X9_at N 5 (nI d) (nI 1) m') _) _
        rw [hr_dee H W0 hd (by decide), bd_s, show deeV w d 1 = nI (lg w d) from d3, nI_add, bnd_s]
        show Wp (bd (f_X9_at N 5 (nI d) (nI 0) m') _) _
        rw [hr_dee H W0 hd (by decide), bd_s, show deeV w d 0 = nI (vl w d) from d1, pk_mul, nI_add, bnd_s]
        show Wp (bnd (nI T &&& (nI 1 <<< (nI d &&& nI 31) ^^^ mo1)) _) _
        rw [nz_one (by omega), nz_diff, bnd_s]
        refine hX (8 - (i + 1)) _ _ _ _ _ (by omega) ⟨i + 1, sdf T (2 ^ d), x + vl w d * (y + lg w d), y + lg w d, by omega, rfl, rfl, rfl, rfl, Nat.lt_of_le_of_lt (sdf_le _ _) hT, ?_, ?_, rfl, rfl⟩
        · rw [sdf_clr]; omega
        · rw [sdf_clr, ← hsum, ← hfe, hcl]
          simp only [Nat.mul_add, Nat.add_mul, Nat.mul_comm (vl w d)]
          omega
def dpT (w : Arr) (S : Nat) (m : Mem) : Prop := ∀ T, T < S → m 135 T = nI (wai w T.testBit (zd w))
theorem w_laysL (hN : 20000 ≤ N) (hm : m 124 = w) (W0 : WFc w) : Wp (f_X12_laysLines N m) (fun _ m' => dpT w (2 ^ zd w) m' ∧ Fr [(135, 135)] m m') := by
  have ld := W0.lzd
  have p8 := pow_le8 ld
  have p0 := pow_pos' (zd w)
  unfold f_X12_laysLines
  refine wp_it1 (fun n a m' => ∃ S, S ≤ 2 ^ zd w ∧ n = 2 ^ zd w - S ∧ a = nI S ∧ dpT w S m' ∧ Fr [(135, 135)] m m') ?_ N (2 ^ zd w) _ _ (by omega) ⟨0, by omega, rfl, rfl, fun T hT => absurd hT (by omega), Fr.rf⟩
  rintro n X a m' ⟨S, hS, rfl, rfl, hdp, f'⟩ hX
  have hm' : m' 124 = w := (f'.at 124 (by decide)).trans hm
  unfold f_X12_laysLines_L2
  simp only [li_0, li_1, li_2, li_3, li_4, li_5, li_6, li_7, li_8, li_9, li_10, li_11, li_12, li_13, li_14, li_15, li_16, li_17, li_18, li_19, li_20, li_21, li_22, li_23, li_24, li_25, li_26, li_27, li_28, li_29, li_30, li_31, li_32, li_37, li_38, li_39, li_40, li_41, li_42, li_43, li_44, li_45, li_46, li_47, li_48, li_49, li_50, li_57, li_59, li_60, li_61, li_62, li_63, li_64, li_65, li_69, li_81, li_89, li_90, li_92, li_97, li_99, li_100, li_101, li_103, li_104, li_105, li_106, li_108, li_111, li_112, li_113, li_114, li_115, li_116, li_117, li_119, li_122, li_123, li_124, li_125, li_126, li_127, li_128, li_129, li_130, li_131, li_132, li_133, li_134, li_135, li_136, li_137, li_140, li_141, li_142, li_143, li_145, li_147, li_150, li_153, li_159, li_160, li_161, li_162, li_185, li_197, li_213, li_222, li_223, li_255, li_256, li_257, li_258, li_259, li_260, li_261, li_262, li_263, li_264, li_271, li_272, li_273, li_274, li_275, li_276, li_277, li_278, li_300, li_400, li_420, li_500, li_802, li_820, li_823, li_839, li_855, li_871, li_887, li_999, li_1000, li_1001, li_1002, li_1003, li_1004, li_1005, li_1006, li_1007, li_1008, li_1009, li_1010, li_1011, li_1012, li_1013, li_1014, li_1015, li_1016, li_1017, li_1018, li_1019, li_1020, li_1021, li_1022, li_1023, li_1707, li_4096, li_9999, li_65536, li_100000, li_1000000, li_1664525, li_100000000, li_252645135, li_858993459, li_1000000007, li_1013904223, li_1431655765, li_m1]
  rw [hm', W0.h38, nz_one (by omega)]
  refine wp_ite (fun q => ?_) (fun q => ?_)
  · rw [nI_leI (by omega) (by omega)] at q
    have : S = 2 ^ zd w := by omega
    subst this
    exact wp_ret ⟨hdp, f'⟩
  · rw [nI_leI (by omega) (by omega)] at q
    have hwl : ∀ s, wai w s (zd w) ≤ 38880 := fun s => by
      have := wai_le W0 (s := s) (zd w) (Nat.le_refl _)
      omega
    have key : ∀ v0, (S = 0 → v0 = 0) → v0 ≤ 100000000 → wai w S.testBit (zd w) ≤ v0 → Wp (f_X12_laysLines_J31 N X (nI S) (nI v0) (nI S) m') (fun _ m' => dpT w (2 ^ zd w) m' ∧ Fr [(135, 135)] m m') := by
      intro v0 h0 h1 h2
      unfold f_X12_laysLines_J31
      rw [inb_nI (by omega) (by omega), chk_t, nI_clamp (by omega), bnd_s]
      refine wp_it1 (fun n a m3 => ∃ j v, j ≤ zd w ∧ n = zd w - j ∧ a = nI j ∧ m3 135 S = nI v ∧ (S = 0 → v = 0) ∧ v ≤ 100000000 ∧ wai w S.testBit (zd w) ≤ v ∧ (∀ d, d < j → S.testBit d = true → v ≤ wai w (clr S.testBit d) (zd w) + vl w d * sm (lg w) S.testBit (zd w)) ∧ dpT w S m3 ∧ Fr [(135, 135)] m m3) ?_ N (zd w) _ _ (by omega)
        ⟨0, v0, by omega, rfl, rfl, mset_at _ _ _ _, h0, h1, h2, fun d hd => absurd hd (by omega), fun T hT => by rw [mset_j (by omega)]; exact hdp T hT, Fr.set f' (by decide)⟩
      rintro n X' a m3 ⟨j, v, hj, rfl, rfl, e3, v0', v1, v2, vj, dp3, f3⟩ hX'
      have hm3 : m3 124 = w := (f3.at 124 (by decide)).trans hm
      unfold f_X12_laysLines_L34
      simp only [li_0, li_1, li_2, li_3, li_4, li_5, li_6, li_7, li_8, li_9, li_10, li_11, li_12, li_13, li_14, li_15, li_16, li_17, li_18, li_19, li_20, li_21, li_22, li_23, li_24, li_25, li_26, li_27, li_28, li_29, li_30, li_31, li_32, li_37, li_38, li_39, li_40, li_41, li_42, li_43, li_44, li_45, li_46, li_47, li_48, li_49, li_50, li_57, li_59, li_60, li_61, li_62, li_63, li_64, li_65, li_69, li_81, li_89, li_90, li_92, li_97, li_99, li_100, li_101, li_103, li_104, li_105, li_106, li_108, li_111, li_112, li_113, li_114, li_115, li_116, li_117, li_119, li_122, li_123, li_124, li_125, li_126, li_127, li_128, li_129, li_130, li_131, li_132, li_133, li_134, li_135, li_136, li_137, li_140, li_141, li_142, li_143, li_145, li_147, li_150, li_153, li_159, li_160, li_161, li_162, li_185, li_197, li_213, li_222, li_223, li_255, li_256, li_257, li_258, li_259, li_260, li_261, li_262, li_263, li_264, li_271, li_272, li_273, li_274, li_275, li_276, li_277, li_278, li_300, li_400, li_420, li_500, li_802, li_820, li_823, li_839, li_855, li_871, li_887, li_999, li_1000, li_1001, li_1002, li_1003, li_1004, li_1005, li_1006, li_1007, li_1008, li_1009, li_1010, li_1011, li_1012, li_1013, li_1014, li_1015, li_1016, li_1017, li_1018, li_1019, li_1020, li_1021, li_1022, li_1023, li_1707, li_4096, li_9999, li_65536, li_100000, li_1000000, li_1664525, li_100000000, li_252645135, li_858993459, li_1000000007, li_1013904223, li_1431655765, li_m1, nI_up]
      rw [hm3, W0.h38]
      refine wp_ite (fun q => ?_) (fun q => ?_)
      · rw [nI_leI (by omega) (by omega)] at q
        have : j = zd w := by omega
        subst this
        refine hX (2 ^ zd w - (S + 1)) _ _ (by omega) ⟨S + 1, by omega, rfl, rfl, fun T hT => ?_, f3⟩
        by_cases e : T = S
        · subst e
          rw [e3]
          congr 1
          by_cases hz : T = 0
          · rw [v0' hz, hz, wai_0 (fun i _ => Nat.zero_testBit i)]
          · have hex : ∃ x, x < zd w ∧ T.testBit x = true := by
              refine Classical.byContradiction (fun z => hz (bit_0 (n := zd w) (by omega) (fun i hi => ?_)))
              cases hb : T.testBit i with
              | false => rfl
              | true => exact absurd ⟨i, hi, hb⟩ z
            obtain ⟨b, hb, hsb, hmin⟩ := min_ex W0 (zd w) (Nat.le_refl _) hex
            have := vj b hb hsb
            rw [← last_eq hb hsb hmin] at this
            omega
        · exact dp3 T (by omega)
      · rw [nI_leI (by omega) (by omega)] at q
        refine wp_ite (fun qb => ?_) (fun qb => ?_) <;> rw [nz_bit (by omega) (by omega)] at qb
        · have hlt := sdf_lt qb
          obtain ⟨d1, d2, d3, d4, d5⟩ := dee_v W0 (show j < zd w by omega)
          have lb := sl_le W0 (s := S.testBit)
          have lm : vl w j * sm (lg w) S.testBit (zd w) ≤ 9 * 480 := Nat.mul_le_mul d2 lb
          have lw := hwl (clr S.testBit j)
          have hge := last_ge (w := w) (show j < zd w by omega) qb
          rw [nz_one (by omega), nz_diff, inb_nI (by omega) (by omega), chk_t, inb_nI (by omega) (by omega), chk_t, nI_add, inb_nI (by omega) (by omega), chk_t, w_longM hN hm3 W0 (by omega), bd_s, nI_clamp (by omega), nI_clamp (by omega), nI_clamp (by omega), e3, dp3 _ hlt, sdf_clr, d1, pk_mul, nI_add, e_lesser, bd_s, chk_t, bnd_s]
          have hv : ∀ v', (v' = v ∨ v' = wai w (clr S.testBit j) (zd w) + vl w j * sm (lg w) S.testBit (zd w)) → v' ≤ v → v' ≤ wai w (clr S.testBit j) (zd w) + vl w j * sm (lg w) S.testBit (zd w) → Wp (X' (nI (j + 1)) (mset m3 135 S (nI v'))) (fun _ m' => dpT w (2 ^ zd w) m' ∧ Fr [(135, 135)] m m') := by
            intro v' ho hle hle2
            refine hX' (zd w - (j + 1)) _ _ (by omega) ⟨j + 1, v', by omega, rfl, rfl, mset_at _ _ _ _, fun z => ?_, by omega, by rcases ho with rfl | rfl <;> omega, fun d hd hsd => ?_, fun T hT => by rw [mset_j (by omega)]; exact dp3 T hT, Fr.set f3 (by decide)⟩
            · have := v0' z
              omega
            · by_cases e : d = j
              · subst e; exact hle2
              · have := vj d (by omega) hsd
                omega
          by_cases hc : wai w (clr S.testBit j) (zd w) + vl w j * sm (lg w) S.testBit (zd w) < v
          · rw [if_pos (nI_lt hc (by omega))]
            exact hv _ (Or.inr rfl) (by omega) (Nat.le_refl _)
          · rw [if_neg (nI_nlt (by omega) (by omega))]
            exact hv _ (Or.inl rfl) (Nat.le_refl _) (by omega)
        · refine hX' (zd w - (j + 1)) _ _ (by omega) ⟨j + 1, v, by omega, rfl, rfl, e3, v0', v1, v2, fun d hd hsd => ?_, dp3, f3⟩
          by_cases e : d = j
          · subst e; exact absurd hsd qb
          · exact vj d (by omega) hsd
    have hb := hwl S.testBit
    by_cases h0 : S = 0
    · subst h0
      rw [if_pos rfl]
      exact key 0 (fun _ => rfl) (by omega) (by rw [wai_0 (fun i _ => Nat.zero_testBit i)]; exact Nat.le_refl _)
    · rw [if_neg (nI_ne h0 (by omega) (by decide))]
      exact key 100000000 (fun z => absurd z h0) (by omega) (by omega)
theorem pr_lines {a b : Int32} (hN : 20000 ≤ N) : Pr (f_X11_lines N a b) (f_X12_lines N a b) := by
  intro m hI
  obtain ⟨LN, H, G, -⟩ := id hI
  have ld := G.1.lzd
  have p8 := pow_le8 ld
  have p0 := pow_pos' (zd (m 124))
  have hM0 : f_X12_lines N a b m = if b2i (inb a (2 ^ zd (m 124))) = nI 0 then some (mo1, m) else bd (f_X12_isIn N b (nI 0) (nI 1) m) fun r_22 m_22 => if r_22 = nI 0 then (some (mo1, m_22)) else (bd (f_X12_laysLines N m_22) fun _ m_31 =>
      if b = nI 0 then (chk (inb a 256) <| some (m_31 135 a.toNatClampNeg, m_31)) else (it1 (f_X12_lines_L47 N a b ) N (nI 0) m_31)) := by
    unfold f_X12_lines
    simp only [li_0, li_1, li_2, li_3, li_4, li_5, li_6, li_7, li_8, li_9, li_10, li_11, li_12, li_13, li_14, li_15, li_16, li_17, li_18, li_19, li_20, li_21, li_22, li_23, li_24, li_25, li_26, li_27, li_28, li_29, li_30, li_31, li_32, li_37, li_38, li_39, li_40, li_41, li_42, li_43, li_44, li_45, li_46, li_47, li_48, li_49, li_50, li_57, li_59, li_60, li_61, li_62, li_63, li_64, li_65, li_69, li_81, li_89, li_90, li_92, li_97, li_99, li_100, li_101, li_103, li_104, li_105, li_106, li_108, li_111, li_112, li_113, li_114, li_115, li_116, li_117, li_119, li_122, li_123, li_124, li_125, li_126, li_127, li_128, li_129, li_130, li_131, li_132, li_133, li_134, li_135, li_136, li_137, li_140, li_141, li_142, li_143, li_145, li_147, li_150, li_153, li_159, li_160, li_161, li_162, li_185, li_197, li_213, li_222, li_223, li_255, li_256, li_257, li_258, li_259, li_260, li_261, li_262, li_263, li_264, li_271, li_272, li_273, li_274, li_275, li_276, li_277, li_278, li_300, li_400, li_420, li_500, li_802, li_820, li_823, li_839, li_855, li_871, li_887, li_999, li_1000, li_1001, li_1002, li_1003, li_1004, li_1005, li_1006, li_1007, li_1008, li_1009, li_1010, li_1011, li_1012, li_1013, li_1014, li_1015, li_1016, li_1017, li_1018, li_1019, li_1020, li_1021, li_1022, li_1023, li_1707, li_4096, li_9999, li_65536, li_100000, li_1000000, li_1664525, li_100000000, li_252645135, li_858993459, li_1000000007, li_1013904223, li_1431655765, li_m1]
    rw [G.1.h38, nz_one (by omega), e_isIn, bd_s, rng_inb (by omega)]
  have I2 : ∀ m3, Fr [(135, 135)] m m3 → Inv m3 := fun m3 f3 => hI.q1 f3 (by decide +kernel) (by decide) (by decide)
  unfold f_X11_lines
  simp only [li_0, li_1, li_2, li_3, li_4, li_5, li_6, li_7, li_8, li_9, li_10, li_11, li_12, li_13, li_14, li_15, li_16, li_17, li_18, li_19, li_20, li_21, li_22, li_23, li_24, li_25, li_26, li_27, li_28, li_29, li_30, li_31, li_32, li_37, li_38, li_39, li_40, li_41, li_42, li_43, li_44, li_45, li_46, li_47, li_48, li_49, li_50, li_57, li_59, li_60, li_61, li_62, li_63, li_64, li_65, li_69, li_81, li_89, li_90, li_92, li_97, li_99, li_100, li_101, li_103, li_104, li_105, li_106, li_108, li_111, li_112, li_113, li_114, li_115, li_116, li_117, li_119, li_122, li_123, li_124, li_125, li_126, li_127, li_128, li_129, li_130, li_131, li_132, li_133, li_134, li_135, li_136, li_137, li_140, li_141, li_142, li_143, li_145, li_147, li_150, li_153, li_159, li_160, li_161, li_162, li_185, li_197, li_213, li_222, li_223, li_255, li_256, li_257, li_258, li_259, li_260, li_261, li_262, li_263, li_264, li_271, li_272, li_273, li_274, li_275, li_276, li_277, li_278, li_300, li_400, li_420, li_500, li_802, li_820, li_823, li_839, li_855, li_871, li_887, li_999, li_1000, li_1001, li_1002, li_1003, li_1004, li_1005, li_1006, li_1007, li_1008, li_1009, li_1010, li_1011, li_1012, li_1013, li_1014, li_1015, li_1016, li_1017, li_1018, li_1019, li_1020, li_1021, li_1022, li_1023, li_1707, li_4096, li_9999, li_65536, li_100000, li_1000000, li_1664525, li_100000000, li_252645135, li_858993459, li_1000000007, li_1013904223, li_1431655765, li_m1]
  rw [H.dee.1, G.1.h38, nz_one (by omega)]
  rcases inb_cases a (n := 2 ^ zd (m 124)) (by omega) with ⟨e, h⟩ | ⟨S, hS, rfl⟩
  · have hno : Wp (some (mo1, m)) (fun v1 m1 => Wp (f_X12_lines N a b m1) (fun v2 m2 => v1 = v2 ∧ Inv m2)) := by
      refine wp_ret ?_
      rw [hM0, e, if_pos (by decide)]
      exact wp_ret ⟨rfl, hI⟩
    rcases h with h | h
    · rw [if_pos (show a < nI 0 from h)]
      exact hno
    · by_cases q : a < nI 0
      · rw [if_pos q]
        exact hno
      · rw [if_neg q, if_pos h]
        exact hno
  · rw [if_neg (nI_no0 (by omega)), if_neg (nI_ge hS (by omega)), e_within, bd_s]
    rw [inb_nI hS (by omega), if_neg (by decide), e_isIn, bd_s] at hM0
    cases hq : decide (nI 0 ≤ b ∧ b ≤ nI 1) with
    | false =>
      rw [if_pos (by decide)]
      refine wp_ret ?_
      rw [hM0, hq, if_pos (by decide)]
      exact wp_ret ⟨rfl, hI⟩
    | true =>
      rw [if_neg (by decide)]
      rw [hq, if_neg (by decide)] at hM0
      by_cases hb : b = nI 0
      · rw [if_pos hb, w_leastC hN H G.1 hS, bd_s]
        refine wp_ret ?_
        rw [hM0]
        refine wp_bind (w_laysL hN rfl G.1) ?_
        rintro _ m1 ⟨hdp, f1⟩
        rw [if_pos hb, inb_nI (by omega) (by omega), chk_t, nI_clamp (by omega), hdp S hS]
        exact wp_ret ⟨rfl, I2 m1 f1⟩
      · rw [if_neg hb, w_firstOf hN H G.1 (by omega), bd_s]
        refine wp_ret ?_
        rw [hM0]
        refine wp_bind (w_laysL hN rfl G.1) ?_
        rintro _ m1 ⟨hdp, f1⟩
        rw [if_neg hb]
        have hm1 : m1 124 = m 124 := f1.at 124 (by decide)
        refine wp_it1 (fun n a m' => ∃ j, j ≤ zd (m 124) ∧ n = zd (m 124) - j ∧ a = nI j ∧ m' = m1 ∧ ∀ b, fstB (m 124) S.testBit (zd (m 124)) = some b → j ≤ b) ?_ N (zd (m 124)) _ _ (by omega) ⟨0, by omega, rfl, rfl, rfl, fun b _ => by omega⟩
        rintro n X a m' ⟨j, hj, rfl, rfl, rfl, hle⟩ hX
        unfold f_X12_lines_L47
        simp only [li_0, li_1, li_2, li_3, li_4, li_5, li_6, li_7, li_8, li_9, li_10, li_11, li_12, li_13, li_14, li_15, li_16, li_17, li_18, li_19, li_20, li_21, li_22, li_23, li_24, li_25, li_26, li_27, li_28, li_29, li_30, li_31, li_32, li_37, li_38, li_39, li_40, li_41, li_42, li_43, li_44, li_45, li_46, li_47, li_48, li_49, li_50, li_57, li_59, li_60, li_61, li_62, li_63, li_64, li_65, li_69, li_81, li_89, li_90, li_92, li_97, li_99, li_100, li_101, li_103, li_104, li_105, li_106, li_108, li_111, li_112, li_113, li_114, li_115, li_116, li_117, li_119, li_122, li_123, li_124, li_125, li_126, li_127, li_128, li_129, li_130, li_131, li_132, li_133, li_134, li_135, li_136, li_137, li_140, li_141, li_142, li_143, li_145, li_147, li_150, li_153, li_159, li_160, li_161, li_162, li_185, li_197, li_213, li_222, li_223, li_255, li_256, li_257, li_258, li_259, li_260, li_261, li_262, li_263, li_264, li_271, li_272, li_273, li_274, li_275, li_276, li_277, li_278, li_300, li_400, li_420, li_500, li_802, li_820, li_823, li_839, li_855, li_871, li_887, li_999, li_1000, li_1001, li_1002, li_1003, li_1004, li_1005, li_1006, li_1007, li_1008, li_1009, li_1010, li_1011, li_1012, li_1013, li_1014, li_1015, li_1016, li_1017, li_1018, li_1019, li_1020, li_1021, li_1022, li_1023, li_1707, li_4096, li_9999, li_65536, li_100000, li_1000000, li_1664525, li_100000000, li_252645135, li_858993459, li_1000000007, li_1013904223, li_1431655765, li_m1, nI_up]
        rw [hm1, G.1.h38]
        refine wp_ite (fun q => ?_) (fun q => ?_)
        · rw [nI_leI (by omega) (by omega)] at q
          refine wp_ret ⟨?_, I2 _ f1⟩
          cases hf : fstB (m 124) S.testBit (zd (m 124)) with
          | none => rfl
          | some b =>
            have h1 := hle b hf
            have h2 := (fstB_lt hf).1
            omega
        · rw [nI_leI (by omega) (by omega)] at q
          refine wp_ite (fun qb => ?_) (fun qb => ?_) <;> rw [nz_bit (by omega) (by omega)] at qb
          · have hlt := sdf_lt qb
            obtain ⟨d1, d2, d3, d4, d5⟩ := dee_v G.1 (show j < zd (m 124) by omega)
            have lb := sv_le G.1 (s := S.testBit)
            have lm : lg (m 124) j * sm (vl (m 124)) S.testBit (zd (m 124)) ≤ 60 * 72 := Nat.mul_le_mul d5 lb
            have lw := wai_le G.1 (s := clr S.testBit j) (zd (m 124)) (Nat.le_refl _)
            have lw2 := wai_le G.1 (s := S.testBit) (zd (m 124)) (Nat.le_refl _)
            unfold f_X12_leastWith
            simp only [li_0, li_1, li_2, li_3, li_4, li_5, li_6, li_7, li_8, li_9, li_10, li_11, li_12, li_13, li_14, li_15, li_16, li_17, li_18, li_19, li_20, li_21, li_22, li_23, li_24, li_25, li_26, li_27, li_28, li_29, li_30, li_31, li_32, li_37, li_38, li_39, li_40, li_41, li_42, li_43, li_44, li_45, li_46, li_47, li_48, li_49, li_50, li_57, li_59, li_60, li_61, li_62, li_63, li_64, li_65, li_69, li_81, li_89, li_90, li_92, li_97, li_99, li_100, li_101, li_103, li_104, li_105, li_106, li_108, li_111, li_112, li_113, li_114, li_115, li_116, li_117, li_119, li_122, li_123, li_124, li_125, li_126, li_127, li_128, li_129, li_130, li_131, li_132, li_133, li_134, li_135, li_136, li_137, li_140, li_141, li_142, li_143, li_145, li_147, li_150, li_153, li_159, li_160, li_161, li_162, li_185, li_197, li_213, li_222, li_223, li_255, li_256, li_257, li_258, li_259, li_260, li_261, li_262, li_263, li_264, li_271, li_272, li_273, li_274, li_275, li_276, li_277, li_278, li_300, li_400, li_420, li_500, li_802, li_820, li_823, li_839, li_855, li_871, li_887, li_999, li_1000, li_1001, li_1002, li_1003, li_1004, li_1005, li_1006, li_1007, li_1008, li_1009, li_1010, li_1011, li_1012, li_1013, li_1014, li_1015, li_1016, li_1017, li_1018, li_1019, li_1020, li_1021, li_1022, li_1023, li_1707, li_4096, li_9999, li_65536, li_100000, li_1000000, li_1664525, li_100000000, li_252645135, li_858993459, li_1000000007, li_1013904223, li_1431655765, li_m1, nI_add]
            rw [inb_nI (by omega) (by omega), chk_t, w_worthM hN hm1 G.1 (by omega), bd_s, nz_one (by omega), nz_diff, inb_nI (by omega) (by omega), chk_t, bd_s, inb_nI (by omega) (by omega), chk_t, nI_clamp (by omega), nI_clamp (by omega), nI_clamp (by omega), hdp S hS, hdp _ (by omega), sdf_clr, hm1, d3, pk_mul, nI_add]
            cases hf : fstB (m 124) S.testBit (zd (m 124)) with
            | none =>
              have := fstB_no hf j (by omega)
              rw [qb] at this
              cases this
            | some b =>
              have h1 := hle b hf
              obtain ⟨h2, h3⟩ := fstB_lt hf
              obtain ⟨x1, x2⟩ := fstB_max G.1 (Nat.le_refl _) hf
              by_cases e : j = b
              · subst e
                have := first_eq h2 h3 x1
                rw [if_pos (by rw [this])]
                exact wp_ret ⟨rfl, I2 _ f1⟩
              · have := first_ne (show j < zd (m 124) by omega) qb h2 h3 (x2 j (by omega) qb)
                rw [if_neg (nI_ne (by omega) (by omega) (by omega)), ← hf]
                exact hX (zd (m 124) - (j + 1)) _ _ (by omega) ⟨j + 1, by omega, rfl, rfl, rfl, fun b' hb' => by
                  rw [hf] at hb'
                  have := Option.some.inj hb'
                  omega⟩
          · refine hX (zd (m 124) - (j + 1)) _ _ (by omega) ⟨j + 1, by omega, rfl, rfl, rfl, fun b hb' => ?_⟩
            have h1 := hle b hb'
            have h3 := (fstB_lt hb').2
            have : j ≠ b := fun z => qb (by rw [z]; exact h3)
            omega
end ORDER
