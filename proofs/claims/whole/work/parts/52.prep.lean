/-! the class's two tables: who claps beside how many, what is due -/
section PREP
variable {w w' v0 : Arr} {LN : List Lin} {m m' m2 : Mem} {N d n j i : Nat}
def mk (LN : List Lin) (w : Arr) (d i h : Nat) : Nat → Nat
  | 0 => 0
  | b + 1 => mk LN w d i h b ||| if clapS LN (tirS LN d w (i + 1)) h d b ≤ 500 then 0 else 2 ^ b
theorem mk_lt {h : Nat} : ∀ b, mk LN w d i h b < 2 ^ b
  | 0 => by
    show 0 < 2 ^ 0
    decide
  | b + 1 => by
    have ih := mk_lt (h := h) b
    have p : 2 ^ (b + 1) = 2 * 2 ^ b := by rw [Nat.pow_succ, Nat.mul_comm]
    unfold mk
    refine Nat.or_lt_two_pow (by omega) ?_
    split
    · exact pow_pos' _
    · exact Nat.pow_lt_pow_right (by decide) (by omega)
theorem mk_bit {h k : Nat} : ∀ b, (mk LN w d i h b).testBit k = true ↔ k < b ∧ 500 < clapS LN (tirS LN d w (i + 1)) h d k
  | 0 => by
    show (0 : Nat).testBit k = true ↔ _
    rw [Nat.zero_testBit]
    constructor
    · intro h; cases h
    · intro h; omega
  | b + 1 => by
    have ih := mk_bit (h := h) (k := k) b
    unfold mk
    rw [Nat.testBit_or, Bool.or_eq_true, ih]
    by_cases q : clapS LN (tirS LN d w (i + 1)) h d b ≤ 500
    · rw [if_pos q, Nat.zero_testBit]
      constructor
      · rintro (h | h)
        · exact ⟨by omega, h.2⟩
        · cases h
      · rintro ⟨h1, h2⟩
        by_cases e : k = b
        · subst e; omega
        · exact Or.inl ⟨by omega, h2⟩
    · rw [if_neg q, Nat.testBit_two_pow, decide_eq_true_eq]
      constructor
      · rintro (h | h)
        · exact ⟨by omega, h.2⟩
        · subst h; exact ⟨by omega, by omega⟩
      · rintro ⟨h1, h2⟩
        by_cases e : k = b
        · exact Or.inr e.symm
        · exact Or.inl ⟨by omega, h2⟩
def rowM (LN : List Lin) (w : Arr) (d i h : Nat) : Nat := if (rdyS w).testBit h = true then mk LN w d i h (pc (zn w h) + 1) else 0
theorem rowM_lt {h : Nat} : rowM LN w d i h < 2 ^ 13 := by
  unfold rowM
  split
  · have := mk_lt (LN := LN) (w := w) (d := d) (i := i) (h := h) (pc (zn w h) + 1)
    have l := pc_le (zn w h)
    have : 2 ^ (pc (zn w h) + 1) ≤ 2 ^ 13 := Nat.pow_le_pow_right (by decide) (by omega)
    omega
  · decide
def rsS (LN : List Lin) (w : Arr) (d i : Nat) : Nat → Nat
  | 0 => 0
  | h + 1 => rsS LN w d i h ||| if rowM LN w d i h = 0 then 0 else 2 ^ h
theorem rsS_lt : ∀ h, rsS LN w d i h < 2 ^ h
  | 0 => by
    show 0 < 2 ^ 0
    decide
  | h + 1 => by
    have ih := rsS_lt h
    have p : 2 ^ (h + 1) = 2 * 2 ^ h := by rw [Nat.pow_succ, Nat.mul_comm]
    unfold rsS
    refine Nat.or_lt_two_pow (by omega) ?_
    split
    · exact pow_pos' _
    · exact Nat.pow_lt_pow_right (by decide) (by omega)
theorem rsS_bit {k : Nat} : ∀ h, (rsS LN w d i h).testBit k = true ↔ k < h ∧ rowM LN w d i k ≠ 0
  | 0 => by
    show (0 : Nat).testBit k = true ↔ _
    rw [Nat.zero_testBit]
    constructor
    · intro h; cases h
    · intro h; omega
  | h + 1 => by
    have ih := rsS_bit (k := k) h
    unfold rsS
    rw [Nat.testBit_or, Bool.or_eq_true, ih]
    by_cases q : rowM LN w d i h = 0
    · rw [if_pos q, Nat.zero_testBit]
      constructor
      · rintro (h | h)
        · exact ⟨by omega, h.2⟩
        · cases h
      · rintro ⟨h1, h2⟩
        by_cases e : k = h
        · subst e; exact absurd q h2
        · exact Or.inl ⟨by omega, h2⟩
    · rw [if_neg q, Nat.testBit_two_pow, decide_eq_true_eq]
      constructor
      · rintro (h | h)
        · exact ⟨by omega, h.2⟩
        · subst h; exact ⟨by omega, q⟩
      · rintro ⟨h1, h2⟩
        by_cases e : k = h
        · exact Or.inr e.symm
        · exact Or.inl ⟨by omega, h2⟩
theorem rdyS_tir (W0 : WFc w) (hw : lawW w LN) (hd : d < zd w) : ∀ n, rdyS (tirS LN d w n) = rdyS w := by
  intro n
  have ld := W0.lzd
  have o7 : ∀ k, (k = 7 ∨ k = 8) → tirS LN d w n k = w k := by
    induction n with
    | zero => exact fun _ _ => rfl
    | succ n ih =>
      intro k hk
      show begS LN (tirS LN d w n) d k = _
      rw [begS_o (by omega)]
      exact ih k hk
  unfold rdyS zt zv
  rw [o7 7 (by omega), o7 8 (by omega)]
/-- a row of who claps -/
theorem w_prepC (hN : 20000 ≤ N) (W0 : WFc w) (hw : lawW w LN) (hd : d < zd w) (H : HRep 2 LN (tirS LN d w (i + 1)) m) (h3 : m 117 3 = nI i) (hi : i < 5) :
    Wp (f_X0_prepareClaps N (nI i) (nI d) m) (fun v m' => v = nI (rsS LN w d i (zh w)) ∧ HRep 2 LN (tirS LN d w (i + 1)) m' ∧ m' 117 3 = nI (i + 1) ∧ (∀ h, h < zh w → m' 118 (i * 12 + h) = nI (rowM LN w d i h)) ∧ (∀ q, q < i * 12 → m' 118 q = m 118 q) ∧ ∀ k, (k < 111 ∨ 112 < k) → (k < 117 ∨ 118 < k) → m' k = m k) := by
  obtain ⟨W1, hw1, zd1, o1⟩ := tirS_ok (LN := LN) W0 hw hd (i + 1)
  have lh := W0.lzh
  have p := pow_le31 lh
  have ezh : zh (tirS LN d w (i + 1)) = zh w := by unfold zh; rw [o1 37 (by decide)]
  have er := rdyS_tir (LN := LN) W0 hw hd (i + 1)
  have hr := rdyS_lt W0
  unfold f_X0_prepareClaps
  simp only [li_0, li_1, li_2, li_3, li_4, li_5, li_6, li_7, li_8, li_9, li_10, li_11, li_12, li_13, li_14, li_15, li_16, li_17, li_18, li_19, li_20, li_21, li_22, li_23, li_24, li_25, li_26, li_27, li_28, li_29, li_30, li_31, li_32, li_37, li_38, li_39, li_40, li_41, li_42, li_43, li_44, li_45, li_46, li_47, li_48, li_49, li_50, li_57, li_59, li_60, li_61, li_62, li_63, li_64, li_65, li_69, li_81, li_89, li_90, li_92, li_97, li_99, li_100, li_101, li_103, li_104, li_105, li_106, li_108, li_111, li_112, li_113, li_114, li_115, li_116, li_117, li_119, li_122, li_123, li_124, li_125, li_126, li_127, li_128, li_129, li_130, li_131, li_132, li_133, li_134, li_135, li_136, li_137, li_140, li_141, li_142, li_143, li_145, li_147, li_150, li_153, li_159, li_160, li_161, li_162, li_185, li_197, li_213, li_222, li_223, li_255, li_256, li_257, li_258, li_259, li_260, li_261, li_262, li_263, li_264, li_271, li_272, li_273, li_274, li_275, li_276, li_277, li_278, li_300, li_400, li_420, li_500, li_802, li_820, li_823, li_839, li_855, li_871, li_887, li_999, li_1000, li_1001, li_1002, li_1003, li_1004, li_1005, li_1006, li_1007, li_1008, li_1009, li_1010, li_1011, li_1012, li_1013, li_1014, li_1015, li_1016, li_1017, li_1018, li_1019, li_1020, li_1021, li_1022, li_1023, li_1707, li_4096, li_9999, li_65536, li_100000, li_1000000, li_1664525, li_100000000, li_252645135, li_858993459, li_1000000007, li_1013904223, li_1431655765, li_m1]
  rw [e_those3 hN H W1, bd_s, e_those4 hN H W1, bd_s, nz_diff, bnd_s, show sdf (zt (tirS LN d w (i + 1))) (zv (tirS LN d w (i + 1))) = rdyS w from er, e_add hN H.fx (show (117, 5, 12) ∈ tbs by decide) h3 hi, bd_s]
  have ms : ∀ k, (k < 117 ∨ 118 < k) → madd m 117 12 i (nI 0) (nI 0) (nI 0) (nI 0) k = m k := fun k hk => by
    unfold madd
    rw [mset_ne (by omega)]
    funext q
    exact mrow_o (by omega)
  have m118 : ∀ q, q < i * 12 → madd m 117 12 i (nI 0) (nI 0) (nI 0) (nI 0) 118 q = m 118 q := fun q hq => by
    unfold madd
    rw [mset_ne (by decide)]
    unfold mrow
    rw [if_neg (by omega)]
  refine wp_it2 (fun n x c m' => ∃ h, h ≤ zh w ∧ n = zh w - h ∧ x = nI (rsS LN w d i h) ∧ c = nI h ∧ HRep 2 LN (tirS LN d w (i + 1)) m' ∧ m' 117 3 = nI (i + 1) ∧ (∀ k, k < h → m' 118 (i * 12 + k) = nI (rowM LN w d i k)) ∧ (∀ q, q < i * 12 → m' 118 q = m 118 q) ∧ ∀ k, (k < 111 ∨ 112 < k) → (k < 117 ∨ 118 < k) → m' k = m k) ?_ N (zh w) _ _ _ (by omega)
    ⟨0, by omega, rfl, rfl, rfl, H.cg W1.sml (H.fx.add (show (117, 5, 12) ∈ tbs by decide)) (fun k a b => ms k (by omega)) (fun _ _ _ _ => rfl), mset_at _ _ _ _, fun k hk => absurd hk (by omega), m118, fun k _ hk => ms k hk⟩
  rintro n X x c m' ⟨h, hh, rfl, rfl, rfl, H', h3', hrow, hold, hfr⟩ hX
  unfold f_X0_prepareClaps_L38
  simp only [li_0, li_1, li_2, li_3, li_4, li_5, li_6, li_7, li_8, li_9, li_10, li_11, li_12, li_13, li_14, li_15, li_16, li_17, li_18, li_19, li_20, li_21, li_22, li_23, li_24, li_25, li_26, li_27, li_28, li_29, li_30, li_31, li_32, li_37, li_38, li_39, li_40, li_41, li_42, li_43, li_44, li_45, li_46, li_47, li_48, li_49, li_50, li_57, li_59, li_60, li_61, li_62, li_63, li_64, li_65, li_69, li_81, li_89, li_90, li_92, li_97, li_99, li_100, li_101, li_103, li_104, li_105, li_106, li_108, li_111, li_112, li_113, li_114, li_115, li_116, li_117, li_119, li_122, li_123, li_124, li_125, li_126, li_127, li_128, li_129, li_130, li_131, li_132, li_133, li_134, li_135, li_136, li_137, li_140, li_141, li_142, li_143, li_145, li_147, li_150, li_153, li_159, li_160, li_161, li_162, li_185, li_197, li_213, li_222, li_223, li_255, li_256, li_257, li_258, li_259, li_260, li_261, li_262, li_263, li_264, li_271, li_272, li_273, li_274, li_275, li_276, li_277, li_278, li_300, li_400, li_420, li_500, li_802, li_820, li_823, li_839, li_855, li_871, li_887, li_999, li_1000, li_1001, li_1002, li_1003, li_1004, li_1005, li_1006, li_1007, li_1008, li_1009, li_1010, li_1011, li_1012, li_1013, li_1014, li_1015, li_1016, li_1017, li_1018, li_1019, li_1020, li_1021, li_1022, li_1023, li_1707, li_4096, li_9999, li_65536, li_100000, li_1000000, li_1664525, li_100000000, li_252645135, li_858993459, li_1000000007, li_1013904223, li_1431655765, li_m1]
  rw [H'.hea.1, W1.h37, ezh]
  refine wp_ite (fun q => ?_) (fun q => ?_)
  · rw [nI_leI (by omega) (by omega)] at q
    have : h = zh w := by omega
    subst this
    exact wp_ret ⟨rfl, H', h3', hrow, hold, hfr⟩
  · rw [nI_leI (by omega) (by omega)] at q
    -- the put and what follows it
    have K : ∀ m3 M, HRep 2 LN (tirS LN d w (i + 1)) m3 → (∀ k, (k < 111 ∨ 112 < k) → m3 k = m' k) → M = rowM LN w d i h → Wp (bd (f_X9_put N 117 (nI i) (nI h) (nI M) m3) fun _ m_144 =>
        if nI M = nI 0 then (bnd (nI (rsS LN w d i h) ||| nI 0) fun a4_163 => X a4_163 (nI h + nI 1) m_144)
        else (bnd (nI (rsS LN w d i h) ||| (nI 1 <<< (nI h &&& nI 31))) fun a4_163 => X a4_163 (nI h + nI 1) m_144)) (fun v m' => v = nI (rsS LN w d i (zh w)) ∧ HRep 2 LN (tirS LN d w (i + 1)) m' ∧ m' 117 3 = nI (i + 1) ∧ (∀ h, h < zh w → m' 118 (i * 12 + h) = nI (rowM LN w d i h)) ∧ (∀ q, q < i * 12 → m' 118 q = m 118 q) ∧ ∀ k, (k < 111 ∨ 112 < k) → (k < 117 ∨ 118 < k) → m' k = m k) := by
      intro m3 M H3 f3 hM
      have lM : M < 2 ^ 13 := by rw [hM]; exact rowM_lt
      rw [e_put H3.fx (show (117, 5, 12) ∈ tbs by decide) (n := i + 1) (by rw [f3 117 (by omega)]; exact h3') (by omega) (by omega) (by omega), bd_s, nz_one (by omega), nz_or, nz_or, nI_up]
      have hS : rsS LN w d i (h + 1) = rsS LN w d i h ||| if M = 0 then 0 else 2 ^ h := by rw [hM]; rfl
      have go : ∀ r, r = rsS LN w d i (h + 1) → Wp (X (nI r) (nI (h + 1)) (mset m3 (117 + 1) (i * 12 + h) (nI M))) (fun v m' => v = nI (rsS LN w d i (zh w)) ∧ HRep 2 LN (tirS LN d w (i + 1)) m' ∧ m' 117 3 = nI (i + 1) ∧ (∀ h, h < zh w → m' 118 (i * 12 + h) = nI (rowM LN w d i h)) ∧ (∀ q, q < i * 12 → m' 118 q = m 118 q) ∧ ∀ k, (k < 111 ∨ 112 < k) → (k < 117 ∨ 118 < k) → m' k = m k) := by
        rintro r rfl
        refine hX (zh w - (h + 1)) _ _ _ (by omega) ⟨h + 1, by omega, rfl, rfl, rfl, ?_, ?_, fun k hk => ?_, fun q hq => ?_, fun k h1 h2 => ?_⟩
        · exact H3.cg W1.sml (H3.fx.cell (show (117, 5, 12) ∈ tbs by decide)) (fun k a b => mset_ne (by omega)) (fun _ _ _ _ => rfl)
        · rw [mset_ne (by decide), f3 117 (by omega)]; exact h3'
        · by_cases e : k = h
          · subst e; rw [mset_at, hM]
          · rw [mset_j (by omega), f3 118 (by omega)]; exact hrow k (by omega)
        · rw [mset_j (by omega), f3 118 (by omega)]; exact hold q hq
        · rw [mset_ne (by omega), f3 k h1]; exact hfr k h1 h2
      by_cases q0 : M = 0
      · rw [if_pos (by rw [q0]), bnd_s]
        rw [if_pos q0] at hS
        exact go _ hS.symm
      · rw [if_neg (nI_ne q0 (by omega) (by decide)), bnd_s]
        rw [if_neg q0] at hS
        exact go _ hS.symm
    rw [e_isInX m' (by omega) (by omega), bd_s]
    cases hb : (rdyS w).testBit h with
    | false =>
      rw [if_pos (by decide)]
      unfold f_X0_prepareClaps_J83
      simp only [li_0, li_1, li_2, li_3, li_4, li_5, li_6, li_7, li_8, li_9, li_10, li_11, li_12, li_13, li_14, li_15, li_16, li_17, li_18, li_19, li_20, li_21, li_22, li_23, li_24, li_25, li_26, li_27, li_28, li_29, li_30, li_31, li_32, li_37, li_38, li_39, li_40, li_41, li_42, li_43, li_44, li_45, li_46, li_47, li_48, li_49, li_50, li_57, li_59, li_60, li_61, li_62, li_63, li_64, li_65, li_69, li_81, li_89, li_90, li_92, li_97, li_99, li_100, li_101, li_103, li_104, li_105, li_106, li_108, li_111, li_112, li_113, li_114, li_115, li_116, li_117, li_119, li_122, li_123, li_124, li_125, li_126, li_127, li_128, li_129, li_130, li_131, li_132, li_133, li_134, li_135, li_136, li_137, li_140, li_141, li_142, li_143, li_145, li_147, li_150, li_153, li_159, li_160, li_161, li_162, li_185, li_197, li_213, li_222, li_223, li_255, li_256, li_257, li_258, li_259, li_260, li_261, li_262, li_263, li_264, li_271, li_272, li_273, li_274, li_275, li_276, li_277, li_278, li_300, li_400, li_420, li_500, li_802, li_820, li_823, li_839, li_855, li_871, li_887, li_999, li_1000, li_1001, li_1002, li_1003, li_1004, li_1005, li_1006, li_1007, li_1008, li_1009, li_1010, li_1011, li_1012, li_1013, li_1014, li_1015, li_1016, li_1017, li_1018, li_1019, li_1020, li_1021, li_1022, li_1023, li_1707, li_4096, li_9999, li_65536, li_100000, li_1000000, li_1664525, li_100000000, li_252645135, li_858993459, li_1000000007, li_1013904223, li_1431655765, li_m1]
      obtain ⟨N', hN'⟩ : ∃ N', N = N' + 1 := ⟨N - 1, by omega⟩
      have e1 : ∀ (b : (Int32 → Int32 → Mem → Ans) → Int32 → Int32 → Mem → Ans) (u v : Int32) (m : Mem), ∃ Y, it2 b N u v m = b Y u v m := fun b u v m => ⟨it2 b N', by rw [hN']; rfl⟩
      obtain ⟨Y, eY⟩ := e1 (f_X0_prepareClaps_L91 N (nI i) (nI d) (nI (rdyS w)) (nI (rsS LN w d i h)) (nI h) mo1 (fun k7_135 mk135 => bd (f_X9_put N 117 (nI i) (nI h) k7_135 mk135) fun _ m_144 =>
        if k7_135 = nI 0 then (bnd (nI (rsS LN w d i h) ||| nI 0) fun a4_163 => X a4_163 (nI h + nI 1) m_144)
        else (bnd (nI (rsS LN w d i h) ||| (nI 1 <<< (nI h &&& nI 31))) fun a4_163 => X a4_163 (nI h + nI 1) m_144))) (nI 0) (nI 0) m'
      refine wp_eq eY ?_
      unfold f_X0_prepareClaps_L91
      rw [if_pos (show mo1 < nI 0 by decide)]
      exact K m' 0 H' (fun _ _ => rfl) (by unfold rowM; rw [hb, if_neg (by decide)])
    | true =>
      obtain ⟨ez, hz⟩ := hea_zn W1 (show h < zh (tirS LN d w (i + 1)) by rw [ezh]; omega)
      have ezn : zn (tirS LN d w (i + 1)) h = zn w h := zn_tir W0 hw hd
      have lp := pc_le (zn w h)
      rw [if_neg (by decide), hr_hea H' W1 (by rw [ezh]; omega) (by decide), bd_s, show heaV (tirS LN d w (i + 1)) h 6 = tirS LN d w (i + 1) (185 + h) from rfl, ez, e_bitCount _ hz, bd_s, ezn]
      unfold f_X0_prepareClaps_J83
      simp only [li_0, li_1, li_2, li_3, li_4, li_5, li_6, li_7, li_8, li_9, li_10, li_11, li_12, li_13, li_14, li_15, li_16, li_17, li_18, li_19, li_20, li_21, li_22, li_23, li_24, li_25, li_26, li_27, li_28, li_29, li_30, li_31, li_32, li_37, li_38, li_39, li_40, li_41, li_42, li_43, li_44, li_45, li_46, li_47, li_48, li_49, li_50, li_57, li_59, li_60, li_61, li_62, li_63, li_64, li_65, li_69, li_81, li_89, li_90, li_92, li_97, li_99, li_100, li_101, li_103, li_104, li_105, li_106, li_108, li_111, li_112, li_113, li_114, li_115, li_116, li_117, li_119, li_122, li_123, li_124, li_125, li_126, li_127, li_128, li_129, li_130, li_131, li_132, li_133, li_134, li_135, li_136, li_137, li_140, li_141, li_142, li_143, li_145, li_147, li_150, li_153, li_159, li_160, li_161, li_162, li_185, li_197, li_213, li_222, li_223, li_255, li_256, li_257, li_258, li_259, li_260, li_261, li_262, li_263, li_264, li_271, li_272, li_273, li_274, li_275, li_276, li_277, li_278, li_300, li_400, li_420, li_500, li_802, li_820, li_823, li_839, li_855, li_871, li_887, li_999, li_1000, li_1001, li_1002, li_1003, li_1004, li_1005, li_1006, li_1007, li_1008, li_1009, li_1010, li_1011, li_1012, li_1013, li_1014, li_1015, li_1016, li_1017, li_1018, li_1019, li_1020, li_1021, li_1022, li_1023, li_1707, li_4096, li_9999, li_65536, li_100000, li_1000000, li_1664525, li_100000000, li_252645135, li_858993459, li_1000000007, li_1013904223, li_1431655765, li_m1]
      refine wp_it2 (fun n x c m3 => ∃ b, b ≤ pc (zn w h) + 1 ∧ n = pc (zn w h) + 1 - b ∧ x = nI (mk LN w d i h b) ∧ c = nI b ∧ HRep 2 LN (tirS LN d w (i + 1)) m3 ∧ ∀ k, (k < 111 ∨ 112 < k) → m3 k = m' k) ?_ N (pc (zn w h) + 1) _ _ _ (by omega) ⟨0, by omega, rfl, rfl, rfl, H', fun _ _ => rfl⟩
      rintro n X2 x c m3 ⟨b, hb2, rfl, rfl, rfl, H3, f3⟩ hX2
      unfold f_X0_prepareClaps_L91
      simp only [li_0, li_1, li_2, li_3, li_4, li_5, li_6, li_7, li_8, li_9, li_10, li_11, li_12, li_13, li_14, li_15, li_16, li_17, li_18, li_19, li_20, li_21, li_22, li_23, li_24, li_25, li_26, li_27, li_28, li_29, li_30, li_31, li_32, li_37, li_38, li_39, li_40, li_41, li_42, li_43, li_44, li_45, li_46, li_47, li_48, li_49, li_50, li_57, li_59, li_60, li_61, li_62, li_63, li_64, li_65, li_69, li_81, li_89, li_90, li_92, li_97, li_99, li_100, li_101, li_103, li_104, li_105, li_106, li_108, li_111, li_112, li_113, li_114, li_115, li_116, li_117, li_119, li_122, li_123, li_124, li_125, li_126, li_127, li_128, li_129, li_130, li_131, li_132, li_133, li_134, li_135, li_136, li_137, li_140, li_141, li_142, li_143, li_145, li_147, li_150, li_153, li_159, li_160, li_161, li_162, li_185, li_197, li_213, li_222, li_223, li_255, li_256, li_257, li_258, li_259, li_260, li_261, li_262, li_263, li_264, li_271, li_272, li_273, li_274, li_275, li_276, li_277, li_278, li_300, li_400, li_420, li_500, li_802, li_820, li_823, li_839, li_855, li_871, li_887, li_999, li_1000, li_1001, li_1002, li_1003, li_1004, li_1005, li_1006, li_1007, li_1008, li_1009, li_1010, li_1011, li_1012, li_1013, li_1014, li_1015, li_1016, li_1017, li_1018, li_1019, li_1020, li_1021, li_1022, li_1023, li_1707, li_4096, li_9999, li_65536, li_100000, li_1000000, li_1664525, li_100000000, li_252645135, li_858993459, li_1000000007, li_1013904223, li_1431655765, li_m1, nI_up]
      have key := K m3 (mk LN w d i h b) H3 f3
      simp only [nI_up] at key
      refine wp_ite (fun q2 => ?_) (fun q2 => ?_)
      · rw [nI_ltI (by omega) (by omega)] at q2
        have : b = pc (zn w h) + 1 := by omega
        subst this
        exact key (by unfold rowM; rw [hb, if_pos rfl])
      · rw [nI_ltI (by omega) (by omega)] at q2
        refine wp_bind (w_clap hN H3 W1 (by rw [ezh]; omega) (by rw [zd1]; exact hd)) ?_
        rintro _ m4 ⟨rfl, f4⟩
        have lc := clap_le (LN := LN) (w := tirS LN d w (i + 1)) (d := d) (h := h) (b := b)
        have hS : mk LN w d i h (b + 1) = mk LN w d i h b ||| if clapS LN (tirS LN d w (i + 1)) h d b ≤ 500 then 0 else 2 ^ b := rfl
        have nxt : ∀ r, r = mk LN w d i h (b + 1) → Wp (X2 (nI r) (nI (b + 1)) m4) (fun v m' => v = nI (rsS LN w d i (zh w)) ∧ HRep 2 LN (tirS LN d w (i + 1)) m' ∧ m' 117 3 = nI (i + 1) ∧ (∀ h, h < zh w → m' 118 (i * 12 + h) = nI (rowM LN w d i h)) ∧ (∀ q, q < i * 12 → m' 118 q = m 118 q) ∧ ∀ k, (k < 111 ∨ 112 < k) → (k < 117 ∨ 118 < k) → m' k = m k) := by
          rintro r rfl
          refine hX2 (pc (zn w h) + 1 - (b + 1)) _ _ _ (by omega) ⟨b + 1, by omega, rfl, rfl, rfl, H3.fr W1.sml f4 (by decide +kernel), fun k hk => ?_⟩
          rw [f4 k (fun q hq => by
            have : q = (111, 112) := by simpa using hq
            subst this
            exact hk)]
          exact f3 k hk
        refine wp_ite (fun q3 => ?_) (fun q3 => ?_) <;> rw [nI_leI (by omega) (by omega)] at q3
        · rw [if_pos q3] at hS
          rw [nz_or, bnd_s]
          exact nxt _ hS.symm
        · rw [if_neg q3] at hS
          rw [nz_one (by omega), nz_or, bnd_s]
          exact nxt _ hS.symm
end PREP
