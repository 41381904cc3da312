/-! the class prepares, and looks whether it is done just so often -/
section PREPARE
variable {w w' v0 : Arr} {LN : List Lin} {m m' m2 : Mem} {N d n j i : Nat}
def dueq (LN : List Lin) (w : Arr) (d i : Nat) : Int32 := if mayS (tirS LN d w (i + 1)) = true then hndS (tirS LN d w (i + 1)) - nI (loudS LN (tirS LN d w (i + 1)) d) else nI 1000000
def badR (LN : List Lin) (w : Arr) (d n i : Nat) : Bool := if n - 1 ≤ i then !decide (nI 0 < dueq LN w d i) else !decide (dueq LN w d i ≤ nI (sumS (tirS LN d w (i + 1)) (rsS LN w d i (zh w)) (zh w)))
def ralS (LN : List Lin) (w : Arr) (d : Nat) : Nat → Nat
  | 0 => 0
  | i + 1 => ralS LN w d i ||| rsS LN w d i (zh w)
def badS (LN : List Lin) (w : Arr) (d n : Nat) : Nat → Bool
  | 0 => false
  | i + 1 => badS LN w d n i || badR LN w d n i
def PrpR (LN : List Lin) (w : Arr) (d n i : Nat) (m : Mem) : Prop := m 117 3 = nI i ∧ m 119 3 = nI i ∧ (∀ k, k < i → (∀ h, h < zh w → m 118 (k * 12 + h) = nI (rowM LN w d k h)) ∧ m 120 k = dueq LN w d k) ∧ m 116 5 = nI (ralS LN w d i) ∧ m 116 6 = b2i (badS LN w d n i)
theorem ralS_lt : ∀ i, ralS LN w d i < 2 ^ zh w
  | 0 => pow_pos' _
  | i + 1 => Nat.or_lt_two_pow (ralS_lt i) (rsS_lt _)
theorem b2i_or (b c : Bool) : b2i b ||| b2i c = b2i (b || c) := by cases b <;> cases c <;> rfl
theorem w_prepare (hN : 20000 ≤ N) (W0 : WFc w) (hw : lawW w LN) (hd : d < zd w) (H : HRep 2 LN w m) (h1 : 1 ≤ n) (hn : n ≤ 5) :
    Wp (f_X0_prepare N (nI d) (nI n) m) (fun _ m' => HRep 2 LN (tirS LN d w n) m' ∧ PrpR LN w d n n m' ∧ Fr [(3, 9), (111, 112), (116, 120)] m m') := by
  have lh := W0.lzh
  have ld := W0.lzd
  have p := pow_le31 lh
  unfold f_X0_prepare
  simp only [li_0, li_1, li_2, li_3, li_4, li_5, li_6, li_7, li_8, li_9, li_10, li_11, li_12, li_13, li_14, li_15, li_16, li_17, li_18, li_19, li_20, li_21, li_22, li_23, li_24, li_25, li_26, li_27, li_28, li_29, li_30, li_31, li_32, li_37, li_38, li_39, li_40, li_41, li_42, li_43, li_44, li_45, li_46, li_47, li_48, li_49, li_50, li_57, li_59, li_60, li_61, li_62, li_63, li_64, li_65, li_69, li_81, li_89, li_90, li_92, li_97, li_99, li_100, li_101, li_103, li_104, li_105, li_106, li_108, li_111, li_112, li_113, li_114, li_115, li_116, li_117, li_119, li_122, li_123, li_124, li_125, li_126, li_127, li_128, li_129, li_130, li_131, li_132, li_133, li_134, li_135, li_136, li_137, li_140, li_141, li_142, li_143, li_145, li_147, li_150, li_153, li_159, li_160, li_161, li_162, li_185, li_197, li_213, li_222, li_223, li_255, li_256, li_257, li_258, li_259, li_260, li_261, li_262, li_263, li_264, li_271, li_272, li_273, li_274, li_275, li_276, li_277, li_278, li_300, li_400, li_420, li_500, li_802, li_820, li_823, li_839, li_855, li_871, li_887, li_999, li_1000, li_1001, li_1002, li_1003, li_1004, li_1005, li_1006, li_1007, li_1008, li_1009, li_1010, li_1011, li_1012, li_1013, li_1014, li_1015, li_1016, li_1017, li_1018, li_1019, li_1020, li_1021, li_1022, li_1023, li_1707, li_4096, li_9999, li_65536, li_100000, li_1000000, li_1664525, li_100000000, li_252645135, li_858993459, li_1000000007, li_1013904223, li_1431655765, li_m1]
  rw [bnd_s, bnd_s, bnd_s, bnd_s]
  generalize hm0 : mset (mset (mset (mset m 117 3 (nI 0)) 119 3 (nI 0)) 116 5 (nI 0)) 116 6 (nI 0) = m0
  have o0 : ∀ k, (k < 116 ∨ 120 < k) → m0 k = m k := fun k hk => by rw [← hm0, mset_ne (by omega), mset_ne (by omega), mset_ne (by omega), mset_ne (by omega)]
  have x0 : Fx m0 := by rw [← hm0]; exact (((H.fx.set (by decide +kernel)).set (by decide +kernel)).out (by decide +kernel)).out (by decide +kernel)
  have H0 : HRep 2 LN w m0 := H.cg W0.sml x0 (fun k a b => o0 k (by omega)) (fun _ _ _ _ => rfl)
  have P0 : PrpR LN w d n 0 m0 := by
    rw [← hm0]
    refine ⟨?_, ?_, fun k hk => absurd hk (by omega), ?_, mset_at _ _ _ _⟩
    · rw [mset_ne (by decide), mset_ne (by decide), mset_ne (by decide), mset_at]
    · rw [mset_ne (by decide), mset_ne (by decide), mset_at]
    · rw [mset_j (by decide), mset_at]; rfl
  have f0 : Fr [(3, 9), (111, 112), (116, 120)] m m0 := fun k hk => o0 k (by
    have := hk (116, 120) (by decide)
    omega)
  clear hm0
  refine wp_it1 (fun q c m' => ∃ i, i ≤ n ∧ q = n - i ∧ c = nI i ∧ HRep 2 LN (tirS LN d w i) m' ∧ PrpR LN w d n i m' ∧ Fr [(3, 9), (111, 112), (116, 120)] m m') ?_ N n _ _ (by omega) ⟨0, by omega, rfl, rfl, H0, P0, f0⟩
  rintro q X c m' ⟨i, hi, rfl, rfl, H', P', f'⟩ hX
  obtain ⟨W', hw', zd', o'⟩ := tirS_ok (LN := LN) W0 hw hd i
  obtain ⟨W1, hw1, zd1, o1⟩ := tirS_ok (LN := LN) W0 hw hd (i + 1)
  have ezh : zh (tirS LN d w (i + 1)) = zh w := by unfold zh; rw [o1 37 (by decide)]
  unfold f_X0_prepare_L28
  simp only [li_0, li_1, li_2, li_3, li_4, li_5, li_6, li_7, li_8, li_9, li_10, li_11, li_12, li_13, li_14, li_15, li_16, li_17, li_18, li_19, li_20, li_21, li_22, li_23, li_24, li_25, li_26, li_27, li_28, li_29, li_30, li_31, li_32, li_37, li_38, li_39, li_40, li_41, li_42, li_43, li_44, li_45, li_46, li_47, li_48, li_49, li_50, li_57, li_59, li_60, li_61, li_62, li_63, li_64, li_65, li_69, li_81, li_89, li_90, li_92, li_97, li_99, li_100, li_101, li_103, li_104, li_105, li_106, li_108, li_111, li_112, li_113, li_114, li_115, li_116, li_117, li_119, li_122, li_123, li_124, li_125, li_126, li_127, li_128, li_129, li_130, li_131, li_132, li_133, li_134, li_135, li_136, li_137, li_140, li_141, li_142, li_143, li_145, li_147, li_150, li_153, li_159, li_160, li_161, li_162, li_185, li_197, li_213, li_222, li_223, li_255, li_256, li_257, li_258, li_259, li_260, li_261, li_262, li_263, li_264, li_271, li_272, li_273, li_274, li_275, li_276, li_277, li_278, li_300, li_400, li_420, li_500, li_802, li_820, li_823, li_839, li_855, li_871, li_887, li_999, li_1000, li_1001, li_1002, li_1003, li_1004, li_1005, li_1006, li_1007, li_1008, li_1009, li_1010, li_1011, li_1012, li_1013, li_1014, li_1015, li_1016, li_1017, li_1018, li_1019, li_1020, li_1021, li_1022, li_1023, li_1707, li_4096, li_9999, li_65536, li_100000, li_1000000, li_1664525, li_100000000, li_252645135, li_858993459, li_1000000007, li_1013904223, li_1431655765, li_m1]
  refine wp_ite (fun q => ?_) (fun q => ?_)
  · rw [nI_leI (by omega) (by omega)] at q
    have : i = n := by omega
    subst this
    exact wp_ret ⟨H', P', f'⟩
  · rw [nI_leI (by omega) (by omega)] at q
    refine wp_bind (w_begin hN H' W' (by rw [zd']; exact hd)) ?_
    rintro _ m1 ⟨H1, f1⟩
    have H1 : HRep 2 LN (tirS LN d w (i + 1)) m1 := H1
    have J : ∀ m3 t, HRep 2 LN (tirS LN d w (i + 1)) m3 → Fr [(6, 6), (8, 8), (111, 112)] m' m3 → t = dueq LN w d i → Wp (f_X0_prepare_J75 N (nI d) (nI n) X (nI i) t m3) (fun _ m' => HRep 2 LN (tirS LN d w n) m' ∧ PrpR LN w d n n m' ∧ Fr [(3, 9), (111, 112), (116, 120)] m m') := by
      rintro m3 t H3 f3 rfl
      obtain ⟨p1, p2, p3, p5, p6⟩ := P'
      have e117 : m3 117 = m' 117 := f3.at 117 (by decide)
      have e118 : m3 118 = m' 118 := f3.at 118 (by decide)
      have e119 : m3 119 = m' 119 := f3.at 119 (by decide)
      have e120 : m3 120 = m' 120 := f3.at 120 (by decide)
      have e116 : m3 116 = m' 116 := f3.at 116 (by decide)
      unfold f_X0_prepare_J75
      simp only [li_0, li_1, li_2, li_3, li_4, li_5, li_6, li_7, li_8, li_9, li_10, li_11, li_12, li_13, li_14, li_15, li_16, li_17, li_18, li_19, li_20, li_21, li_22, li_23, li_24, li_25, li_26, li_27, li_28, li_29, li_30, li_31, li_32, li_37, li_38, li_39, li_40, li_41, li_42, li_43, li_44, li_45, li_46, li_47, li_48, li_49, li_50, li_57, li_59, li_60, li_61, li_62, li_63, li_64, li_65, li_69, li_81, li_89, li_90, li_92, li_97, li_99, li_100, li_101, li_103, li_104, li_105, li_106, li_108, li_111, li_112, li_113, li_114, li_115, li_116, li_117, li_119, li_122, li_123, li_124, li_125, li_126, li_127, li_128, li_129, li_130, li_131, li_132, li_133, li_134, li_135, li_136, li_137, li_140, li_141, li_142, li_143, li_145, li_147, li_150, li_153, li_159, li_160, li_161, li_162, li_185, li_197, li_213, li_222, li_223, li_255, li_256, li_257, li_258, li_259, li_260, li_261, li_262, li_263, li_264, li_271, li_272, li_273, li_274, li_275, li_276, li_277, li_278, li_300, li_400, li_420, li_500, li_802, li_820, li_823, li_839, li_855, li_871, li_887, li_999, li_1000, li_1001, li_1002, li_1003, li_1004, li_1005, li_1006, li_1007, li_1008, li_1009, li_1010, li_1011, li_1012, li_1013, li_1014, li_1015, li_1016, li_1017, li_1018, li_1019, li_1020, li_1021, li_1022, li_1023, li_1707, li_4096, li_9999, li_65536, li_100000, li_1000000, li_1664525, li_100000000, li_252645135, li_858993459, li_1000000007, li_1013904223, li_1431655765, li_m1, nI_up]
      rw [e_add hN H3.fx (show (119, 5, 1) ∈ tbs by decide) (by rw [e119]; exact p2) (show i < 5 by omega), bd_s]
      generalize hm4 : madd m3 119 1 i (dueq LN w d i) (nI 0) (nI 0) (nI 0) = m4
      have o4 : ∀ k, (k < 119 ∨ 120 < k) → m4 k = m3 k := fun k hk => by
        rw [← hm4]
        unfold madd
        rw [mset_ne (by omega)]
        funext q
        exact mrow_o (by omega)
      have c119 : m4 119 3 = nI (i + 1) := by rw [← hm4]; exact mset_at _ _ _ _
      have c120 : ∀ k, k ≤ i → m4 120 k = dueq LN w d k := fun k hk => by
        rw [← hm4]
        unfold madd
        rw [mset_ne (by decide)]
        unfold mrow
        by_cases e : k = i
        · subst e
          rw [if_pos (by omega), show k - k * 1 = 0 by omega]
          rfl
        · rw [if_neg (by omega), e120]
          exact (p3 k (by omega)).2
      have x4 : Fx m4 := by rw [← hm4]; exact H3.fx.add (show (119, 5, 1) ∈ tbs by decide)
      have H4 : HRep 2 LN (tirS LN d w (i + 1)) m4 := H3.cg W1.sml x4 (fun k a b => o4 k (by omega)) (fun _ _ _ _ => rfl)
      clear hm4
      refine wp_bind (w_prepC hN W0 hw hd H4 (by rw [o4 117 (by omega), e117]; exact p1) (by omega)) ?_
      rintro _ m5 ⟨rfl, H5, c117, c118, old118, o5⟩
      have r5 := rsS_lt (LN := LN) (w := w) (d := d) (i := i) (zh w)
      have e116' : m5 116 = m' 116 := by rw [o5 116 (by omega) (by omega), o4 116 (by omega), e116]
      rw [e116', p5, nz_or, bnd_s]
      have hr : ralS LN w d i ||| rsS LN w d i (zh w) = ralS LN w d (i + 1) := rfl
      rw [hr]
      generalize hm6 : mset m5 116 5 (nI (ralS LN w d (i + 1))) = m6
      have o6 : ∀ k, k ≠ 116 → m6 k = m5 k := fun k hk => by rw [← hm6, mset_ne hk]
      have c5 : m6 116 5 = nI (ralS LN w d (i + 1)) := by rw [← hm6, mset_at]
      have c6 : m6 116 6 = b2i (badS LN w d n i) := by rw [← hm6, mset_j (by decide), e116']; exact p6
      have H6 : HRep 2 LN (tirS LN d w (i + 1)) m6 := by
        refine H5.cg W1.sml ?_ (fun k a b => o6 k (by omega)) (fun _ _ _ _ => rfl)
        rw [← hm6]
        exact H5.fx.out (by decide +kernel)
      clear hm6
      have fin : ∀ b, b = badR LN w d n i → Wp (chk (isB (m6 116 6 ||| b2i b)) <| bnd (mset m6 116 6 (m6 116 6 ||| b2i b)) fun m_154 => X (nI (i + 1)) m_154) (fun _ m' => HRep 2 LN (tirS LN d w n) m' ∧ PrpR LN w d n n m' ∧ Fr [(3, 9), (111, 112), (116, 120)] m m') := by
        rintro b rfl
        rw [c6, b2i_or, isB_b2i, chk_t, bnd_s]
        refine hX (n - (i + 1)) _ _ (by omega) ⟨i + 1, by omega, rfl, rfl, ?_, ⟨?_, ?_, fun k hk => ⟨fun h hh => ?_, ?_⟩, ?_, ?_⟩, fun k hk => ?_⟩
        · exact H6.cg W1.sml (H6.fx.out (by decide +kernel)) (fun k a b => mset_ne (by omega)) (fun _ _ _ _ => rfl)
        · rw [mset_ne (by decide), o6 117 (by decide)]; exact c117
        · rw [mset_ne (by decide), o6 119 (by decide), o5 119 (by omega) (by omega)]; exact c119
        · rw [mset_ne (by decide), o6 118 (by decide)]
          by_cases e : k = i
          · subst e; exact c118 h hh
          · rw [old118 _ (by omega), o4 118 (by omega), e118]
            exact (p3 k (by omega)).1 h hh
        · rw [mset_ne (by decide), o6 120 (by decide), o5 120 (by omega) (by omega)]
          exact c120 k (by omega)
        · rw [mset_j (by decide)]; exact c5
        · rw [mset_at]; rfl
        · have a1 := hk (3, 9) (by decide)
          have a2 := hk (111, 112) (by decide)
          have a3 := hk (116, 120) (by decide)
          simp only at a1 a2 a3
          rw [mset_ne (by omega), o6 k (by omega), o5 k (by omega) (by omega), o4 k (by omega), f3 k (fun q hq => by
            simp only [List.mem_cons, List.not_mem_nil, or_false] at hq
            rcases hq with rfl | rfl | rfl <;> simp only <;> omega)]
          exact f' k hk
      rw [pk_sub (by omega)]
      refine wp_ite (fun q2 => ?_) (fun q2 => ?_) <;> rw [nI_leI (by omega) (by omega)] at q2
      · refine wp_ite (fun q3 => ?_) (fun q3 => ?_)
        · exact fin false (by unfold badR; rw [if_pos q2, decide_eq_true q3]; rfl)
        · exact fin true (by unfold badR; rw [if_pos q2, decide_eq_false q3]; rfl)
      · rw [w_handsOf hN H6 W1 (by omega), bd_s, ezh]
        refine wp_ite (fun q3 => ?_) (fun q3 => ?_)
        · exact fin false (by unfold badR; rw [if_neg q2, decide_eq_true q3]; rfl)
        · exact fin true (by unfold badR; rw [if_neg q2, decide_eq_false q3]; rfl)
    rw [e_may hN H1 W1, bd_s]
    cases hmay : mayS (tirS LN d w (i + 1)) with
    | false =>
      rw [if_pos (by decide)]
      exact J m1 _ H1 f1 (by unfold dueq; rw [hmay, if_neg (by decide)])
    | true =>
      rw [if_neg (by decide), e_hands hN H1 W1, bd_s]
      refine wp_bind (w_loud hN H1 W1 (by rw [zd1]; exact hd)) ?_
      rintro _ m3 ⟨rfl, f3⟩
      exact J m3 _ (H1.fr W1.sml f3 (by decide +kernel)) (f1.trans (f3.mono (by decide))) (by unfold dueq; rw [hmay, if_pos rfl])
/-! who claps, by the tables -/
theorem e_clapAt {S : Nat} (hN : 20000 ≤ N) (W0 : WFc w) (hw : lawW w LN) (hd : d < zd w) (H : HRep 2 LN w m) (P : PrpR LN w d n n m) (hi : i < n) (hn : n ≤ 5) (hS : sb S (rdyS w)) :
    f_X0_clappingAt N (nI i) (nI S) m = some (nI (clq LN w d i S), m) := by
  have lh := W0.lzh
  have p := pow_le31 lh
  have hr := rdyS_lt W0
  have lS := sb_le hS
  obtain ⟨p1, p2, p3, p5, p6⟩ := P
  obtain ⟨W1, hw1, zd1, o1⟩ := tirS_ok (LN := LN) W0 hw hd (i + 1)
  have ezh : zh (tirS LN d w (i + 1)) = zh w := by unfold zh; rw [o1 37 (by decide)]
  refine Wp.toEq ?_
  unfold f_X0_clappingAt
  generalize hT : setS LN (tirS LN d w (i + 1)) d S D5 13 0 0 = T
  have hc : clq LN w d i S = T.1 := by unfold clq; rw [hT]
  rw [hc]
  refine wp_it3 (fun q x y z m' => ∃ r cl c u, r ≤ 13 ∧ q = 13 - r ∧ x = nI cl ∧ y = b2i c ∧ z = nI r ∧ m' = m ∧ cl < 2 ^ zh w ∧ (c = true → setS LN (tirS LN d w (i + 1)) d S D5 (13 - r) cl u = T) ∧ (c = false → cl = T.1)) ?_ N 13 _ _ _ _ (by omega)
    ⟨0, 0, true, 0, by omega, rfl, rfl, rfl, rfl, rfl, pow_pos' _, fun _ => hT, fun h => by cases h⟩
  rintro q X x y z m' ⟨r, cl, c, u, hr13, rfl, rfl, rfl, rfl, rfl, hcl, ht, hf⟩ hX
  unfold f_X0_clappingAt_L8
  simp only [li_0, li_1, li_2, li_3, li_4, li_5, li_6, li_7, li_8, li_9, li_10, li_11, li_12, li_13, li_14, li_15, li_16, li_17, li_18, li_19, li_20, li_21, li_22, li_23, li_24, li_25, li_26, li_27, li_28, li_29, li_30, li_31, li_32, li_37, li_38, li_39, li_40, li_41, li_42, li_43, li_44, li_45, li_46, li_47, li_48, li_49, li_50, li_57, li_59, li_60, li_61, li_62, li_63, li_64, li_65, li_69, li_81, li_89, li_90, li_92, li_97, li_99, li_100, li_101, li_103, li_104, li_105, li_106, li_108, li_111, li_112, li_113, li_114, li_115, li_116, li_117, li_119, li_122, li_123, li_124, li_125, li_126, li_127, li_128, li_129, li_130, li_131, li_132, li_133, li_134, li_135, li_136, li_137, li_140, li_141, li_142, li_143, li_145, li_147, li_150, li_153, li_159, li_160, li_161, li_162, li_185, li_197, li_213, li_222, li_223, li_255, li_256, li_257, li_258, li_259, li_260, li_261, li_262, li_263, li_264, li_271, li_272, li_273, li_274, li_275, li_276, li_277, li_278, li_300, li_400, li_420, li_500, li_802, li_820, li_823, li_839, li_855, li_871, li_887, li_999, li_1000, li_1001, li_1002, li_1003, li_1004, li_1005, li_1006, li_1007, li_1008, li_1009, li_1010, li_1011, li_1012, li_1013, li_1014, li_1015, li_1016, li_1017, li_1018, li_1019, li_1020, li_1021, li_1022, li_1023, li_1707, li_4096, li_9999, li_65536, li_100000, li_1000000, li_1664525, li_100000000, li_252645135, li_858993459, li_1000000007, li_1013904223, li_1431655765, li_m1, nI_up]
  refine wp_ite (fun q => ?_) (fun q => ?_) <;> rw [nI_ltI (by omega) (by omega)] at q
  · refine wp_ret ⟨?_, rfl⟩
    cases c with
    | false => rw [hf rfl]
    | true =>
      have := ht rfl
      rw [show 13 - r = 0 by omega] at this
      rw [← this]
      rfl
  · rw [if_b2i]
    cases c with
    | false =>
      rw [if_neg (by decide)]
      exact wp_ret ⟨by rw [hf rfl], rfl⟩
    | true =>
      rw [if_pos rfl]
      have ht := ht rfl
      rw [show 13 - r = (13 - (r + 1)) + 1 by omega] at ht
      unfold setS at ht
      rw [ezh] at ht
      refine wp_it2 (fun q x z m3 => ∃ h, h ≤ zh w ∧ q = zh w - h ∧ x = nI (rndS LN (tirS LN d w (i + 1)) d S D5 cl h) ∧ z = nI h ∧ m3 = m') ?_ N (zh w) _ _ _ (by omega) ⟨0, by omega, rfl, rfl, rfl, rfl⟩
      rintro q2 X2 x z m3 ⟨h, hh, rfl, rfl, rfl, rfl⟩ hX2
      have lr := rndS_lt (LN := LN) (w := tirS LN d w (i + 1)) (d := d) (rdy := S) (dr := D5) hcl h hh
      unfold f_X0_clappingAt_L26
      simp only [li_0, li_1, li_2, li_3, li_4, li_5, li_6, li_7, li_8, li_9, li_10, li_11, li_12, li_13, li_14, li_15, li_16, li_17, li_18, li_19, li_20, li_21, li_22, li_23, li_24, li_25, li_26, li_27, li_28, li_29, li_30, li_31, li_32, li_37, li_38, li_39, li_40, li_41, li_42, li_43, li_44, li_45, li_46, li_47, li_48, li_49, li_50, li_57, li_59, li_60, li_61, li_62, li_63, li_64, li_65, li_69, li_81, li_89, li_90, li_92, li_97, li_99, li_100, li_101, li_103, li_104, li_105, li_106, li_108, li_111, li_112, li_113, li_114, li_115, li_116, li_117, li_119, li_122, li_123, li_124, li_125, li_126, li_127, li_128, li_129, li_130, li_131, li_132, li_133, li_134, li_135, li_136, li_137, li_140, li_141, li_142, li_143, li_145, li_147, li_150, li_153, li_159, li_160, li_161, li_162, li_185, li_197, li_213, li_222, li_223, li_255, li_256, li_257, li_258, li_259, li_260, li_261, li_262, li_263, li_264, li_271, li_272, li_273, li_274, li_275, li_276, li_277, li_278, li_300, li_400, li_420, li_500, li_802, li_820, li_823, li_839, li_855, li_871, li_887, li_999, li_1000, li_1001, li_1002, li_1003, li_1004, li_1005, li_1006, li_1007, li_1008, li_1009, li_1010, li_1011, li_1012, li_1013, li_1014, li_1015, li_1016, li_1017, li_1018, li_1019, li_1020, li_1021, li_1022, li_1023, li_1707, li_4096, li_9999, li_65536, li_100000, li_1000000, li_1664525, li_100000000, li_252645135, li_858993459, li_1000000007, li_1013904223, li_1431655765, li_m1, nI_up]
      rw [H.hea.1, W0.h37]
      refine wp_ite (fun q => ?_) (fun q => ?_) <;> rw [nI_leI (by omega) (by omega)] at q
      · have : h = zh w := by omega
        subst this
        by_cases e : rndS LN (tirS LN d w (i + 1)) d S D5 cl (zh w) = cl
        · rw [if_pos e] at ht
          rw [if_pos (by rw [e])]
          exact hX (13 - (r + 1)) _ _ _ _ (by omega) ⟨r + 1, _, false, u, by omega, rfl, rfl, rfl, rfl, rfl, lr, fun z => (by cases z), fun _ => (by rw [e, ← ht])⟩
        · rw [if_neg e] at ht
          rw [if_neg (nI_ne e (by omega) (by omega))]
          exact hX (13 - (r + 1)) _ _ _ _ (by omega) ⟨r + 1, _, true, u + 1, by omega, rfl, rfl, rfl, rfl, rfl, lr, fun _ => ht, fun z => (by cases z)⟩
      · have hS1 : rndS LN (tirS LN d w (i + 1)) d S D5 cl (h + 1) = stpS LN (tirS LN d w (i + 1)) d S D5 (rndS LN (tirS LN d w (i + 1)) d S D5 cl h) h := rfl
        have hzn : zn (tirS LN d w (i + 1)) h = zn w h := zn_tir W0 hw hd
        generalize hcur : rndS LN (tirS LN d w (i + 1)) d S D5 cl h = cur at hS1 lr
        have hst : stpS LN (tirS LN d w (i + 1)) d S D5 cur h = if S.testBit h = true ∧ cur.testBit h = false ∧ D5 h < nI (clapS LN (tirS LN d w (i + 1)) h d (pc (zn w h &&& cur))) then cur ||| 2 ^ h else cur := by unfold stpS; rw [hzn]
        have ls := sdf_le S cur
        rw [nz_diff, e_isInX m3 (by omega) (by omega), bd_s, sdf_bit]
        cases hb : (S.testBit h && !cur.testBit h) with
        | false =>
          rw [if_pos (by decide)]
          have : ¬ (S.testBit h = true ∧ cur.testBit h = false ∧ D5 h < nI (clapS LN (tirS LN d w (i + 1)) h d (pc (zn w h &&& cur)))) := by
            rintro ⟨a, b, -⟩
            rw [a, b] at hb
            cases hb
          rw [if_neg this] at hst
          exact hX2 (zh w - (h + 1)) _ _ _ (by omega) ⟨h + 1, by omega, rfl, by rw [hS1, hst], rfl, rfl⟩
        | true =>
          rw [Bool.and_eq_true, Bool.not_eq_true'] at hb
          obtain ⟨hb1, hb2⟩ := hb
          obtain ⟨ez, hz⟩ := hea_zn W0 (show h < zh w by omega)
          have lp := pc_le (zn w h &&& cur)
          have hrow : rowM LN w d i h = mk LN w d i h (pc (zn w h) + 1) := by unfold rowM; rw [hS h hb1, if_pos rfl]
          have lrow := rowM_lt (LN := LN) (w := w) (d := d) (i := i) (h := h)
          have hle : zn w h &&& cur ≤ zn w h := Nat.and_le_left
          rw [if_neg (by decide), hr_hea H W0 (by omega) (by decide), bd_s, show heaV w h 6 = w (185 + h) from rfl, ez, nz_and, e_bitCount _ (by omega), bd_s, e_at H.fx (show (117, 5, 12) ∈ tbs by decide) p1 hn (show i < n by omega) (show h < 12 by omega), bd_s,
            (p3 i hi).1 h (by omega), e_isInX m3 (by omega) (by omega), bd_s, hrow]
          have lc := clap_le (LN := LN) (w := tirS LN d w (i + 1)) (d := d) (h := h) (b := pc (zn w h &&& cur))
          have hbit := mk_bit (LN := LN) (w := w) (d := d) (i := i) (h := h) (k := pc (zn w h &&& cur)) (pc (zn w h) + 1)
          have hpa := pc_and (a := zn w h) (b := cur)
          cases hbb : (mk LN w d i h (pc (zn w h) + 1)).testBit (pc (zn w h &&& cur)) with
          | false =>
            have : ¬ 500 < clapS LN (tirS LN d w (i + 1)) h d (pc (zn w h &&& cur)) := fun z => by
              rw [hbit.mpr ⟨by omega, z⟩] at hbb
              cases hbb
            rw [if_neg (fun z => this ((nI_ltI (by decide) (by omega)).mp z.2.2))] at hst
            rw [if_pos (by decide), nz_or, Nat.or_zero, bnd_s]
            exact hX2 (zh w - (h + 1)) _ _ _ (by omega) ⟨h + 1, by omega, rfl, by rw [hS1, hst], rfl, rfl⟩
          | true =>
            have h5 := (hbit.mp hbb).2
            rw [if_pos ⟨hb1, hb2, (nI_ltI (by decide) (by omega)).mpr h5⟩] at hst
            rw [if_neg (by decide), nz_one (by omega), nz_or, bnd_s]
            exact hX2 (zh w - (h + 1)) _ _ _ (by omega) ⟨h + 1, by omega, rfl, by rw [hS1, hst], rfl, rfl⟩
end PREPARE
