/-! makes, brakes -/
section MAKES
variable {w w' v0 : Arr} {LN : List Lin} {m m' m2 : Mem} {N d n j i : Nat}
theorem bstS_7 {b : Nat} : ∀ {n : Nat}, bstS w n = some b → w (105 + 3 * b) = nI 7
  | 0, h => by cases h
  | n + 1, h => by
    unfold bstS at h
    split at h
    · rename_i hc
      have := Option.some.inj h
      subst this
      exact hc.1
    · exact bstS_7 h
theorem hnd_99 (W0 : WFc w) : isn (hndS w) 99 := by
  unfold hndS
  cases h : bstS w (zs w) with
  | none => exact isn.nI (by decide)
  | some b =>
    obtain ⟨⟨k, k1, k2, ek, h7, -⟩, -⟩ := W0.sta (bstS_lt h)
    have e := bstS_7 h
    rw [ek, nI_eq (by omega) (by decide)] at e
    obtain ⟨a, -, a2, ea⟩ := h7 e
    exact ⟨a, a2, ea⟩
theorem loud_99 : loudS LN w d ≤ 99 := by
  unfold loudS sayV
  split <;> exact clm_le _ _
theorem neg_sub : ∀ k, k < 100 → ∀ l, l < 100 → k < l → nI k - nI l < nI 0 := by decide +kernel
theorem due_lt {S : Nat} (W0 : WFc w) (hw : lawW w LN) (hd : d < zd w) : nI (sumS w (clq LN w d i S) (zh w)) < dueq LN w d i ↔ gq LN w d i S = false := by
  obtain ⟨W1, hw1, zd1, o1⟩ := tirS_ok (LN := LN) W0 hw hd (i + 1)
  have lh := W0.lzh
  have es : sumS (tirS LN d w (i + 1)) (clq LN w d i S) (zh w) = sumS w (clq LN w d i S) (zh w) := sumS_cg (fun k hk => o1 k (by omega)) W0 _ lh
  have ls := sumS_le W0 (set := clq LN w d i S) (n := zh w) (Nat.le_refl _)
  have ll := loud_99 (LN := LN) (w := tirS LN d w (i + 1)) (d := d)
  obtain ⟨k, hk, ek⟩ := hnd_99 W1
  unfold dueq gq
  rw [es]
  generalize sumS w (clq LN w d i S) (zh w) = s at ls
  generalize loudS LN (tirS LN d w (i + 1)) d = l at ll
  cases hm : mayS (tirS LN d w (i + 1)) with
  | false =>
    rw [if_neg (by decide), Bool.and_false, nI_ltI (by omega) (by omega)]
    exact ⟨fun _ => rfl, fun _ => by omega⟩
  | true =>
    rw [if_pos rfl, Bool.and_true, ek, decide_eq_false_iff_not, nI_leI (by omega) (by omega)]
    by_cases q : l ≤ k
    · rw [pk_sub q, nI_ltI (by omega) (by omega)]
      omega
    · have := neg_sub k (by omega) l (by omega) (by omega)
      constructor
      · intro h
        exact absurd (Int32.lt_trans h this) (nI_no0 (by omega))
      · intro h
        omega
theorem w_isDone {S : Nat} (hN : 20000 ≤ N) (W0 : WFc w) (hw : lawW w LN) (hd : d < zd w) (H : HRep 2 LN w m) (P : PrpR LN w d n n m) (h1 : 1 ≤ n) (hn : n ≤ 5) (hS : sb S (rdyS w)) :
    Wp (f_X0_isDone N (nI n) (nI S) m) (fun v m' => m' = m ∧ ((v = nI 1 ∧ Dq LN w d n S) ∨ (v = nI 0 ∧ ¬ Dq LN w d n S))) := by
  have lh := W0.lzh
  have p := pow_le31 lh
  obtain ⟨p1, p2, p3, p5, p6⟩ := id P
  unfold f_X0_isDone
  refine wp_it1 (fun q c m' => ∃ i, i ≤ n ∧ q = n - i ∧ c = nI i ∧ m' = m ∧ ∀ k, k < i → gq LN w d k S = !decide (n - 1 ≤ k)) ?_ N n _ _ (by omega) ⟨0, by omega, rfl, rfl, rfl, fun k hk => absurd hk (by omega)⟩
  rintro q X c m' ⟨i, hi, rfl, rfl, rfl, hk⟩ hX
  unfold f_X0_isDone_L2
  simp only [li_0, li_1, li_2, li_3, li_4, li_5, li_6, li_7, li_8, li_9, li_10, li_11, li_12, li_13, li_14, li_15, li_16, li_17, li_18, li_19, li_20, li_21, li_22, li_23, li_24, li_25, li_26, li_27, li_28, li_29, li_30, li_31, li_32, li_37, li_38, li_39, li_40, li_41, li_42, li_43, li_44, li_45, li_46, li_47, li_48, li_49, li_50, li_57, li_59, li_60, li_61, li_62, li_63, li_64, li_65, li_69, li_81, li_89, li_90, li_92, li_97, li_99, li_100, li_101, li_103, li_104, li_105, li_106, li_108, li_111, li_112, li_113, li_114, li_115, li_116, li_117, li_119, li_122, li_123, li_124, li_125, li_126, li_127, li_128, li_129, li_130, li_131, li_132, li_133, li_134, li_135, li_136, li_137, li_140, li_141, li_142, li_143, li_145, li_147, li_150, li_153, li_159, li_160, li_161, li_162, li_185, li_197, li_213, li_222, li_223, li_255, li_256, li_257, li_258, li_259, li_260, li_261, li_262, li_263, li_264, li_271, li_272, li_273, li_274, li_275, li_276, li_277, li_278, li_300, li_400, li_420, li_500, li_802, li_820, li_823, li_839, li_855, li_871, li_887, li_999, li_1000, li_1001, li_1002, li_1003, li_1004, li_1005, li_1006, li_1007, li_1008, li_1009, li_1010, li_1011, li_1012, li_1013, li_1014, li_1015, li_1016, li_1017, li_1018, li_1019, li_1020, li_1021, li_1022, li_1023, li_1707, li_4096, li_9999, li_65536, li_100000, li_1000000, li_1664525, li_100000000, li_252645135, li_858993459, li_1000000007, li_1013904223, li_1431655765, li_m1]
  refine wp_ite (fun q => ?_) (fun q => ?_) <;> rw [nI_leI (by omega) (by omega)] at q
  · refine wp_ret ⟨rfl, Or.inl ⟨rfl, fun k hk2 => ?_, ?_⟩⟩
    · rw [hk k (by omega), decide_eq_false (by omega)]; rfl
    · rw [hk (n - 1) (by omega), decide_eq_true (by omega)]; rfl
  · have hcl : clq LN w d i S < 2 ^ zh w := by
      obtain ⟨W1, hw1, zd1, o1⟩ := tirS_ok (LN := LN) W0 hw hd (i + 1)
      have ezh : zh (tirS LN d w (i + 1)) = zh w := by unfold zh; rw [o1 37 (by decide)]
      rw [← ezh]
      exact setS_lt 13 0 0 (pow_pos' _)
    have hdl := due_lt (S := S) (i := i) W0 hw hd
    rw [e_clapAt hN W0 hw hd H P (by omega) hn hS, bd_s, w_handsOf hN H W0 (by omega), bd_s, e_at H.fx (show (119, 5, 1) ∈ tbs by decide) p2 hn (show i < n by omega) (show 0 < 1 by decide), bd_s,
      show m' (119 + 1) (i * 1 + 0) = dueq LN w d i by rw [show i * 1 + 0 = i by omega]; exact (p3 i (by omega)).2]
    have go : ∀ b, gq LN w d i S = b → Wp (f_X0_isDone_J37 N (nI n) (nI S) X (nI i) (b2i b) m') (fun v m'_1 => m'_1 = m' ∧ ((v = nI 1 ∧ Dq LN w d n S) ∨ (v = nI 0 ∧ ¬ Dq LN w d n S))) := by
      intro b hb
      unfold f_X0_isDone_J37
      simp only [li_0, li_1, li_2, li_3, li_4, li_5, li_6, li_7, li_8, li_9, li_10, li_11, li_12, li_13, li_14, li_15, li_16, li_17, li_18, li_19, li_20, li_21, li_22, li_23, li_24, li_25, li_26, li_27, li_28, li_29, li_30, li_31, li_32, li_37, li_38, li_39, li_40, li_41, li_42, li_43, li_44, li_45, li_46, li_47, li_48, li_49, li_50, li_57, li_59, li_60, li_61, li_62, li_63, li_64, li_65, li_69, li_81, li_89, li_90, li_92, li_97, li_99, li_100, li_101, li_103, li_104, li_105, li_106, li_108, li_111, li_112, li_113, li_114, li_115, li_116, li_117, li_119, li_122, li_123, li_124, li_125, li_126, li_127, li_128, li_129, li_130, li_131, li_132, li_133, li_134, li_135, li_136, li_137, li_140, li_141, li_142, li_143, li_145, li_147, li_150, li_153, li_159, li_160, li_161, li_162, li_185, li_197, li_213, li_222, li_223, li_255, li_256, li_257, li_258, li_259, li_260, li_261, li_262, li_263, li_264, li_271, li_272, li_273, li_274, li_275, li_276, li_277, li_278, li_300, li_400, li_420, li_500, li_802, li_820, li_823, li_839, li_855, li_871, li_887, li_999, li_1000, li_1001, li_1002, li_1003, li_1004, li_1005, li_1006, li_1007, li_1008, li_1009, li_1010, li_1011, li_1012, li_1013, li_1014, li_1015, li_1016, li_1017, li_1018, li_1019, li_1020, li_1021, li_1022, li_1023, li_1707, li_4096, li_9999, li_65536, li_100000, li_1000000, li_1664525, li_100000000, li_252645135, li_858993459, li_1000000007, li_1013904223, li_1431655765, li_m1, nI_up]
      rw [pk_sub (by omega)]
      refine wp_ite (fun q2 => ?_) (fun q2 => ?_) <;> rw [nI_leI (by omega) (by omega)] at q2
      · cases b with
        | false =>
          rw [if_pos (by decide)]
          refine hX (n - (i + 1)) _ _ (by omega) ⟨i + 1, by omega, rfl, rfl, rfl, fun k hk2 => ?_⟩
          by_cases e : k = i
          · subst e; rw [hb, decide_eq_true q2]; rfl
          · exact hk k (by omega)
        | true =>
          rw [if_neg (by decide)]
          refine wp_ret ⟨rfl, Or.inr ⟨rfl, fun z => ?_⟩⟩
          have := z.2
          rw [show n - 1 = i by omega, hb] at this
          cases this
      · cases b with
        | true =>
          rw [if_pos (by decide)]
          refine hX (n - (i + 1)) _ _ (by omega) ⟨i + 1, by omega, rfl, rfl, rfl, fun k hk2 => ?_⟩
          by_cases e : k = i
          · subst e; rw [hb, decide_eq_false q2]; rfl
          · exact hk k (by omega)
        | false =>
          rw [if_neg (by decide)]
          refine wp_ret ⟨rfl, Or.inr ⟨rfl, fun z => ?_⟩⟩
          have := z.1 i (by omega)
          rw [hb] at this
          cases this
    refine wp_ite (fun q2 => ?_) (fun q2 => ?_)
    · exact go false (hdl.mp q2)
    · refine go true ?_
      cases hg : gq LN w d i S with
      | true => rfl
      | false => exact absurd (hdl.mpr hg) q2
theorem sb_zero {R : Nat} : sb 0 R := fun k hk => by
  rw [Nat.zero_testBit] at hk
  cases hk
/-! the best set so far -/
def BP (R : Nat) (P : Nat → Prop) (s : Nat) : Option Nat → Prop
  | none => ∀ t, t < s → sb t R → ¬ P t
  | some b => b < s ∧ sb b R ∧ P b ∧ ∀ t, t < s → sb t R → P t → pc b < pc t ∨ (pc b = pc t ∧ b ≤ t)
theorem BP.zero {R : Nat} {P : Nat → Prop} : BP R P 0 none := fun t ht => absurd ht (by omega)
theorem BP.skip {R s : Nat} {P : Nat → Prop} {o : Option Nat} (h : BP R P s o) (hp : ¬ (sb s R ∧ P s)) : BP R P (s + 1) o := by
  cases o with
  | none =>
    intro t ht hs hpt
    by_cases e : t = s
    · subst e; exact hp ⟨hs, hpt⟩
    · exact h t (by omega) hs hpt
  | some b =>
    obtain ⟨a, b', c, e⟩ := h
    refine ⟨by omega, b', c, fun t ht hs hpt => ?_⟩
    by_cases e2 : t = s
    · subst e2; exact absurd ⟨hs, hpt⟩ hp
    · exact e t (by omega) hs hpt
theorem BP.keep {R s b : Nat} {P : Nat → Prop} (h : BP R P s (some b)) (hp : pc b ≤ pc s) : BP R P (s + 1) (some b) := by
  obtain ⟨a, b', c, e⟩ := h
  refine ⟨by omega, b', c, fun t ht hs hpt => ?_⟩
  by_cases e2 : t = s
  · subst e2; omega
  · exact e t (by omega) hs hpt
theorem BP.new {R s : Nat} {P : Nat → Prop} {o : Option Nat} (h : BP R P s o) (hs : sb s R) (hp : P s) (ho : ∀ b, o = some b → pc s < pc b) : BP R P (s + 1) (some s) := by
  refine ⟨by omega, hs, hp, fun t ht hts hpt => ?_⟩
  by_cases e2 : t = s
  · subst e2; omega
  · cases o with
    | none => exact absurd hpt (h t (by omega) hts)
    | some b =>
      have h1 := ho b rfl
      have h2 := h.2.2.2 t (by omega) hts hpt
      omega
theorem BP.next {R s s' : Nat} {P : Nat → Prop} {o : Option Nat} (h : BP R P (s + 1) o) (hl : s < s') (hn : ∀ t, sb t R → s < t → s' ≤ t) : BP R P s' o := by
  have key : ∀ t, t < s' → sb t R → t < s + 1 := fun t ht hs => by
    by_cases q : s < t
    · have := hn t hs q
      omega
    · omega
  cases o with
  | none => exact fun t ht hs => h t (key t ht hs) hs
  | some b => exact ⟨by have := h.1; omega, h.2.1, h.2.2.1, fun t ht hs => h.2.2.2 t (key t ht hs) hs⟩
theorem BP.fin {R s : Nat} {P : Nat → Prop} {o : Option Nat} (h : BP R P (s + 1) o) (hn : R ≤ s) : BstV R P (oix o) := by
  cases o with
  | none => exact Or.inl ⟨rfl, fun t hs => h t (by have := sb_le hs; omega) hs⟩
  | some b => exact Or.inr ⟨b, rfl, h.2.1, h.2.2.1, fun t hs => h.2.2.2 t (by have := sb_le hs; omega) hs⟩
theorem BP.lt {R s b : Nat} {P : Nat → Prop} (h : BP R P s (some b)) : b < s := h.1
/-! what the tables say of whom may clap -/
theorem ralS_bit {h : Nat} : ∀ n, (ralS LN w d n).testBit h = true ↔ ∃ i, i < n ∧ h < zh w ∧ rowM LN w d i h ≠ 0
  | 0 => by
    show (0 : Nat).testBit h = true ↔ _
    rw [Nat.zero_testBit]
    constructor
    · intro h; cases h
    · rintro ⟨i, hi, -⟩; omega
  | n + 1 => by
    have ih := ralS_bit (h := h) n
    unfold ralS
    rw [Nat.testBit_or, Bool.or_eq_true, ih, rsS_bit]
    constructor
    · rintro (⟨i, h1, h2⟩ | h)
      · exact ⟨i, by omega, h2⟩
      · exact ⟨n, by omega, h⟩
    · rintro ⟨i, h1, h2⟩
      by_cases e : i = n
      · subst e; exact Or.inr h2
      · exact Or.inl ⟨i, by omega, h2⟩
theorem rowM_ne {h : Nat} : rowM LN w d i h ≠ 0 ↔ (rdyS w).testBit h = true ∧ mayC LN w d i h := by
  unfold rowM mayC
  by_cases q : (rdyS w).testBit h = true
  · rw [if_pos q]
    constructor
    · intro hne
      refine ⟨q, Classical.byContradiction fun z => hne (Nat.eq_of_testBit_eq (fun k => ?_))⟩
      rw [Nat.zero_testBit]
      cases hb : (mk LN w d i h (pc (zn w h) + 1)).testBit k with
      | false => rfl
      | true =>
        obtain ⟨h1, h2⟩ := (mk_bit _).mp hb
        exact absurd ⟨k, by omega, h2⟩ z
    · rintro ⟨-, b, h1, h2⟩ hz
      have := (mk_bit (LN := LN) (w := w) (d := d) (i := i) (h := h) (k := b) (pc (zn w h) + 1)).mpr ⟨by omega, h2⟩
      rw [hz, Nat.zero_testBit] at this
      cases this
  · rw [if_neg q]
    constructor
    · intro h; exact absurd rfl h
    · rintro ⟨h, -⟩; exact absurd h q
theorem ralS_sb : sb (ralS LN w d n) (rdyS w) := fun h hh => by
  obtain ⟨i, -, -, hr⟩ := (ralS_bit n).mp hh
  exact (rowM_ne.mp hr).1
/-- only who may clap does -/
theorem clq_in {S : Nat} (W0 : WFc w) (hw : lawW w LN) (hd : d < zd w) (hS : sb S (rdyS w)) : sb (clq LN w d i S) (rsS LN w d i (zh w)) := by
  obtain ⟨W1, hw1, zd1, o1⟩ := tirS_ok (LN := LN) W0 hw hd (i + 1)
  have ezh : zh (tirS LN d w (i + 1)) = zh w := by unfold zh; rw [o1 37 (by decide)]
  have hstp : ∀ cl h, h < zh w → sb cl (rsS LN w d i (zh w)) → sb (stpS LN (tirS LN d w (i + 1)) d S D5 cl h) (rsS LN w d i (zh w)) := by
    intro cl h hh hcl
    unfold stpS
    rw [zn_tir W0 hw hd]
    split
    · rename_i hc
      intro k hk
      rw [Nat.testBit_or, Bool.or_eq_true, Nat.testBit_two_pow, decide_eq_true_eq] at hk
      rcases hk with hk | rfl
      · exact hcl k hk
      · have lc := clap_le (LN := LN) (w := tirS LN d w (i + 1)) (d := d) (h := h) (b := pc (zn w h &&& cl))
        exact (rsS_bit _).mpr ⟨hh, rowM_ne.mpr ⟨hS h hc.1, _, pc_and, (nI_ltI (by decide) (by omega)).mp hc.2.2⟩⟩
    · exact hcl
  have hrnd : ∀ cl, sb cl (rsS LN w d i (zh w)) → ∀ n, n ≤ zh w → sb (rndS LN (tirS LN d w (i + 1)) d S D5 cl n) (rsS LN w d i (zh w)) := by
    intro cl hcl n
    induction n with
    | zero => exact fun _ => hcl
    | succ n ih => exact fun hn => hstp _ _ (by omega) (ih (by omega))
  have hset : ∀ k cl r, sb cl (rsS LN w d i (zh w)) → sb (setS LN (tirS LN d w (i + 1)) d S D5 k cl r).1 (rsS LN w d i (zh w)) := by
    intro k
    induction k with
    | zero => exact fun cl r h => h
    | succ k ih =>
      intro cl r h
      unfold setS
      split
      · exact h
      · exact ih _ _ (by rw [ezh]; exact hrnd cl h _ (Nat.le_refl _))
  exact hset 13 0 0 (fun k hk => by rw [Nat.zero_testBit] at hk; cases hk)
theorem sumS_sb {a b : Nat} (h : sb a b) : ∀ n, sumS w a n ≤ sumS w b n
  | 0 => Nat.le_refl _
  | n + 1 => by
    have ih := sumS_sb h n
    unfold sumS
    cases ha : a.testBit n with
    | false =>
      rw [if_neg (by decide)]
      split <;> omega
    | true =>
      rw [h n ha]
      omega
/-- where the tables say that it can't be, it can't -/
theorem bad_no {S : Nat} (W0 : WFc w) (hw : lawW w LN) (hd : d < zd w) (hS : sb S (rdyS w)) (hb : badS LN w d n n = true) : ¬ Dq LN w d n S := by
  have key : ∀ k, k ≤ n → badS LN w d n k = true → ∃ i, i < k ∧ badR LN w d n i = true := by
    intro k
    induction k with
    | zero => intro _ h; cases h
    | succ k ih =>
      intro hk h
      unfold badS at h
      rw [Bool.or_eq_true] at h
      rcases h with h | h
      · obtain ⟨i, h1, h2⟩ := ih (by omega) h
        exact ⟨i, by omega, h2⟩
      · exact ⟨k, by omega, h⟩
  obtain ⟨i, hi, hbi⟩ := key n (Nat.le_refl _) hb
  have hdl := due_lt (S := S) (i := i) W0 hw hd
  have ls := sumS_le W0 (set := clq LN w d i S) (n := zh w) (Nat.le_refl _)
  have lh := W0.lzh
  rintro ⟨z1, z2⟩
  unfold badR at hbi
  by_cases q : n - 1 ≤ i
  · rw [if_pos q, Bool.not_eq_true', decide_eq_false_iff_not] at hbi
    rw [show n - 1 = i by omega] at z2
    have h1 := hdl.mpr z2
    exact hbi (Int32.lt_of_le_of_lt (nI_pos' (by omega)) h1)
  · rw [if_neg q, Bool.not_eq_true', decide_eq_false_iff_not] at hbi
    have h1 := z1 i (by omega)
    obtain ⟨W1, hw1, zd1, o1⟩ := tirS_ok (LN := LN) W0 hw hd (i + 1)
    have es : sumS (tirS LN d w (i + 1)) (rsS LN w d i (zh w)) (zh w) = sumS w (rsS LN w d i (zh w)) (zh w) := sumS_cg (fun k hk => o1 k (by omega)) W0 _ lh
    have l2 := sumS_sb (w := w) (clq_in (i := i) (LN := LN) W0 hw hd hS) (zh w)
    have l3 := sumS_le W0 (set := rsS LN w d i (zh w)) (n := zh w) (Nat.le_refl _)
    rw [es] at hbi
    have h2 : ¬ nI (sumS w (clq LN w d i S) (zh w)) < dueq LN w d i := fun z => by
      rw [hdl.mp z] at h1
      cases h1
    exact hbi (Int32.le_trans (Int32.not_lt.mp h2) ((nI_leI (by omega) (by omega)).mpr l2))
theorem w_away (hN : 20000 ≤ N) (W0 : WFc w) (hw : lawW w LN) (hd : d < zd w) (H : HRep 2 LN w m) (P : PrpR LN w d n n m) (h1 : 1 ≤ n) (hn : n ≤ 5) :
    Wp (f_X0_away N (nI n) m) (fun v m' => m' = m ∧ BstV (ralS LN w d n) (fun s => Dq LN w d n (sdf (ralS LN w d n) s)) v) := by
  have lh := W0.lzh
  have p := pow_le31 lh
  obtain ⟨p1, p2, p3, p5, p6⟩ := id P
  have lR := ralS_lt (LN := LN) (w := w) (d := d) n
  have sR := ralS_sb (LN := LN) (w := w) (d := d) (n := n)
  generalize hR : ralS LN w d n = R at lR sR p5
  have sS : ∀ s, sb (sdf R s) (rdyS w) := fun s k hk => by
    rw [sdf_bit, Bool.and_eq_true] at hk
    exact sR k hk.1
  unfold f_X0_away
  refine wp_it3 (fun q x y z m' => ∃ o s c, q = 4096 - s ∧ s ≤ R ∧ x = oix o ∧ y = nI s ∧ z = nI c ∧ c ≤ s ∧ m' = m ∧ sb s R ∧ BP R (fun s => Dq LN w d n (sdf R s)) s o ∧ (badS LN w d n n = true → o = none)) ?_ N 4096 _ _ _ _ (by omega)
    ⟨none, 0, 0, rfl, by omega, rfl, rfl, rfl, Nat.le_refl _, rfl, sb_zero, BP.zero, fun _ => rfl⟩
  rintro q X x y z m' ⟨o, s, c, rfl, hs, rfl, rfl, rfl, hc, rfl, hsb, hbp, hbo⟩ hX
  unfold f_X0_away_L7
  simp only [li_0, li_1, li_2, li_3, li_4, li_5, li_6, li_7, li_8, li_9, li_10, li_11, li_12, li_13, li_14, li_15, li_16, li_17, li_18, li_19, li_20, li_21, li_22, li_23, li_24, li_25, li_26, li_27, li_28, li_29, li_30, li_31, li_32, li_37, li_38, li_39, li_40, li_41, li_42, li_43, li_44, li_45, li_46, li_47, li_48, li_49, li_50, li_57, li_59, li_60, li_61, li_62, li_63, li_64, li_65, li_69, li_81, li_89, li_90, li_92, li_97, li_99, li_100, li_101, li_103, li_104, li_105, li_106, li_108, li_111, li_112, li_113, li_114, li_115, li_116, li_117, li_119, li_122, li_123, li_124, li_125, li_126, li_127, li_128, li_129, li_130, li_131, li_132, li_133, li_134, li_135, li_136, li_137, li_140, li_141, li_142, li_143, li_145, li_147, li_150, li_153, li_159, li_160, li_161, li_162, li_185, li_197, li_213, li_222, li_223, li_255, li_256, li_257, li_258, li_259, li_260, li_261, li_262, li_263, li_264, li_271, li_272, li_273, li_274, li_275, li_276, li_277, li_278, li_300, li_400, li_420, li_500, li_802, li_820, li_823, li_839, li_855, li_871, li_887, li_999, li_1000, li_1001, li_1002, li_1003, li_1004, li_1005, li_1006, li_1007, li_1008, li_1009, li_1010, li_1011, li_1012, li_1013, li_1014, li_1015, li_1016, li_1017, li_1018, li_1019, li_1020, li_1021, li_1022, li_1023, li_1707, li_4096, li_9999, li_65536, li_100000, li_1000000, li_1664525, li_100000000, li_252645135, li_858993459, li_1000000007, li_1013904223, li_1431655765, li_m1]
  rw [if_neg (nI_ge (by omega) (by omega)), p6, if_b2i]
  cases hbad : badS LN w d n n with
  | true =>
    rw [if_pos rfl, hbo hbad]
    exact wp_ret ⟨rfl, Or.inl ⟨rfl, fun t _ => bad_no W0 hw hd (sS t) hbad⟩⟩
  | false =>
    rw [if_neg (by decide)]
    have tail : ∀ o', BP R (fun s => Dq LN w d n (sdf R s)) (s + 1) o' → Wp (bd (f_X11_nextWithin N (nI s) (m' 116 5) m') fun r_73 m_73 => if r_73 = nI 0 then (some (oix o', m_73)) else (X (oix o') r_73 (nI c + nI 1) m_73)) (fun v m'_1 => m'_1 = m' ∧ BstV R (fun s => Dq LN w d n (sdf R s)) v) := by
      intro o' h'
      rw [p5, e_nextIn m' (by omega) hsb, bd_s]
      rcases nx_ok 12 R s (by omega) hsb with ⟨e1, e2⟩ | ⟨g1, g2, g3⟩
      · rw [e2, if_pos rfl]
        exact wp_ret ⟨rfl, h'.fin (by omega)⟩
      · have := sb_le g2
        rw [if_neg (nI_ne (by omega) (by omega) (by decide)), nI_up]
        exact hX (4096 - nx 12 R s) _ _ _ _ (by omega) ⟨o', nx 12 R s, c + 1, rfl, this, rfl, rfl, rfl, by omega, rfl, g2, h'.next g1 g3, fun z => by rw [hbad] at z; cases z⟩
    have J38 : (∀ b, o = some b → pc s < pc b) → Wp (f_X0_away_J38 N (nI n) X (oix o) (nI s) (nI c) m') (fun v m'_1 => m'_1 = m' ∧ BstV R (fun s => Dq LN w d n (sdf R s)) v) := by
      intro hless
      unfold f_X0_away_J38 f_X0_away_J43
      simp only [li_0, li_1, li_2, li_3, li_4, li_5, li_6, li_7, li_8, li_9, li_10, li_11, li_12, li_13, li_14, li_15, li_16, li_17, li_18, li_19, li_20, li_21, li_22, li_23, li_24, li_25, li_26, li_27, li_28, li_29, li_30, li_31, li_32, li_37, li_38, li_39, li_40, li_41, li_42, li_43, li_44, li_45, li_46, li_47, li_48, li_49, li_50, li_57, li_59, li_60, li_61, li_62, li_63, li_64, li_65, li_69, li_81, li_89, li_90, li_92, li_97, li_99, li_100, li_101, li_103, li_104, li_105, li_106, li_108, li_111, li_112, li_113, li_114, li_115, li_116, li_117, li_119, li_122, li_123, li_124, li_125, li_126, li_127, li_128, li_129, li_130, li_131, li_132, li_133, li_134, li_135, li_136, li_137, li_140, li_141, li_142, li_143, li_145, li_147, li_150, li_153, li_159, li_160, li_161, li_162, li_185, li_197, li_213, li_222, li_223, li_255, li_256, li_257, li_258, li_259, li_260, li_261, li_262, li_263, li_264, li_271, li_272, li_273, li_274, li_275, li_276, li_277, li_278, li_300, li_400, li_420, li_500, li_802, li_820, li_823, li_839, li_855, li_871, li_887, li_999, li_1000, li_1001, li_1002, li_1003, li_1004, li_1005, li_1006, li_1007, li_1008, li_1009, li_1010, li_1011, li_1012, li_1013, li_1014, li_1015, li_1016, li_1017, li_1018, li_1019, li_1020, li_1021, li_1022, li_1023, li_1707, li_4096, li_9999, li_65536, li_100000, li_1000000, li_1664525, li_100000000, li_252645135, li_858993459, li_1000000007, li_1013904223, li_1431655765, li_m1]
      rw [if_neg (by decide), p5, nz_diff]
      refine wp_bind (w_isDone hN W0 hw hd H P h1 hn (sS s)) ?_
      rintro v _ ⟨rfl, ⟨rfl, hD⟩ | ⟨rfl, hD⟩⟩
      · rw [if_neg (by decide)]
        exact tail (some s) (hbp.new hsb hD hless)
      · rw [if_pos rfl]
        exact tail o (hbp.skip (fun z => hD z.2))
    cases o with
    | none =>
      rw [if_pos (by rfl)]
      exact J38 (fun b hb => by cases hb)
    | some b =>
      have hb := hbp.lt
      have l1 := pc_le s
      have l2 := pc_le b
      rw [if_neg (show ¬ oix (some b) = mo1 from nI_no1 (by omega)), e_bitCount _ (by omega), bd_s]
      show Wp (bd (f_J6_bitCount_0f7a4 N (nI b) m') _) _
      rw [e_bitCount _ (by omega), bd_s]
      refine wp_ite (fun q2 => ?_) (fun q2 => ?_) <;> rw [nI_leI (by omega) (by omega)] at q2
      · unfold f_X0_away_J43
        simp only [li_0, li_1, li_2, li_3, li_4, li_5, li_6, li_7, li_8, li_9, li_10, li_11, li_12, li_13, li_14, li_15, li_16, li_17, li_18, li_19, li_20, li_21, li_22, li_23, li_24, li_25, li_26, li_27, li_28, li_29, li_30, li_31, li_32, li_37, li_38, li_39, li_40, li_41, li_42, li_43, li_44, li_45, li_46, li_47, li_48, li_49, li_50, li_57, li_59, li_60, li_61, li_62, li_63, li_64, li_65, li_69, li_81, li_89, li_90, li_92, li_97, li_99, li_100, li_101, li_103, li_104, li_105, li_106, li_108, li_111, li_112, li_113, li_114, li_115, li_116, li_117, li_119, li_122, li_123, li_124, li_125, li_126, li_127, li_128, li_129, li_130, li_131, li_132, li_133, li_134, li_135, li_136, li_137, li_140, li_141, li_142, li_143, li_145, li_147, li_150, li_153, li_159, li_160, li_161, li_162, li_185, li_197, li_213, li_222, li_223, li_255, li_256, li_257, li_258, li_259, li_260, li_261, li_262, li_263, li_264, li_271, li_272, li_273, li_274, li_275, li_276, li_277, li_278, li_300, li_400, li_420, li_500, li_802, li_820, li_823, li_839, li_855, li_871, li_887, li_999, li_1000, li_1001, li_1002, li_1003, li_1004, li_1005, li_1006, li_1007, li_1008, li_1009, li_1010, li_1011, li_1012, li_1013, li_1014, li_1015, li_1016, li_1017, li_1018, li_1019, li_1020, li_1021, li_1022, li_1023, li_1707, li_4096, li_9999, li_65536, li_100000, li_1000000, li_1664525, li_100000000, li_252645135, li_858993459, li_1000000007, li_1013904223, li_1431655765, li_m1]
        rw [if_pos trivial]
        exact tail (some b) (hbp.keep q2)
      · exact J38 (fun b' hb' => by
          have := Option.some.inj hb'
          subst this
          omega)
end MAKES
