/-! paid; gloves, let in, sent away -/
section PAYH
variable {h h' h2 h1 : DS} {t N d hh c o u i k A n Lc b q C S : Nat} {xs : Nat → Int32} {p pb : Plc} {w w' a w2 : Arr} {dl : Option (Nat → Int32)} {LN : List Lin} {v x s5 : Int32} {lb lb' : Nat → Nat × Nat × Nat} {T : Nat → Nat} {Pp : Nat → Plc} {f : Nat → Arr} {Q : Int32 → DS → Prop} {K : DS → DA} {K994 : Nat → DS → DA} {X : (Nat × Int32 × Int32) → DS → DA} {m m1 m2 : Mem} {c0 s0 B : Nat}
theorem r_358 (hN : 20000 ≤ N) (hD : LawD LN dl) (I : CW LN dl B A lb t p w k T Pp f b pb h) (hd : hh ≤ zh w) (hq1 : q ≤ 100) (hq : hh = zh w ∨ q = 0 ∨ q = 100) (hn : csz h.2.1 + 100 < 1000000) (hc : csz h.2.1 + 64 ≤ c0) (hs : ssz h.2.1 + 431 ≤ s0) (hX : ∀ t' k' h', RE LN dl B A c0 s0 t' k' h' → Wd (X (t', nI k', s5 + 1) h') Q) :
    Wd (g_L_law_J358_41 N Lc xs A K994 X t (nI k) s5 (nI hh) b (nI q) h) Q := by
  have W0 := I.1.good.1
  have ld := W0.lzh
  unfold g_L_law_J358_41 g_L_law_J359_41
  rw [if_pos rfl]
  unfold g_L_law_J413_41
  refine wd_qt (v := 0) I.1.1.2.2.1 (pr_pay hN) (pg_f_X11_pay (Gh.rf _)) (fun m => ps_f_X12_pay (Ag.rf m)) I.1.2.2.1 (fun m1 g => ?_) (fun m2 i2 q2 => ?_)
  · have w1 : m1 124 = w := (g 124 (by decide)).trans I.1.2.2.2.1
    by_cases z : hh = zh w
    · rw [z]
      exact wp_eq (m_payX w1 W0 (inb_end (by omega))) (wp_ret ⟨rfl, Fr.rf⟩)
    · exact wp_eq (m_payN w1 W0 (by omega) (by
        rw [rng_is (by omega) (by decide) (by decide)]
        exact decide_eq_false (by omega))) (wp_ret ⟨rfl, Fr.rf⟩)
  · refine wd_yes rfl ?_
    exact r_917n hN hD (I.1.quiet (lk_pm I.1.1.2.2.1) i2 q2 frl_pat) (show csz h.2.1 + 2 < _ by omega) (show csz h.2.1 + 1 ≤ _ by omega) (show ssz h.2.1 + 11 ≤ _ by omega) hX
theorem r_359 (hN : 20000 ≤ N) (hD : LawD LN dl) (I : CW LN dl B A lb t p w k T Pp f b pb h) (hd : hh < zh w) (hq1 : 1 ≤ q) (hq : q ≤ 99) (hn : csz h.2.1 + 100 < 1000000) (hc : csz h.2.1 + 64 ≤ c0) (hs : ssz h.2.1 + 431 ≤ s0) (hX : ∀ t' k' h', RE LN dl B A c0 s0 t' k' h' → Wd (X (t', nI k', s5 + 1) h') Q) :
    Wd (g_L_law_J359_41 N Lc xs A K994 X t (nI k) s5 (nI hh) b (nI q) 1 h) Q := by
  have G := I.1.good
  have W0 := G.1
  have ld := W0.lzh
  have L := I.1.2.2.2.2.1
  have H := I.1.1
  obtain ⟨y, hy, ey⟩ := payV_le W0 hd hq
  have W1 : WFc (upd w (9 + hh) (payV w hh (nI q))) := by
    rw [ey]
    exact W0.hea_set (c := 5) hd (by omega)
  unfold g_L_law_J359_41
  rw [if_neg (show ¬ (1 : Int32) = 0 by decide)]
  refine wd_bo (hs_man H.1) (wd_bo (rw_Q H.1.man hd (by decide)) (wd_bo (hs_man H.1) (wd_bo (rw_Q H.1.man hd (by decide)) (wd_bo (rw_A (c := 5) H.1.man hd (by decide) (by decide)) ?_))))
  have hV2 : ∀ i, i < zh w → ∀ c', c' < 6 → (i ≠ hh ∨ c' ≠ 5) → heaV (upd w (9 + hh) (payV w hh (nI q))) i c' = heaV w i c' := by
    intro i hi c' hc' hne
    have ec : cnt (upd w (9 + hh) (payV w hh (nI q))) i = cnt w i := cnt_cg (fun j hj => ud_n (by omega)) W0.lzs i
    have e7 : zt (upd w (9 + hh) (payV w hh (nI q))) = zt w := by unfold zt; rw [ud_n (by omega)]
    have e8 : zv (upd w (9 + hh) (payV w hh (nI q))) = zv w := by unfold zv; rw [ud_n (by omega)]
    unfold heaV
    rw [ec, e7, e8, ud_n (j := 45 + i) (by omega), ud_n (j := 57 + i) (by omega), ud_n (j := 69 + i) (by omega), ud_n (j := 185 + i) (by omega)]
    by_cases z : c' = 5
    · subst z
      rw [ud_n (j := 9 + i) (by omega)]
    · match c', hc', z with
      | 0, _, _ => rfl
      | 1, _, _ => rfl
      | 2, _, _ => rfl
      | 3, _, _ => rfl
      | 4, _, _ => rfl
      | 5, _, z => exact absurd rfl z
      | c' + 6, hc', _ => exact absurd hc' (by omega)
  obtain ⟨hA, eA, HA, KA, SA⟩ := h_wM (c := 5) (x := payV w hh (nI q)) (w' := upd w (9 + hh) (payV w hh (nI q))) H W0 hd (by decide) (fun i hi => ud_n (by unfold manI at hi; omega)) ud_s hV2
  have hz1 : zs (upd w (9 + hh) (payV w hh (nI q))) ≤ 16 := W1.lzs
  refine wd_bnd (wd_bo eA ?_)
  refine wd_bo (hs_I HA.1 (by decide) (by decide)) ?_
  rw [HA.1.int.2.2.2.1]
  obtain ⟨hB, eB, HB, KB, SB⟩ := x_wI (j := 3) (k := 2) (x := upd w (9 + hh) (payV w hh (nI q)) 2 - nI q) HA (by decide) (by decide) hz1 (by decide) (hi_3 HA.1.int hz1)
  refine wd_bo eB ?_
  have ew : upd (upd w (9 + hh) (payV w hh (nI q))) 2 (upd w (9 + hh) (payV w hh (nI q)) 2 - nI q) = payS w hh (nI q) := by
    unfold payS
    rw [ud_n (j := 2) (by omega)]
  rw [ew] at HB
  have W2 := payW W0 hd hq
  have n1 : csz hB.2.1 = csz h.2.1 := by rw [SB, SA]
  refine wd_chk (e_isT HB.1.ob) (wd_bd3 (h_notes (a := 3) (c0 := nI hh) (c1 := nI q) HB W2 (by omega)) ?_)
  rintro v2 h2 ⟨O, -⟩
  have O1 : OpR lb t h p dl 1 4 (nteS (payS w hh (nI q)) 3 (nI hh) (nI q)) h2 := (O.pre HB KB SB).pre HA KA SA
  unfold g_L_law_J413_41
  have ex1 : exH w (payS w hh (nI q)) := by
    unfold payS
    exact (exH.up (by omega) (by omega)).tr (exH.up (by decide) (by decide))
  have L1 : Lw LN (payS w hh (nI q)) := by
    unfold payS
    exact ⟨(L.1.up (by omega) (by omega)).up (by decide) (by decide), L.2⟩
  refine r_act (v := 1) I O1 (pr_pay hN) (pg_f_X11_pay (Gh.rf _)) (fun m => ps_f_X12_pay (Ag.rf m)) (fun m1 w1 P1 => m_pay hN w1 W0 I.1.le6 P1 hd hq1 hq) ⟨L1.1.nte W2, L.2⟩ (ex1.tr (exH.nte W2)) (by
    rw [nteS_o (by decide) (by decide)]
    unfold payS
    rw [ud_n (by decide), ud_n (by omega)]) (fun lb2 p2 h3 M c3 s3 => ?_)
  refine wd_yes rfl ?_
  exact r_917 hN hD M (by omega) (by omega) (by omega) hX
/-- gloves, let: what 4, 3 -/
def gV (w : Arr) (g : Bool) (h : Nat) : Bool := if g = true then (zv w).testBit h else (zt w).testBit h
def gS (w : Arr) (g : Bool) (h : Nat) : Arr := if g = true then gloS w h else letS w h
def gN (g : Bool) : Nat := if g = true then 4 else 3
def gM (g : Bool) : Nat := if g = true then 4 else 5
theorem gS_o {g : Bool} (h7 : i ≠ 7) (h8 : i ≠ 8) : gS w g hh i = w i := by
  unfold gS gloS letS
  split
  · exact ud_n h8
  · exact ud_n h7
theorem gS_V {g : Bool} (W0 : WFc w) (hd : hh < zh w) : heaV (gS w g hh) hh (gN g) = b2i (!gV w g hh) ∧ ∀ i, ∀ c', c' < 6 → (i ≠ hh ∨ c' ≠ gN g) → heaV (gS w g hh) i c' = heaV w i c' := by
  have p12 := W0.p12
  have x7 := xor_lt W0.h7.2 hd
  have x8 := xor_lt W0.h8.2 hd
  have e8 : zv (gloS w hh) = zv w ^^^ 2 ^ hh := by
    unfold gloS
    show nv (upd w 8 _ 8) = _
    rw [ud_s, nv_nI (by omega)]
  have e7 : zt (letS w hh) = zt w ^^^ 2 ^ hh := by
    unfold letS
    show nv (upd w 7 _ 7) = _
    rw [ud_s, nv_nI (by omega)]
  have bx : ∀ z i, (z ^^^ 2 ^ hh).testBit i = (z.testBit i != decide (hh = i)) := fun z i => xor_bit z hh i
  have hc : ∀ i, cnt (gS w g hh) i = cnt w i := fun i => cnt_cg (fun j hj => gS_o (by omega) (by omega)) W0.lzs i
  refine ⟨?_, fun i c' hc' hne => ?_⟩
  · cases g with
    | true =>
      show b2i ((zv (gloS w hh)).testBit hh) = b2i (!(zv w).testBit hh)
      rw [e8, bx, decide_eq_true rfl]
      cases (zv w).testBit hh <;> rfl
    | false =>
      show b2i ((zt (letS w hh)).testBit hh) = b2i (!(zt w).testBit hh)
      rw [e7, bx, decide_eq_true rfl]
      cases (zt w).testBit hh <;> rfl
  · unfold heaV
    rw [hc, gS_o (i := 45 + i) (by omega) (by omega), gS_o (i := 57 + i) (by omega) (by omega), gS_o (i := 69 + i) (by omega) (by omega), gS_o (i := 9 + i) (by omega) (by omega), gS_o (i := 185 + i) (by omega) (by omega)]
    have b7 : c' = 3 → (zt (gS w g hh)).testBit i = (zt w).testBit i := by
      rintro rfl
      cases g with
      | true =>
        show (zt (gloS w hh)).testBit i = _
        have : zt (gloS w hh) = zt w := by
          unfold gloS zt
          rw [ud_n (by decide)]
        rw [this]
      | false =>
        show (zt (letS w hh)).testBit i = _
        rw [e7, bx, decide_eq_false (fun z => (hne.resolve_right (fun y => y rfl)) z.symm)]
        cases (zt w).testBit i <;> rfl
    have b8 : c' = 4 → (zv (gS w g hh)).testBit i = (zv w).testBit i := by
      rintro rfl
      cases g with
      | false =>
        show (zv (letS w hh)).testBit i = _
        have : zv (letS w hh) = zv w := by
          unfold letS zv
          rw [ud_n (by decide)]
        rw [this]
      | true =>
        show (zv (gloS w hh)).testBit i = _
        rw [e8, bx, decide_eq_false (fun z => (hne.resolve_right (fun y => y rfl)) z.symm)]
        cases (zv w).testBit i <;> rfl
    by_cases z3 : c' = 3
    · rw [b7 z3]
      subst z3
      simp
    · by_cases z4 : c' = 4
      · rw [b8 z4]
        subst z4
        simp
      · simp only [if_neg z3, if_neg z4]
theorem gW {g : Bool} (W0 : WFc w) (hd : hh < zh w) : WFc (gS w g hh) := by
  unfold gS
  split
  · exact gloW W0 hd
  · exact letW W0 hd
theorem gX {g : Bool} : exH w (gS w g hh) := by
  unfold gS gloS letS
  split
  · exact exH.up (by decide) (by decide)
  · exact exH.up (by decide) (by decide)
theorem gL {g : Bool} (L : Lw LN w) : Lw LN (gS w g hh) := ⟨L.1.cg (fun i hi => gS_o (by omega) (by omega)), L.2⟩
/-- nothing turned -/
theorem r_506 {g bl : Bool} (hN : 20000 ≤ N) (hD : LawD LN dl) (I : CW LN dl B A lb t p w k T Pp f b pb h) (hd : hh ≤ zh w) (hq : hh = zh w ∨ gV w g hh = bl) (hn : csz h.2.1 + 100 < 1000000) (hc : csz h.2.1 + 64 ≤ c0) (hs : ssz h.2.1 + 431 ≤ s0) (hX : ∀ t' k' h', RE LN dl B A c0 s0 t' k' h' → Wd (X (t', nI k', s5 + 1) h') Q) :
    Wd (g_L_law_J506_41 N Lc xs A K994 X t (nI k) s5 (nI hh) b (nI (gN g)) (b2i bl) h) Q := by
  have W0 := I.1.good.1
  have ld := W0.lzh
  unfold g_L_law_J506_41 g_L_law_J507_41
  rw [if_pos rfl]
  unfold g_L_law_J562_41
  have fin : ∀ m2, Inv m2 → QG h.1 m2 → Wd (g_L_law_J587_41 N Lc xs A K994 X t (nI k) s5 b 0 0 (pat h m2)) Q := by
    intro m2 i2 q2
    unfold g_L_law_J587_41
    refine wd_yes rfl ?_
    exact r_917n hN hD (I.1.quiet (lk_pm I.1.1.2.2.1) i2 q2 frl_pat) (show csz h.2.1 + 2 < _ by omega) (show csz h.2.1 + 1 ≤ _ by omega) (show ssz h.2.1 + 11 ≤ _ by omega) hX
  cases g with
  | true =>
    refine wd_yes (show nI (gN true) = 4 from rfl) ?_
    refine wd_qt (v := 0) I.1.1.2.2.1 (pr_glove hN) (pg_f_X11_glove (Gh.rf _)) (fun m => ps_f_X12_glove (Ag.rf m)) I.1.2.2.1 (fun m1 g => ?_) (fun m2 i2 q2 => fin m2 i2 q2)
    have w1 : m1 124 = w := (g 124 (by decide)).trans I.1.2.2.2.1
    by_cases z : hh = zh w
    · rw [z]
      exact wp_eq (m_gloveX w1 W0 (inb_end (by omega))) (wp_ret ⟨rfl, Fr.rf⟩)
    · exact wp_eq (m_gloveN w1 W0 (by omega) (hq.resolve_left z)) (wp_ret ⟨rfl, Fr.rf⟩)
  | false =>
    rw [if_neg (show ¬ nI (gN false) = 4 by decide)]
    refine wd_qt (v := 0) I.1.1.2.2.1 (pr_let hN) (pg_f_X11_let (Gh.rf _)) (fun m => ps_f_X12_let (Ag.rf m)) I.1.2.2.1 (fun m1 g => ?_) (fun m2 i2 q2 => fin m2 i2 q2)
    have w1 : m1 124 = w := (g 124 (by decide)).trans I.1.2.2.2.1
    by_cases z : hh = zh w
    · rw [z]
      exact wp_eq (m_letX w1 W0 (inb_end (by omega))) (wp_ret ⟨rfl, Fr.rf⟩)
    · exact wp_eq (m_letN w1 W0 (by omega) (hq.resolve_left z)) (wp_ret ⟨rfl, Fr.rf⟩)
end PAYH
