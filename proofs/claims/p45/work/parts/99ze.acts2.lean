/-! the House from before, the deed on the House, the deed of the class -/
section ACTH
variable {h h' h2 h1 : DS} {t N d hh c o u i k A n Lc b q C S : Nat} {xs : Nat → Int32} {p pb : Plc} {w w' a w2 : Arr} {dl : Option (Nat → Int32)} {LN : List Lin} {v x s5 : Int32} {lb lb' : Nat → Nat × Nat × Nat} {T : Nat → Nat} {Pp : Nat → Plc} {f : Nat → Arr} {Q : Int32 → DS → Prop} {K : DS → DA} {K994 : Nat → DS → DA} {X : (Nat × Int32 × Int32) → DS → DA} {m m1 m2 : Mem} {c0 s0 B : Nat}
/-- behind the copy: the House from before lies at b -/
def CW (LN : List Lin) (dl : Option (Nat → Int32)) (B A : Nat) (lb : Nat → Nat × Nat × Nat) (t : Nat) (p : Plc) (w : Arr) (k : Nat) (T : Nat → Nat) (Pp : Nat → Plc) (f : Nat → Arr) (b : Nat) (pb : Plc) (h : DS) : Prop :=
  WI LN dl B A lb t p w k T Pp f h ∧ HouR h b pb w dl ∧ HLb lb b pb w ∧ PB pb ∧ b ≠ t ∧ ∀ i, i < k → b ≠ T i
theorem PsH.fra (P : PsH lb h t A w dl k T Pp f) (F : FrA h h') (hl : ∀ c, c < h.2.1.length → lb' c = lb c) : PsH lb' h' t A w dl k T Pp f := by
  obtain ⟨⟨rs, e, l, q⟩, hA, lA, P⟩ := P
  refine ⟨⟨rs, ((F.2.2 A (len_of e)).1).trans e, l, q⟩, hA, by rw [hl A (len_of e)]; exact lA, fun i hi => ?_⟩
  obtain ⟨⟨H, B, b, ex, ne⟩, dj⟩ := P i hi
  exact ⟨⟨H.fra B F, B.re H hl, b, ex, ne⟩, dj⟩
theorem WI.fra (I : WI LN dl B A lb t p w k T Pp f h) (F : FrA h h') (H : HS lb' h' t p w dl) (hl : ∀ c, c < h.2.1.length → lb' c = lb c) : WI LN dl B A lb' t p w k T Pp f h' := by
  obtain ⟨-, b, i1, i2, L, P, O, tp, Ps, ev⟩ := I
  exact ⟨H, b, by rw [F.1]; exact i1, by rw [F.1]; exact i2, L, by rw [F.1]; exact P, O, by rw [F.1]; exact tp, Ps.fra F hl, ev⟩
theorem r_copy (hN : 20000 ≤ N) (I : WI LN dl B A lb t p w k T Pp f h) (hn : csz h.2.1 + 40 < 1000000) {kk : Nat → DS → DA} (q : ∀ b lb' pb h', CW LN dl B A lb' t p w k T Pp f b pb h' → csz h'.2.1 ≤ csz h.2.1 + 27 → ssz h'.2.1 ≤ ssz h.2.1 + 319 → Wd (kk b h') Q) :
    Wd (chk (isT h 12 t) <| bd3 (g_X12_copy N t h) fun v_116 h_116 => chk (decide (v_116 ≠ -1)) <| bnd v_116.toNatClampNeg fun r_116 => kk r_116 h_116) Q := by
  refine wd_chk (e_isT I.1.1.ob) (wd_bd3 (h_copy hN I.1 I.good.1 hn) ?_)
  rintro v h' ⟨rfl, F, c1, s1, pb, lb', H1, H2, hl, e⟩
  have lt : h.2.1.length < 1000000 := by
    have : csz h.2.1 = h.2.1.length := rfl
    omega
  rw [nI_clamp (by omega)]
  refine wd_chk (decide_eq_true (fun z => ?_)) ?_
  · have := congrArg Int32.toInt z
    rw [nI_toInt (by omega), show (-1 : Int32).toInt = -1 from by decide] at this
    omega
  · exact q h.2.1.length lb' pb h' ⟨I.fra F H1 hl, H2.1, H2.2.1, I.2.1.of e, fun z => by
      have := len_of I.1.1.ob
      omega, fun i hi z => by
      have := I.2.2.2.2.2.2.2.2.1.lt hi
      omega⟩ c1 s1
/-- the House is w' already, the class at w yet; then the class -/
theorem r_act {x y : Mem → Ans} {kk : Int32 → DS → DA} (I : CW LN dl B A lb t p w k T Pp f b pb h1) (O : OpR lb t h1 p dl C S w' h2) (P : Pr x y) (gx : PsG h2.1 (x h2.1)) (gy : ∀ m, PsA m (y m))
    (e : ∀ m1 : Mem, m1 124 = w → PaM k f m1 → Wp (y m1) (fun v' m' => v' = v ∧ AcM w' (min 6 (k + 1)) (nxt k f w) m1 m')) (L' : Lw LN w') (ex : exH w w') (ew1 : w' 1 = w 1)
    (q : ∀ lb2 p2 h3, Mid LN dl B A lb2 t p2 w w' k T Pp f b pb h3 → csz h3.2.1 ≤ csz h1.2.1 + C → ssz h3.2.1 ≤ ssz h1.2.1 + S → Wd (kk v h3) Q) :
    Wd (chk (isT h2 11 0) (bdX (x h2.1) h2 fun v hh => bnd (gs y hh) fun h' => kk v h')) Q := by
  obtain ⟨p2, lb2, H2, hl, Kp, C2, S2, e1, e2, e3, e4⟩ := O
  have G := I.1.good
  obtain ⟨⟨H, bp, i1, i2, L, PM, O, tp, Ps, ev⟩, Hb, Bb, bb, hbt, hbT⟩ := I
  have hge := H.1.1.1
  have Ps2 := Ps.kp Kp (by omega) (fun i hi z => (Ps.2.2.2 i hi).1.2.2.2.2 z.symm) hl
  have Hb2 := Hb.keep Bb Kp (fun z => hbt z.symm) (by omega)
  have Bb2 := Bb.re Hb hl
  refine wd_chk (is11 H2.2.2.1) (wd_call P gx gy (by rw [Kp.1]; exact i1) (fun v1 m1 m2 g ey i2' => ?_))
  have w1 : m1 124 = w := (g 124 (by decide)).trans (by rw [Kp.1]; exact i2)
  have P1 : PaM k f m1 := PM.cg (by rw [g 123 (by decide), Kp.1]) (by rw [g 126 (by decide), Kp.1])
  obtain ⟨v2, m3, ey2, rfl, a1, a2, a3⟩ := e m1 w1 P1
  rw [ey] at ey2
  cases ey2
  have tp1 : m1 123 16 = nI 0 := by rw [g 123 (by decide), Kp.1]; exact tp
  have b2 : PB p2 := bp.of (by rw [e1])
  exact q lb2 p2 _ ⟨H2.pat b2, b2, i2', a1, L', a2, O.next G (fun j hj => (ex.1 j (by unfold hig at hj; unfold exI; omega)).symm), a3.trans tp1, (Ps2.frl H2.2.2.1 H2.2.2.2 frl_pat).ex ex, O.1, Hb2.frl Bb2 bb H2.2.2.1 H2.2.2.2 frl_pat, Bb2, bb, ex, hbt, hbT, fun i hi => (Ps.2.2.2 i hi).1.2.2.2.1, ev, ev.1.cg ew1⟩ C2 S2
theorem OpR.pre {hA : DS} (H : HS lb hA t p w2 dl) (Kp : KpH lb t h hA) (Sh : hA.2.1 = h.2.1) (O : OpR lb t hA p dl C S w' h2) : OpR lb t h p dl C S w' h2 := by
  have := OpR.tr (C := 0) (S := 0) H (fun _ _ => rfl) Kp (by rw [Sh]; exact Nat.le_refl _) (by rw [Sh]; exact Nat.le_refl _) ⟨rfl, rfl, rfl, rfl⟩ O
  rw [Nat.zero_add, Nat.zero_add] at this
  exact this
theorem inb_end {n : Nat} (hn : n < 1000) : inb (nI n) n = false := inb_no (Or.inr (Int32.le_refl _)) (by omega)
theorem r_295 (hN : 20000 ≤ N) (hD : LawD LN dl) (I : CW LN dl B A lb t p w k T Pp f b pb h) (hd : d ≤ zd w) (hn : csz h.2.1 + 100 < 1000000) (hc : csz h.2.1 + 64 ≤ c0) (hs : ssz h.2.1 + 431 ≤ s0) (hX : ∀ t' k' h', RE LN dl B A c0 s0 t' k' h' → Wd (X (t', nI k', s5 + 1) h') Q) (hq : d = zd w ∨ ¬ w 0 + nI 21 * w (89 + d) < nI 9999) :
    Wd (g_L_law_J276_41 N Lc xs A K994 X t (nI k) s5 (nI d) b h) Q := by
  have W0 := I.1.good.1
  have ld := W0.lzd
  unfold g_L_law_J276_41 g_L_law_J277_41
  rw [if_pos rfl]
  unfold g_L_law_J295_41
  refine wd_qt (v := mo1) I.1.1.2.2.1 (pr_perform hN) (pg_f_X11_perform (Gh.rf _)) (fun m => ps_f_X12_perform (Ag.rf m)) I.1.2.2.1 (fun m1 g => ?_) (fun m2 i2 q2 => ?_)
  · have w1 : m1 124 = w := (g 124 (by decide)).trans I.1.2.2.2.1
    rcases hq with rfl | hq
    · exact wp_eq (m_perfX w1 W0 (inb_end (by omega))) (wp_ret ⟨rfl, Fr.rf⟩)
    · by_cases z : d = zd w
      · rw [z]
        exact wp_eq (m_perfX w1 W0 (inb_end (by omega))) (wp_ret ⟨rfl, Fr.rf⟩)
      · exact wp_eq (m_perfN w1 W0 (by omega) hq) (wp_ret ⟨rfl, Fr.rf⟩)
  · refine wd_yes rfl ?_
    exact r_917n hN hD (I.1.quiet (lk_pm I.1.1.2.2.1) i2 q2 frl_pat) (show csz h.2.1 + 2 < _ by omega) (show csz h.2.1 + 1 ≤ _ by omega) (show ssz h.2.1 + 11 ≤ _ by omega) hX
theorem r_277 (hN : 20000 ≤ N) (hD : LawD LN dl) (I : CW LN dl B A lb t p w k T Pp f b pb h) (hd : d < zd w) (hq : w 0 + nI 21 * w (89 + d) < nI 9999) (hn : csz h.2.1 + 100 < 1000000) (hc : csz h.2.1 + 64 ≤ c0) (hs : ssz h.2.1 + 431 ≤ s0) (hX : ∀ t' k' h', RE LN dl B A c0 s0 t' k' h' → Wd (X (t', nI k', s5 + 1) h') Q) :
    Wd (g_L_law_J277_41 N Lc xs A K994 X t (nI k) s5 (nI d) b 1 h) Q := by
  have G := I.1.good
  have ld := G.1.lzd
  have L := I.1.2.2.2.2.1
  unfold g_L_law_J277_41
  rw [if_neg (show ¬ (1 : Int32) = 0 by decide)]
  refine wd_chk (e_isT I.1.1.1.ob) (wd_bd3 (h_does (tru := true) (B := 11258) hN I.1.1 G.1 G.2.1 (by decide) hD hd (by omega)) ?_)
  rintro v2 h2 ⟨rfl, O⟩
  unfold g_L_law_J295_41
  refine r_act (v := nI (dosS LN true d 21 w 0).2) I O (pr_perform hN) (pg_f_X11_perform (Gh.rf _)) (fun m => ps_f_X12_perform (Ag.rf m)) (fun m1 w1 P1 => m_perf hN w1 G.1 G.2.1 L I.1.le6 P1 hd hq) ⟨dosS_law (B := 0) 21 _ 0 G.1 L.1 hd, L.2⟩ (exH.dos G.1 hd) (dosS_o 21 _ _ (by omega) (by decide) (by decide) (by decide)) (fun lb2 p2 h3 M c3 s3 => ?_)
  refine wd_yes rfl ?_
  exact r_917 hN hD M (by omega) (by omega) (by omega) hX
end ACTH
