/-! undone -/
section UNDOH
variable {h h' h2 h1 : DS} {t N d hh c o u i k A n Lc b q C S : Nat} {xs : Nat → Int32} {p pb : Plc} {w w' a w2 : Arr} {dl : Option (Nat → Int32)} {LN : List Lin} {v x s5 s4 : Int32} {lb lb' : Nat → Nat × Nat × Nat} {T : Nat → Nat} {Pp : Nat → Plc} {f : Nat → Arr} {Q : Int32 → DS → Prop} {K : DS → DA} {K994 : Nat → DS → DA} {X : (Nat × Int32 × Int32) → DS → DA} {m m1 m2 : Mem} {c0 s0 B : Nat}
theorem nI_m1 (k : Nat) : nI (k + 1) + (-1 : Int32) = nI k := by
  rw [← nI_up k]
  have : (1 : Int32) + (-1) = 0 := by decide
  rw [show nI k + nI 1 = nI k + (1 : Int32) from rfl, Int32.add_assoc, this, Int32.add_zero]
theorem WI.back (I : WI LN dl B A lb t p w (k + 1) T Pp f h) (i2 : Inv m2) (e : m2 124 = ovl w (h.1 126) k) (P : PaM k f m2) (tp : m2 123 16 = nI 0) : WI LN dl B A lb (T k) (Pp k) (ovl w (h.1 126) k) k T Pp f (pat h m2) := by
  have G := I.good
  obtain ⟨H, bp, i1, iw, L, PM, O, -, Ps, ev⟩ := I
  have Ps2 := Ps.frl H.2.2.1 H.2.2.2 (frl_pat (m := m2))
  obtain ⟨⟨rs, rA, rl, rq⟩, hA, lA, Pq⟩ := Ps2
  obtain ⟨⟨Hk, Bk, bk', ex, ne⟩, dj⟩ := Pq k (by omega)
  have lo : ∀ j, j < 37 → ovl w (h.1 126) k j = f k j := fun j hj => (ovl_lo hj).trans (PM.2 k (by omega) j hj)
  have exk : exH (f k) (ovl w (h.1 126) k) := by
    refine ⟨fun j hj => (ex.1 j hj).trans (ovl_hi (by unfold exI at hj; omega)).symm, ?_, fun j hj => (ex.2.2 j hj).trans (ovl_hi (by omega)).symm⟩
    have : zb (ovl w (h.1 126) k) = zb (f k) := by
      unfold zb
      rw [lo 6 (by decide)]
    rw [this]
    exact Nat.le_refl _
  have sm := (O.2 k (by omega)).2.1
  refine ⟨⟨Hk.ex lo exk sm, Bk.ex lo exk sm, lk_pm H.2.2.1, H.2.2.2⟩, bk', i2, e, ⟨L.1.cg (fun i hi => ovl_hi (by omega)), L.2⟩, P, ⟨by have := O.1; omega, fun i hi => ?_⟩, tp, ⟨⟨rs, rA, rl, fun i hi => rq i (by omega)⟩, hA, lA, fun i hi => ?_⟩, ?_⟩
  · obtain ⟨o1, o2, o3⟩ := O.2 i (by omega)
    exact ⟨o1, o2, fun j hj => (o3 j hj).trans (ovl_hi (by unfold hig at hj; omega)).symm⟩
  · obtain ⟨⟨Hi, Bi, bi, exi, nei⟩, dji⟩ := Pq i (by omega)
    exact ⟨⟨Hi, Bi, bi, (dj i hi).2.tr exk, (dj i hi).1⟩, dji⟩
  · exact ⟨(ev.2 k (by omega)).cg (lo 1 (by decide)), fun i hi => ev.2 i (by omega)⟩
theorem r_undo (hN : 20000 ≤ N) (hD : LawD LN dl) (I : CW LN dl B A lb t p w k T Pp f b pb h) (hn : csz h.2.1 + 100 < 1000000) (hc : csz h.2.1 + 64 ≤ c0) (hs : ssz h.2.1 + 431 ≤ s0) (hX : ∀ t' k' h', RE LN dl B A c0 s0 t' k' h' → Wd (X (t', nI k', s5 + 1) h') Q) :
    Wd (chk (isT h 11 0) <| bdX (f_X11_undo N h.1) h fun v_886 hh_886 => bnd (gs (f_X12_undo N) hh_886) fun h_886 => if nI k ≤ 0 then (g_L_law_J899_41 N Lc xs A K994 X t (nI k) s5 b 0 (0 : Int32) v_886 h_886) else (g_L_law_J899_41 N Lc xs A K994 X t (nI k) s5 b 0 (1 : Int32) v_886 h_886)) Q := by
  have I0 := I.1
  clear I
  have k6 := I0.le6
  match k, I0, k6, hX with
  | 0, I0, _, hX =>
    refine wd_qt (v := 0) I0.1.2.2.1 (pr_undo hN) (pg_f_X11_undo (Gh.rf _)) (fun m => ps_f_X12_undo (Ag.rf m)) I0.2.2.1 (fun m1 g => ?_) (fun m2 i2 q2 => ?_)
    · exact wp_eq (m_undo0 (f := f) (PaM.zero ((by rw [g 123 (by decide)] : m1 123 4 = h.1 123 4).trans I0.2.2.2.2.2.1.1))) (wp_ret ⟨rfl, Fr.rf⟩)
    · refine wd_yes (by decide) ?_
      unfold g_L_law_J899_41
      refine wd_yes rfl (wd_yes (by decide) ?_)
      exact r_917n hN hD (I0.quiet (lk_pm I0.1.2.2.1) i2 q2 frl_pat) (show csz h.2.1 + 2 < _ by omega) (show csz h.2.1 + 1 ≤ _ by omega) (show ssz h.2.1 + 11 ≤ _ by omega) hX
  | k + 1, I0, k6, hX =>
    obtain ⟨H, bp, i1, iw, L, PM, O, tp, Ps, ev⟩ := id I0
    refine wd_chk (is11 H.2.2.1) (wd_call (pr_undo hN) (pg_f_X11_undo (Gh.rf _)) (fun m => ps_f_X12_undo (Ag.rf m)) i1 (fun v1 m1 m2 g ey i2' => ?_))
    have w1 : m1 124 = w := (g 124 (by decide)).trans iw
    have P1 : PaM (k + 1) f m1 := PM.cg (by rw [g 123 (by decide)]) (g 126 (by decide))
    obtain ⟨v2, m3, ey2, rfl, a1, a2, a3⟩ := m_undo (f := f) hN w1 (by omega) P1
    rw [ey] at ey2
    cases ey2
    rw [g 126 (by decide)] at a1
    have I2 := I0.back i2' a1 a2 (a3.trans ((by rw [g 123 (by decide)] : m1 123 16 = h.1 123 16).trans tp))
    have no0 : ¬ nI (k + 1) ≤ 0 := fun z => by
      have := (nI_leI (a := k + 1) (b := 0) (by omega) (by decide)).mp z
      omega
    obtain ⟨⟨rs, rA, rl, rq⟩, -⟩ := Ps
    rw [if_neg no0]
    unfold g_L_law_J899_41
    rw [if_pos rfl, if_neg no0, nI_m1]
    refine wd_bo (e_lQ (h := pat h m2) rA (inb_nI (by omega) (by decide)) (by rw [nI_clamp (by omega)]; exact rq k (by omega))) ?_
    exact r_917n hN hD I2 (show csz h.2.1 + 2 < _ by omega) (show csz h.2.1 + 1 ≤ _ by omega) (show ssz h.2.1 + 11 ≤ _ by omega) hX
end UNDOH
