/-! an evening on a House -/
section EVEH
variable {h h' h2 : DS} {t N d hh b c o : Nat} {p : Plc} {w w' : Arr} {dl : Option (Nat → Int32)} {LN : List Lin} {v x a2 : Int32} {lb lb' : Nat → Nat × Nat × Nat} {tru cg : Bool}
theorem OpR.of {h1 : DS} (H : HS lb h1 t p w' dl) (K : KpH lb t h h1) (S : h1.2.1 = h.2.1) : OpR lb t h p dl 0 0 w' h1 :=
  ⟨p, lb, H, fun _ _ => rfl, K, by rw [S]; exact Nat.le_refl _, by rw [S]; exact Nat.le_refl _, rfl, rfl, rfl, rfl⟩
theorem OpR.then {C S C' S' : Nat} {w2 : Arr} (O : OpR lb t h p dl C S w' h') (q : ∀ p1 lb1, HS lb1 h' t p1 w' dl → p1.1 = p.1 → p1.2.2.2.2 = p.2.2.2.2 → csz h'.2.1 ≤ csz h.2.1 + C → OpR lb1 t h' p1 dl C' S' w2 h2) : OpR lb t h p dl (C + C') (S + S') w2 h2 := by
  obtain ⟨p1, lb1, H1, L1, K1, C1, T1, P1⟩ := O
  exact OpR.tr H1 L1 K1 C1 T1 P1 (q p1 lb1 H1 P1.1 P1.2.2.2 C1)
theorem h_passes (hN : 20000 ≤ N) (H : HS lb h t p w dl) (W0 : WFc w) (hw : lawW w LN) (hD : LawD LN dl) (hn : csz h.2.1 + 1100 < 1000000) :
    Wd (g_X12_passes N t (b2i tru) h) (fun v h' => v = nI (eveN LN tru w) ∧ OpR lb t h p dl 1008 6720 (eveS LN tru w) h') := by
  have lp := W0.lzp
  unfold g_X12_passes
  obtain ⟨h1, e1, H1, K1, S1⟩ := x_wI (j := 1) (k := 0) (x := nI 0) H (by decide) (by decide) W0.lzs (by decide) (hi_1 H.1.int W0.lzs)
  have W1 : WFc (upd w 0 (nI 0)) := W0.up (by decide)
  refine wd_bo e1 ?_
  obtain ⟨h2, e2, H2, K2, S2⟩ := x_wI (j := 4) (k := 3) (x := mo1) H1 (by decide) (by decide) W1.lzs (by decide) (hi_4 H1.1.int W1.lzs)
  have W2 : WFc (upd (upd w 0 (nI 0)) 3 mo1) := W1.up (by decide)
  refine wd_bo e2 ?_
  obtain ⟨h3, e3, H3, K3, S3⟩ := x_wI (j := 5) (k := 4) (x := nI 0) H2 (by decide) (by decide) W2.lzs (by decide) (hi_5 H2.1.int W2.lzs)
  refine wd_bo e3 ?_
  have H3 : HS lb h3 t p (ev0S w) dl := H3
  have O3 : OpR lb t h p dl 0 0 (ev0S w) h3 := OpR.of H3 ((K1.tr (fun _ _ => rfl) K2).tr (fun _ _ => rfl) K3) (S3.trans (S2.trans S1))
  have z0 : zp (ev0S w) = zp w := by
    unfold zp ev0S
    rw [ud_n (by decide), ud_n (by decide), ud_n (by decide)]
  obtain ⟨⟨rs, r1, -⟩, -⟩ := id H3.1.pro
  rw [z0] at r1
  refine wd_bo (hs_pro H3.1) (wd_bo (e_aN r1) ?_)
  rw [show Int32.ofNat (zp w) = nI (zp w) from rfl]
  clear e1 e2 e3 r1
  refine wd_jt (fun q a h2 => ∃ i, i ≤ zp w ∧ q = zp w - i ∧ a = (nI (evlS LN tru w i).2, nI i) ∧ OpR lb t h p dl (63 * i) (420 * i) (evlS LN tru w i).1 h2) ?_ N (zp w) _ _ (by omega) ⟨0, by omega, rfl, rfl, O3⟩
  rintro q X a h4 ⟨i, hi, rfl, rfl, O4⟩ hX
  have O4' := id O4
  obtain ⟨p1, lb1, H4, L4, K4, C4, T4, P4⟩ := O4
  obtain ⟨W4, hm4, hw4⟩ := evlS_wf (LN := LN) (tru := tru) W0 hw i hi
  have zp4 : zp (evlS LN tru w i).1 = zp w := by
    unfold zp
    rw [evlS_o W0 (by omega) i hi]
  unfold g_X12_passes_L29
  dsimp only
  refine wd_ite (fun q => ?_) (fun q => ?_)
  · have q := (nI_leI (by omega) (by omega)).mp q
    have : i = zp w := by omega
    subst this
    refine wd_bo (hs_I H4.1 (by decide) (by decide)) ?_
    rw [H4.1.int.2.2.1]
    obtain ⟨h5, e5, H5, K5, S5⟩ := x_wI (j := 2) (k := 1) (x := (evlS LN tru w (zp w)).1 1 + nI 1) H4 (by decide) (by decide) W4.lzs (by decide) (hi_2 H4.1.int W4.lzs)
    refine wd_bo e5 (wd_ret ⟨rfl, ?_⟩)
    exact (OpR.tr H4 L4 K4 C4 T4 P4 (OpR.of H5 K5 S5)).up (by omega) (by omega)
  · have q : ¬ zp w ≤ i := fun z => q ((nI_leI (by omega) (by omega)).mpr z)
    have hlt : i < zp w := by omega
    have up : nI i + (1 : Int32) = nI (i + 1) := nI_up i
    obtain ⟨-, d, hd, ed⟩ := W0.pro hlt
    obtain ⟨⟨pp, hpp, epp⟩, -⟩ := W0.pro hlt
    have ld := W0.lzd
    have en : nv (w (153 + 2 * i + 1)) = d := by rw [ed, nv_nI (by omega)]
    have pr := H4.1.pro
    rw [P4.1, show p1.2.2.2.2.2 = p.2.2.2.2.2 from by rw [P4.2.2.2], zp4] at pr
    have J : ∀ h5, OpR lb t h p dl (63 * i) (420 * i) (upd (evlS LN tru w i).1 0 (maxS ((evlS LN tru w i).1 0) (w (153 + 2 * i)))) h5 → Wd (g_X12_passes_J61_29 N t (b2i tru) p.1.2.2.2.2.1 (nI (zp w)) X (nI (evlS LN tru w i).2) (nI i) (p.2.2.2.2.2 i) h5) (fun v h' => v = nI (eveN LN tru w) ∧ OpR lb t h p dl 1008 6720 (eveS LN tru w) h') := by
      intro h5 O5
      have O5' := id O5
      obtain ⟨p5, lb5, H5, L5, K5, C5, T5, P5⟩ := O5
      have W5 : WFc (upd (evlS LN tru w i).1 0 (maxS ((evlS LN tru w i).1 0) (w (153 + 2 * i)))) := W4.up (by decide)
      generalize ew5 : upd (evlS LN tru w i).1 0 (maxS ((evlS LN tru w i).1 0) (w (153 + 2 * i))) = w5 at H5 W5 O5'
      have o5 : ∀ j, 37 ≤ j → j < 223 → w5 j = w j := fun j h1 h2 => by rw [← ew5, ud_n (by omega)]; exact evlS_o W0 (by omega) i hi
      have l5 : lstS w5 10 (nI 300) (zs w5) = lstS w 10 (nI 300) (zs w) := lst_same (fun j hj => by rcases hj with rfl | hj; exact o5 _ (by decide) (by decide); exact o5 _ (by omega) (by omega)) W0.lzs
      have zd5 : zd w5 = zd w := by unfold zd; rw [o5 38 (by decide) (by decide)]
      have zp5 : zp w5 = zp w := by unfold zp; rw [o5 42 (by decide) (by decide)]
      have es : evlS LN tru w (i + 1) = if w5 0 < lstS w 10 (nI 300) (zs w) then ((dosS LN tru d 21 w5 0).1, (evlS LN tru w i).2 + (dosS LN tru d 21 w5 0).2) else (w5, (evlS LN tru w i).2) := by
        rw [← ew5, ← en]
        rfl
      unfold g_X12_passes_J61_29
      refine wd_bo (hs_I H5.1 (by decide) (by decide)) (wd_bo (hs_I H5.1 (by decide) (by decide)) ?_)
      rw [H5.1.int.2.1, H5.1.int.2.2.2.2.2.2.2.2.2.2.2.1, l5]
      refine wd_ite (fun q5 => ?_) (fun q5 => ?_)
      · rw [if_neg (Int32.not_lt.mpr q5)] at es
        refine hX (zp w - (i + 1)) _ _ (by omega) ⟨i + 1, by omega, rfl, by rw [es, up], ?_⟩
        rw [es]
        exact O5'.up (by omega) (by omega)
      · have q5 := Int32.not_le.mp q5
        rw [if_pos q5] at es
        have pr5 := H5.1.pro
        rw [P5.1, show p5.2.2.2.2.2 = p.2.2.2.2.2 from by rw [P5.2.2.2], zp5] at pr5
        refine wd_bo (rw_A (c := 1) pr5 hlt (by decide) (by decide)) ?_
        rw [o5 (153 + 2 * i + 1) (by omega) (by omega), ed]
        have hm5 : WFm 9998 w5 := by
          obtain ⟨a, b, m0, m4, hba, haB⟩ := hm4
          have em : maxS ((evlS LN tru w i).1 0) (w (153 + 2 * i)) = nI (max a pp) := by rw [m0, epp, maxS_n (by omega) (by omega)]
          have e0 : w5 0 = nI (max a pp) := by rw [← ew5, ud_s, em]
          obtain ⟨t, ht, et⟩ := lst10_le W0 (zs w) (Nat.le_refl _)
          rw [e0, et, nI_ltI (by omega) (by omega)] at q5
          exact ⟨max a pp, b, e0, by rw [← ew5, ud_n (by decide)]; exact m4, by omega, by omega⟩
        refine wd_chk (e_isT H5.1.ob) (wd_bd3 (h_does (N := N) (tru := tru) hN H5 W5 hm5 (by decide) hD (by rw [zd5]; exact hd) (by omega)) ?_)
        rintro v6 h6 ⟨rfl, O6⟩
        refine hX (zp w - (i + 1)) _ _ (by omega) ⟨i + 1, by omega, rfl, by rw [es, up, nI_add], ?_⟩
        rw [es]
        exact (OpR.tr H5 L5 K5 C5 T5 P5 O6).up (by omega) (by omega)
    have ev : (evlS LN tru w i).1 (153 + 2 * i + 0) = w (153 + 2 * i) := evlS_o W0 (by omega) i hi
    refine wd_bo (rw_Q pr hlt (by omega)) (wd_bo (rw_A (c := 0) pr hlt (by decide) (by decide)) (wd_bo (hs_I H4.1 (by decide) (by decide)) ?_))
    rw [ev, H4.1.int.2.1]
    refine wd_ite (fun q2 => ?_) (fun q2 => ?_)
    · refine J h4 ?_
      have : maxS ((evlS LN tru w i).1 0) (w (153 + 2 * i)) = (evlS LN tru w i).1 0 := by
        unfold maxS
        rw [if_neg (Int32.not_lt.mpr q2)]
      rw [this, upd_self]
      exact O4'
    · have em : maxS ((evlS LN tru w i).1 0) (w (153 + 2 * i)) = w (153 + 2 * i) := by
        unfold maxS
        rw [if_pos (Int32.not_le.mp q2)]
      refine wd_bo (rw_A (c := 0) pr hlt (by decide) (by decide)) ?_
      rw [ev]
      obtain ⟨h5, e5, H5, K5, S5⟩ := x_wI (j := 1) (k := 0) (x := w (153 + 2 * i)) H4 (by decide) (by decide) W4.lzs (by decide) (hi_1 H4.1.int W4.lzs)
      refine wd_bo e5 (J h5 ?_)
      rw [em]
      exact OpR.tr H4 L4 K4 C4 T4 P4 (OpR.of H5 K5 S5)
end EVEH
