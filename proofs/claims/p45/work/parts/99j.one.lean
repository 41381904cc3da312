/-! a deed done once, whole -/
section ONEH
variable {h h' h2 : DS} {t N d hh b c o : Nat} {p : Plc} {w w' : Arr} {dl : Option (Nat → Int32)} {LN : List Lin} {v x a2 : Int32} {lb lb' : Nat → Nat × Nat × Nat} {tru cg : Bool}
theorem h_J26 (hN : 20000 ≤ N) (H : HS lb h t p w dl) (W0 : WFc w) (hD : LawD LN dl) (hd : d < zd w) (hn : csz h.2.1 + 4 < 1000000) (h4 : ∃ k, k < 2 ^ 31 ∧ againS w d = nI k) :
    Wd (g_X12_once_J26 N t (nI d) (b2i tru) (p.2.2.1 d) (againS w d) t h) (fun v h' => v = b2i (gonS LN tru w d) ∧ OpR lb t h p dl 3 20 (oneS LN tru w d) h') := by
  have l8 := W0.lzd
  have hz := W0.lzs
  unfold g_X12_once_J26
  obtain ⟨h1, e1, H1, K1, S1⟩ := x_wI (j := 5) (k := 4) (x := againS w d) H (by decide) (by decide) hz (by decide) (hi_5 H.1.int hz)
  have W1 : WFc (upd w 4 (againS w d)) := W0.up (by decide)
  refine wd_bo e1 ?_
  obtain ⟨h2, e2, H2, K2, S2⟩ := x_wI (j := 4) (k := 3) (x := nI d) H1 (by decide) (by decide) W1.lzs (by decide) (hi_4 H1.1.int W1.lzs)
  have W2 : WFc (upd (upd w 4 (againS w d)) 3 (nI d)) := W1.up (by decide)
  refine wd_bo e2 ?_
  have zd2 : d < zd (upd (upd w 4 (againS w d)) 3 (nI d)) := by unfold zd; rw [ud_n (by decide), ud_n (by decide)]; exact hd
  refine wd_chk (e_isT H2.1.ob) (wd_bd3 (h_wears (N := N) H2.1 zd2 hD) ?_)
  rintro v3 h3 ⟨rfl, rfl⟩
  have ew : wearS LN (upd (upd w 4 (againS w d)) 3 (nI d)) d = wearS LN (upd w 4 (againS w d)) d := by
    unfold wearS
    rw [facD_cg (w := upd w 4 (againS w d)) (ud_n (by omega)) (ud_n (by omega)) (ud_n (by omega)) (ud_n (by omega))]
  rw [ew]
  refine wd_bo (hs_I H2.1 (by decide) (by decide)) (wd_bo (rw_A (c := 1) H2.1.dee zd2 (by decide) (by decide)) ?_)
  rw [H2.1.int.2.1, ud_n (by decide), ud_n (by decide), show deeV (upd (upd w 4 (againS w d)) 3 (nI d)) d 1 = w (89 + d) from (ud_n (by omega)).trans (ud_n (by omega))]
  obtain ⟨h4', e4, H4, K4, S4⟩ := x_wI (j := 1) (k := 0) (x := w 0 + w (89 + d)) H2 (by decide) (by decide) W2.lzs (by decide) (hi_1 H2.1.int W2.lzs)
  have W4 : WFc (upd (upd (upd w 4 (againS w d)) 3 (nI d)) 0 (w 0 + w (89 + d))) := W2.up (by decide)
  refine wd_bo e4 ?_
  have zd4 : d < zd (upd (upd (upd w 4 (againS w d)) 3 (nI d)) 0 (w 0 + w (89 + d))) := by unfold zd; rw [ud_n (by decide)]; exact zd2
  refine wd_bo (hs_I H4.1 (by decide) (by decide)) (wd_bo (rw_A (c := 2) H4.1.dee zd4 (by decide) (by decide)) ?_)
  rw [H4.1.int.2.2.2.1, ud_n (by decide), ud_n (by decide), ud_n (by decide), show deeV (upd (upd (upd w 4 (againS w d)) 3 (nI d)) 0 (w 0 + w (89 + d))) d 2 = w (97 + d) from (ud_n (by omega)).trans ((ud_n (by omega)).trans (ud_n (by omega)))]
  obtain ⟨h5, e5, H5, K5, S5⟩ := x_wI (j := 3) (k := 2) (x := w 2 - w (97 + d)) H4 (by decide) (by decide) W4.lzs (by decide) (hi_3 H4.1.int W4.lzs)
  have W5 : WFc (upd (upd (upd (upd w 4 (againS w d)) 3 (nI d)) 0 (w 0 + w (89 + d))) 2 (w 2 - w (97 + d))) := W4.up (by decide)
  refine wd_bo e5 ?_
  generalize ew5 : upd (upd (upd (upd w 4 (againS w d)) 3 (nI d)) 0 (w 0 + w (89 + d))) 2 (w 2 - w (97 + d)) = w5 at H5 W5
  have o5 : ∀ i, i ≠ 4 → i ≠ 3 → i ≠ 0 → i ≠ 2 → w5 i = w i := fun i a b c d => by rw [← ew5, ud_n d, ud_n c, ud_n b, ud_n a]
  have zd5 : d < zd w5 := by unfold zd; rw [o5 38 (by decide) (by decide) (by decide) (by decide)]; exact hd
  have n29 : ∀ d, d < 8 → ownF (29 + d) = false ∧ ownF (21 + d) = false := by decide
  refine wd_bo (rw_A (c := 4) H5.1.dee zd5 (by decide) (by decide)) ?_
  rw [show deeV w5 d 4 = w (29 + d) from o5 _ (by omega) (by omega) (by omega) (by omega)]
  obtain ⟨h6, e6, H6, K6, S6⟩ := x_wD (c := 4) (x := w (29 + d) + nI 1) H5 W5 zd5 (by decide)
  have W6 : WFc (upd w5 (deeI 4 + d) (w (29 + d) + nI 1)) := W5.up (n29 d (by omega)).1
  refine wd_bo e6 ?_
  generalize ew6 : upd w5 (deeI 4 + d) (w (29 + d) + nI 1) = w6 at H6 W6
  have zd6 : d < zd w6 := by unfold zd; rw [← ew6, ud_n (by show 38 ≠ 29 + d; omega)]; exact zd5
  refine wd_bo (rw_A (c := 3) H6.1.dee zd6 (by decide) (by decide)) ?_
  rw [show deeV w6 d 3 = w (21 + d) from by rw [← ew6]; exact (ud_n (by show 21 + d ≠ 29 + d; omega)).trans (o5 _ (by omega) (by omega) (by omega) (by omega))]
  obtain ⟨h7, e7, H7, K7, S7⟩ := x_wD (c := 3) (x := b99 (w (21 + d) + nI (wearS LN (upd w 4 (againS w d)) d))) H6 W6 zd6 (by decide)
  refine wd_bnd (wd_bo e7 ?_)
  have eb : upd w6 (deeI 3 + d) (b99 (w (21 + d) + nI (wearS LN (upd w 4 (againS w d)) d))) = begS LN w d := by
    rw [← ew6, ← ew5]
    rfl
  rw [eb] at H7
  have K17 : KpH lb t h h7 := (((((K1.tr (fun _ _ => rfl) K2).tr (fun _ _ => rfl) K4).tr (fun _ _ => rfl) K5).tr (fun _ _ => rfl) K6).tr (fun _ _ => rfl) K7)
  have S17 : h7.2.1 = h.2.1 := S7.trans (S6.trans (S5.trans (S4.trans (S2.trans S1))))
  clear e1 e2 e4 e5 e6 e7
  have n7 : h7.2.1.length + 1 < 1000000 := by rw [S17]; have : csz h.2.1 = h.2.1.length := rfl; omega
  refine wd_bo (e_nA (a := 12) (by decide) (by decide) n7) ?_
  rw [show (12 : Int32).toNatClampNeg = 12 from rfl]
  obtain ⟨H8, K8⟩ := hs_grow H7 n7
  have B8 : (grown h7 (100, 12, []) (fun _ => 0)).2.1[h7.2.1.length]? = some (100, 12, []) := gw_new
  have g8 : 123 ≤ h7.2.1.length := lk_len H7.2.2.1
  have C8 : (grown h7 (100, 12, []) (fun _ => 0)).2.1.length = h.2.1.length + 1 := by rw [gw_len, S17]
  have T8 : ssz (grown h7 (100, 12, []) (fun _ => 0)).2.1 = ssz h.2.1 + 12 := by rw [ssz_gr, S17]
  generalize grown h7 (100, 12, []) (fun _ => 0) = h8 at H8 K8 B8 C8 T8 ⊢
  have W8 : WFc (begS LN w d) := W0.beg hd
  refine h_drawsT hN H8 W8 (if_pos rfl) g8 B8 ?_
  intro h9 H9 K9 S9 D9
  have W9 : WFc (w2S LN tru w d) := W0.w2 hd
  have H9 : HS _ h9 t p (w2S LN tru w d) dl := H9
  have z9 : zh (begS LN w d) = zh (w2S LN tru w d) := by unfold zh; rw [w2S_o (by decide)]
  have y9 : zt (begS LN w d) = zt (w2S LN tru w d) := by unfold zt; rw [w2S_o (by decide)]
  have d9 : d < zd (w2S LN tru w d) := by unfold zd; rw [w2S_o (by decide), begS_o (by omega)]; exact hd
  rw [z9, y9] at D9
  obtain ⟨h10, e10, H10, K10, S10, A10, J10, M10⟩ := x_wS (j := 22) (x := 0) H9 (by decide) (by decide) (by decide) W9.lzs
  refine wd_bo e10 ?_
  obtain ⟨h11, e11, H11, K11, S11, A11, J11, M11⟩ := x_wS (j := 23) (x := 0) H10 (by decide) (by decide) (by decide) W9.lzs
  refine wd_bo e11 ?_
  have oT : h7.2.1.length ≠ t := ne_of_tag (h := h9) (by rw [S9]; exact B8) H9.1.ob (by decide)
  refine h_set (dr := drvS tru (begS LN w d)) hN H11 W9 hD d9 (by rw [S11, S10, S9]; exact B8) (fun i hi hb => by rw [M11 _ oT, M10 _ oT]; exact D9 i hi hb) ((J11 22 (by decide)).trans A10) A11 ?_
  intro h12 H12 K12 S12 M12 c12 E22 E23
  refine wd_chk (e_isT H12.1.ob) (wd_bd3 (h_loud (N := N) H12.1 d9 hD) ?_)
  rintro v13 h13 ⟨rfl, rfl⟩
  obtain ⟨h14, e14, H14, K14, S14, A14, J14, M14⟩ := x_wS (j := 24) (x := nI (loudS LN (w2S LN tru w d) d)) H12 (by decide) (by decide) (by decide) W9.lzs
  refine wd_bo e14 ?_
  refine h_sum (set := (clpS LN tru w d).1) (bs := loudS LN (w2S LN tru w d) d) hN H14 W9 c12 ((J14 22 (by decide)).trans E22) A14 ?_
  intro h15 H15 K15 S15 M15 F22 F23 F24
  have S8 : h15.2.1 = h8.2.1 := S15.trans (S14.trans (S12.trans (S11.trans (S10.trans S9))))
  have eraw : sumS (w2S LN tru w d) (clpS LN tru w d).1 (zh (w2S LN tru w d)) + loudS LN (w2S LN tru w d) d = rawS LN tru w d := by
    unfold rawS
    have cw : ∀ i, i ≠ 5 → w3S LN tru w d i = w2S LN tru w d i := fun i hi => cghW_o hi
    have : zh (w3S LN tru w d) = zh (w2S LN tru w d) := by unfold zh; rw [cw _ (by decide)]
    rw [this, sumS_cg W9.lzs cw, loudS_cg cw]
  rw [eraw] at F24
  refine wd_mono (h_fin (tru := tru) (d := d) (raw := rawS LN tru w d) hN H15 W9 (by rw [S8]; have q1 : csz h.2.1 = h.2.1.length := rfl; have q2 : csz h8.2.1 = h8.2.1.length := rfl; omega) F24 (by
    rw [w2S_o (by decide), begS_4]
    exact h4)) ?_
  rintro v hF ⟨e, O⟩
  refine ⟨e, OpR.tr (C := 1) (S := 12) H15 (fun c hc => if_neg (by rw [S17]; omega)) ?_ (by rw [S8]; exact Nat.le_of_eq C8) (by rw [S8]; exact Nat.le_of_eq T8) ⟨rfl, rfl, rfl, rfl⟩ O⟩
  have K9' := ((((K9.tr (fun _ _ => rfl) K10).tr (fun _ _ => rfl) K11).tr (fun _ _ => rfl) K12).tr (fun _ _ => rfl) K14).tr (fun _ _ => rfl) K15
  exact K17.tr (fun _ _ => rfl) (K8.tr (fun c hc => if_neg (by omega)) K9')
end ONEH
