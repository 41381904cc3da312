/-! the class asked, the House looked at: the same -/
section SAMEH
variable {h h' h2 h0 : DS} {t N d hh b c o u i n : Nat} {p : Plc} {w w' : Arr} {dl : Option (Nat → Int32)} {lb lb' : Nat → Nat × Nat × Nat} {Q : Int32 → DS → Prop} {K : DS → DA} {m m1 m2 : Mem} {LN : List Lin} {v : Int32}
/-- between h0 and h nothing but questions -/
def SI (lb : Nat → Nat × Nat × Nat) (t : Nat) (p : Plc) (w : Arr) (dl : Option (Nat → Int32)) (h0 h : DS) : Prop := HS lb h t p w dl ∧ Inv h.1 ∧ (∀ k, 123 ≤ k → k ≠ 132 → k ≠ 133 → h.1 k = h0.1 k) ∧ h.2.1 = h0.2.1 ∧ ∀ c, 123 ≤ c → h.2.2 c = h0.2.2 c
theorem is11 (hl : lk h) : isT h 11 0 = true := e_isT (rs := (SG.getD 0 (0, 0, [])).2.2) (n := 13) ((hl.2.1 0 (by decide)).trans rfl)
theorem wd_ask {x y : Mem → Ans} {k : Int32 → DS → DA} (hw : h0.1 124 = w) (b : PB p) (I : SI lb t p w dl h0 h) (P : Pr x y) (gx : PsG h.1 (x h.1)) (gy : ∀ m, PsA m (y m)) (e : ∀ m1 : Mem, m1 124 = w → Wp (y m1) (fun v' m2 => v' = v ∧ Fr [(132, 133)] m1 m2)) (q : ∀ h1, SI lb t p w dl h0 h1 → Wd (k v h1) Q) :
    Wd (chk (isT h 11 0) (bdX (x h.1) h fun v hh => bnd (gs y hh) fun h' => k v h')) Q := by
  obtain ⟨I1, I2, I3, I4, I5⟩ := I
  refine wd_chk (is11 I1.2.2.1) (wd_call P gx gy I2 (fun v1 m1 m2 g e1 i2 => ?_))
  obtain ⟨v2, m3, e2, rfl, f⟩ := e m1 ((g 124 (by decide)).trans ((I3 124 (by decide) (by decide) (by decide)).trans hw))
  rw [e1] at e2
  cases e2
  refine q _ ⟨I1.pat b, i2, fun k h1 h2 h3 => ?_, I4, fun c hc => (pat_hi hc).trans (I5 c hc)⟩
  refine (f k (fun p hp => ?_)).trans ((g k h1).trans (I3 k h1 h2 h3))
  have : p = (132, 133) := by simpa using hp
  subst this
  show k < 132 ∨ 133 < k
  omega
theorem wd_yes {c : Prop} [Decidable c] {x y : DA} (hc : c) (q : Wd x Q) : Wd (if c then x else y) Q := by
  rw [if_pos hc]
  exact q
theorem s_L12 (hN : 20000 ≤ N) (hw : h0.1 124 = w) (W0 : WFc w) (b : PB p) (hi : i < zh w) (I : SI lb t p w dl h0 h) (hK : ∀ h1, SI lb t p w dl h0 h1 → Wd (K h1) Q) : Wd (jt (fun Y a hz => g_X12_isSame_L12 N t (nI i) K Y a hz) N (0 : Int32) h) Q := by
  refine wd_jt (fun n a h' => ∃ j, j ≤ 6 ∧ n = 6 - j ∧ a = nI j ∧ SI lb t p w dl h0 h') ?_ N 6 _ _ (by omega) ⟨0, by omega, rfl, rfl, I⟩
  rintro n X a h1 ⟨j, hj, rfl, rfl, I1⟩ hX
  unfold g_X12_isSame_L12
  refine wd_ite (fun q => hK h1 I1) (fun q => ?_)
  have q : ¬ 6 ≤ j := fun z => q ((nI_leI (by decide) (by omega)).mpr z)
  have up : nI j + (1 : Int32) = nI (j + 1) := nI_up j
  refine wd_ask (v := heaV w i j) hw b I1 (pr_of hN) (pg_f_X11_of (Gh.rf _)) (fun m => ps_f_X12_of (Ag.rf m)) (fun m1 e1 => by subst e1; exact wp_eq (e_ofJ hN W0 hi (by omega)) (wp_ret ⟨rfl, Fr.rf⟩)) (fun h2 I2 => ?_)
  refine wd_bo (hs_man I2.1.1) (wd_bo (rw_Q I2.1.1.man hi (by decide)) (wd_bo (rw_A I2.1.1.man hi (by omega) (by decide)) ?_))
  refine wd_yes rfl ?_
  exact hX (6 - (j + 1)) _ _ (by omega) ⟨j + 1, by omega, rfl, up, I2⟩
theorem s_L110 (hN : 20000 ≤ N) (hw : h0.1 124 = w) (W0 : WFc w) (L : Lw LN w) (hD : LawD LN dl) (b : PB p) (hi : i < zh w) (I : SI lb t p w dl h0 h) (hK : ∀ h1, SI lb t p w dl h0 h1 → Wd (K h1) Q) : Wd (jt (fun Y a hz => g_X12_isSame_L110 N t (nI i) K Y a hz) N (0 : Int32) h) Q := by
  have ld := W0.lzd
  refine wd_jt (fun n a h' => ∃ j, j ≤ zd w ∧ n = zd w - j ∧ a = nI j ∧ SI lb t p w dl h0 h') ?_ N (zd w) _ _ (by omega) ⟨0, by omega, rfl, rfl, I⟩
  rintro n X a h1 ⟨j, hj, rfl, rfl, I1⟩ hX
  unfold g_X12_isSame_L110
  refine wd_bo (hs_I I1.1.1 (by decide) (by decide)) ?_
  rw [I1.1.1.int.2.2.2.2.2.2.2.2.1, W0.h38]
  refine wd_ite (fun q => hK h1 I1) (fun q => ?_)
  have q : ¬ zd w ≤ j := fun z => q ((nI_leI (by omega) (by omega)).mpr z)
  have up : nI j + (1 : Int32) = nI (j + 1) := nI_up j
  rw [show (10 : Int32) + nI j = nI (10 + j) from nI_add 10 j]
  refine wd_ask (v := nI (clapS LN w i j 0)) hw b I1 (pr_of hN) (pg_f_X11_of (Gh.rf _)) (fun m => ps_f_X12_of (Ag.rf m)) (fun m1 e1 => by subst e1; exact w_ofC hN W0 L hi (by omega)) (fun h2 I2 => ?_)
  refine wd_chk (e_isT I2.1.1.ob) (wd_bd3 (h_clap (b := 0) I2.1.1 hi (by omega) hD) ?_)
  rintro v3 h3 ⟨rfl, rfl⟩
  refine wd_yes rfl ?_
  exact hX (zd w - (j + 1)) _ _ (by omega) ⟨j + 1, by omega, rfl, up, I2⟩
theorem s_L2 (hN : 20000 ≤ N) (hw : h0.1 124 = w) (W0 : WFc w) (L : Lw LN w) (hD : LawD LN dl) (b : PB p) (I : SI lb t p w dl h0 h) (hK : ∀ h1, SI lb t p w dl h0 h1 → Wd (K h1) Q) : Wd (jt (fun Y a hz => g_X12_isSame_L2 N t K Y a hz) N (0 : Int32) h) Q := by
  have lh := W0.lzh
  have ld := W0.lzd
  refine wd_jt (fun n a h' => ∃ j, j ≤ zh w ∧ n = zh w - j ∧ a = nI j ∧ SI lb t p w dl h0 h') ?_ N (zh w) _ _ (by omega) ⟨0, by omega, rfl, rfl, I⟩
  rintro n X a h1 ⟨j, hj, rfl, rfl, I1⟩ hX
  unfold g_X12_isSame_L2
  refine wd_bo (hs_I I1.1.1 (by decide) (by decide)) ?_
  rw [I1.1.1.int.2.2.2.2.2.2.2.1, W0.h37]
  refine wd_ite (fun q => hK h1 I1) (fun q => ?_)
  have q : ¬ zh w ≤ j := fun z => q ((nI_leI (by omega) (by omega)).mpr z)
  have hj' : j < zh w := by omega
  have up : nI j + (1 : Int32) = nI (j + 1) := nI_up j
  refine s_L12 hN hw W0 b hj' I1 (fun h2 I2 => ?_)
  refine wd_ask (v := heaV w j 6) hw b I2 (pr_of hN) (pg_f_X11_of (Gh.rf _)) (fun m => ps_f_X12_of (Ag.rf m)) (fun m1 e1 => by subst e1; exact wp_eq (e_ofJ (j := 6) hN W0 hj' (by omega)) (wp_ret ⟨rfl, Fr.rf⟩)) (fun h3 I3 => ?_)
  obtain ⟨⟨rs, r1⟩, r2⟩ := I3.1.1.bes
  refine wd_bo (hs_bes I3.1.1) (wd_bo (e_lA r1 (inb_nI (by omega) (by decide))) ?_)
  rw [nI_clamp (by omega), r2 j (by omega)]
  refine wd_yes rfl ?_
  refine wd_ask (v := heaV w j 7) hw b I3 (pr_of hN) (pg_f_X11_of (Gh.rf _)) (fun m => ps_f_X12_of (Ag.rf m)) (fun m1 e1 => by subst e1; exact wp_eq (e_ofJ (j := 7) hN W0 hj' (by omega)) (wp_ret ⟨rfl, Fr.rf⟩)) (fun h4 I4 => ?_)
  refine wd_bo (hs_I I4.1.1 (by decide) (by decide)) ?_
  have db := dbl_lt (w := w) 12
  have ec : heaV w j 7 = (1 : Int32) + ((nI (dblS w 12) >>> (nI j &&& 31)) &&& (1 : Int32)) := by
    have e1 : (nI (dblS w 12) >>> (nI j &&& 31)) &&& (1 : Int32) = nI ((dblS w 12).testBit j).toNat := nz_b01 (by omega) (by omega)
    rw [e1, dbl_bit 12 (by omega)]
    show nI (cnt w j) = nI 1 + _
    rcases cnt_12 (w := w) (i := j) with z | z
    · rw [z]; rfl
    · rw [z]; rfl
  rw [I4.1.1.int.2.2.2.2.2.2.2.2.2.2.2.2.1, if_pos ec]
  refine wd_ask (v := mo1) hw b I4 (pr_of hN) (pg_f_X11_of (Gh.rf _)) (fun m => ps_f_X12_of (Ag.rf m)) (fun m1 e1 => by subst e1; exact wp_eq (e_ofN (j := 8) W0 hj' (Or.inl rfl)) (wp_ret ⟨rfl, Fr.rf⟩)) (fun h5 I5 => ?_)
  refine wd_yes rfl ?_
  refine wd_bo (hs_I I5.1.1 (by decide) (by decide)) ?_
  rw [I5.1.1.int.2.2.2.2.2.2.2.2.1, W0.h38, show (10 : Int32) + nI (zd w) = nI (10 + zd w) from nI_add 10 (zd w)]
  refine wd_ask (v := mo1) hw b I5 (pr_of hN) (pg_f_X11_of (Gh.rf _)) (fun m => ps_f_X12_of (Ag.rf m)) (fun m1 e1 => by subst e1; exact wp_eq (e_ofN W0 hj' (Or.inr rfl)) (wp_ret ⟨rfl, Fr.rf⟩)) (fun h6 I6 => ?_)
  refine wd_yes rfl ?_
  refine s_L110 hN hw W0 L hD b hj' I6 (fun h7 I7 => ?_)
  exact hX (zh w - (j + 1)) _ _ (by omega) ⟨j + 1, by omega, rfl, up, I7⟩
theorem s_L163 (hN : 20000 ≤ N) (hw : h0.1 124 = w) (W0 : WFc w) (b : PB p) (hi : i < zd w) (I : SI lb t p w dl h0 h) (hK : ∀ h1, SI lb t p w dl h0 h1 → Wd (K h1) Q) : Wd (jt (fun Y a hz => g_X12_isSame_L163 N t (nI i) K Y a hz) N (0 : Int32) h) Q := by
  refine wd_jt (fun n a h' => ∃ j, j ≤ 5 ∧ n = 5 - j ∧ a = nI j ∧ SI lb t p w dl h0 h') ?_ N 5 _ _ (by omega) ⟨0, by omega, rfl, rfl, I⟩
  rintro n X a h1 ⟨j, hj, rfl, rfl, I1⟩ hX
  unfold g_X12_isSame_L163
  refine wd_ite (fun q => hK h1 I1) (fun q => ?_)
  have q : ¬ 5 ≤ j := fun z => q ((nI_leI (by decide) (by omega)).mpr z)
  have up : nI j + (1 : Int32) = nI (j + 1) := nI_up j
  refine wd_ask (v := deeV w i j) hw b I1 (pr_deedOf hN) (pg_f_X11_deedOf (Gh.rf _)) (fun m => ps_f_X12_deedOf (Ag.rf m)) (fun m1 e1 => by subst e1; exact wp_eq (e_dofJ W0 hi (by omega)) (wp_ret ⟨rfl, Fr.rf⟩)) (fun h2 I2 => ?_)
  refine wd_bo (hs_dee I2.1.1) (wd_bo (rw_Q I2.1.1.dee hi (by decide)) (wd_bo (rw_A I2.1.1.dee hi (by omega) (by decide)) ?_))
  refine wd_yes rfl ?_
  exact hX (5 - (j + 1)) _ _ (by omega) ⟨j + 1, by omega, rfl, up, I2⟩
theorem s_L153 (hN : 20000 ≤ N) (hw : h0.1 124 = w) (W0 : WFc w) (L : Lw LN w) (hD : LawD LN dl) (b : PB p) (I : SI lb t p w dl h0 h) (hK : ∀ h1, SI lb t p w dl h0 h1 → Wd (K h1) Q) : Wd (jt (fun Y a hz => g_X12_isSame_L153 N t K Y a hz) N (0 : Int32) h) Q := by
  have ld := W0.lzd
  refine wd_jt (fun n a h' => ∃ j, j ≤ zd w ∧ n = zd w - j ∧ a = nI j ∧ SI lb t p w dl h0 h') ?_ N (zd w) _ _ (by omega) ⟨0, by omega, rfl, rfl, I⟩
  rintro n X a h1 ⟨j, hj, rfl, rfl, I1⟩ hX
  unfold g_X12_isSame_L153
  refine wd_bo (hs_I I1.1.1 (by decide) (by decide)) ?_
  rw [I1.1.1.int.2.2.2.2.2.2.2.2.1, W0.h38]
  refine wd_ite (fun q => hK h1 I1) (fun q => ?_)
  have q : ¬ zd w ≤ j := fun z => q ((nI_leI (by omega) (by omega)).mpr z)
  have hj' : j < zd w := by omega
  have up : nI j + (1 : Int32) = nI (j + 1) := nI_up j
  refine s_L163 hN hw W0 b hj' I1 (fun h2 I2 => ?_)
  refine wd_ask (v := nI (loudS LN w j)) hw b I2 (pr_deedOf hN) (pg_f_X11_deedOf (Gh.rf _)) (fun m => ps_f_X12_deedOf (Ag.rf m)) (fun m1 e1 => by subst e1; exact w_dofL hN W0 L hj') (fun h3 I3 => ?_)
  refine wd_chk (e_isT I3.1.1.ob) (wd_bd3 (h_loud I3.1.1 hj' hD) ?_)
  rintro v4 h4 ⟨rfl, rfl⟩
  refine wd_yes rfl ?_
  refine wd_ask (v := nI (wearS LN w j)) hw b I3 (pr_deedOf hN) (pg_f_X11_deedOf (Gh.rf _)) (fun m => ps_f_X12_deedOf (Ag.rf m)) (fun m1 e1 => by subst e1; exact w_dofW hN W0 L hj') (fun h5 I5 => ?_)
  refine wd_chk (e_isT I5.1.1.ob) (wd_bd3 (h_wears I5.1.1 hj' hD) ?_)
  rintro v6 h6 ⟨rfl, rfl⟩
  refine wd_yes rfl ?_
  refine wd_ask (v := mo1) hw b I5 (pr_deedOf hN) (pg_f_X11_deedOf (Gh.rf _)) (fun m => ps_f_X12_deedOf (Ag.rf m)) (fun m1 e1 => by subst e1; exact wp_eq (e_dofN W0 hj') (wp_ret ⟨rfl, Fr.rf⟩)) (fun h7 I7 => ?_)
  refine wd_yes rfl ?_
  exact hX (zd w - (j + 1)) _ _ (by omega) ⟨j + 1, by omega, rfl, up, I7⟩
theorem s_L253 (hN : 20000 ≤ N) (hw : h0.1 124 = w) (W0 : WFc w) (b : PB p) (hi : i < zb w) (I : SI lb t p w dl h0 h) (hK : ∀ h1, SI lb t p w dl h0 h1 → Wd (K h1) Q) : Wd (jt (fun Y a hz => g_X12_isSame_L253 N t (nI i) K Y a hz) N (0 : Int32) h) Q := by
  have lz := W0.lzb
  refine wd_jt (fun n a h' => ∃ j, j ≤ 4 ∧ n = 4 - j ∧ a = nI j ∧ SI lb t p w dl h0 h') ?_ N 4 _ _ (by omega) ⟨0, by omega, rfl, rfl, I⟩
  rintro n X a h1 ⟨j, hj, rfl, rfl, I1⟩ hX
  unfold g_X12_isSame_L253
  refine wd_ite (fun q => hK h1 I1) (fun q => ?_)
  have q : ¬ 4 ≤ j := fun z => q ((nI_leI (by decide) (by omega)).mpr z)
  have up : nI j + (1 : Int32) = nI (j + 1) := nI_up j
  refine wd_ask (v := w (223 + 4 * i + j)) hw b I1 pr_book (pg_f_X11_book (Gh.rf _)) (fun m => ps_f_X12_book (Ag.rf m)) (fun m1 e1 => by
    subst e1
    refine wp_eq (e_bookM W0) (wp_ret ⟨?_, Fr.rf⟩)
    rw [if_pos ⟨inb_nI hi (by omega), inb_nI (by omega) (by decide)⟩, nv_nI (by omega), nv_nI (by omega)]) (fun h2 I2 => ?_)
  refine wd_bo (hs_lin I2.1.1) (wd_bo (rw_Q I2.1.1.lin hi (by omega)) (wd_bo (rw_A I2.1.1.lin hi (by omega) (by decide)) ?_))
  refine wd_yes rfl ?_
  exact hX (4 - (j + 1)) _ _ (by omega) ⟨j + 1, by omega, rfl, up, I2⟩
theorem s_L243 (hN : 20000 ≤ N) (hw : h0.1 124 = w) (W0 : WFc w) (b : PB p) (I : SI lb t p w dl h0 h) (hK : ∀ h1, SI lb t p w dl h0 h1 → Wd (K h1) Q) : Wd (jt (fun Y a hz => g_X12_isSame_L243 N t K Y a hz) N (0 : Int32) h) Q := by
  have lz := W0.lzb
  refine wd_jt (fun n a h' => ∃ j, j ≤ zb w ∧ n = zb w - j ∧ a = nI j ∧ SI lb t p w dl h0 h') ?_ N (zb w) _ _ (by omega) ⟨0, by omega, rfl, rfl, I⟩
  rintro n X a h1 ⟨j, hj, rfl, rfl, I1⟩ hX
  unfold g_X12_isSame_L243
  refine wd_bo (hs_I I1.1.1 (by decide) (by decide)) ?_
  rw [I1.1.1.int.2.2.2.2.2.2.2.2.2.1, W0.h6]
  refine wd_ite (fun q => hK h1 I1) (fun q => ?_)
  have q : ¬ zb w ≤ j := fun z => q ((nI_leI (by omega) (by omega)).mpr z)
  have up : nI j + (1 : Int32) = nI (j + 1) := nI_up j
  refine s_L253 hN hw W0 b (by omega) I1 (fun h2 I2 => ?_)
  exact hX (zb w - (j + 1)) _ _ (by omega) ⟨j + 1, by omega, rfl, up, I2⟩
end SAMEH
