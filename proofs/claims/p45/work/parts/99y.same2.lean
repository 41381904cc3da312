/-! the whole of isSame -/
section SAMEW
variable {h h' h2 h0 hb : DS} {t N d hh b c o u i n k : Nat} {p : Plc} {w w' : Arr} {dl : Option (Nat → Int32)} {lb lb' : Nat → Nat × Nat × Nat} {Q : Int32 → DS → Prop} {K : DS → DA} {m m1 m2 : Mem} {LN : List Lin} {v : Int32}
def lkP : List Nat := [37, 38, 0, 1, 2, 39, 3, 4, 7, 6, 5, 40, 41, 42, 43, 44]
def lkV (w : Arr) (j : Nat) : Int32 := w (lkP.getD j 0)
theorem e_lookM {j : Nat} (hj : j < 16) : f_X12_look N (nI j) m = some (lkV (m 124) j, m) := by
  unfold f_X12_look
  match j, hj with
  | 0, _ => rw [swt_at 0 (by decide) rfl]; rfl
  | 1, _ => rw [swt_at 1 (by decide) rfl]; rfl
  | 2, _ => rw [swt_at 2 (by decide) rfl]; rfl
  | 3, _ => rw [swt_at 3 (by decide) rfl]; rfl
  | 4, _ => rw [swt_at 4 (by decide) rfl]; rfl
  | 5, _ => rw [swt_at 5 (by decide) rfl]; rfl
  | 6, _ => rw [swt_at 6 (by decide) rfl]; rfl
  | 7, _ => rw [swt_at 7 (by decide) rfl]; rfl
  | 8, _ => rw [swt_at 8 (by decide) rfl]; rfl
  | 9, _ => rw [swt_at 9 (by decide) rfl]; rfl
  | 10, _ => rw [swt_at 10 (by decide) rfl]; rfl
  | 11, _ => rw [swt_at 11 (by decide) rfl]; rfl
  | 12, _ => rw [swt_at 12 (by decide) rfl]; rfl
  | 13, _ => rw [swt_at 13 (by decide) rfl]; rfl
  | 14, _ => rw [swt_at 14 (by decide) rfl]; rfl
  | 15, _ => rw [swt_at 15 (by decide) rfl]; rfl
  | j + 16, hj => exact absurd hj (by omega)
theorem s_L378 {q n : Nat} {rs : List (Option Nat)} (hw : h0.1 124 = w) (hN : 20000 ≤ N) (b : PB p) (hq : h0.2.1[n]? = some (100, 11, rs)) (hn : 123 ≤ n) (hv : ∀ j, j < 11 → h0.2.2 n j = lkV w j) (I : SI lb t p w dl h0 h) (hK : ∀ h1, SI lb t p w dl h0 h1 → Wd (K h1) Q) : Wd (jt (fun Y a hz => g_X12_isSame_L378 N t n K Y a hz) N (0 : Int32) h) Q := by
  refine wd_jt (fun n a h' => ∃ j, j ≤ 11 ∧ n = 11 - j ∧ a = nI j ∧ SI lb t p w dl h0 h') ?_ N 11 _ _ (by omega) ⟨0, by omega, rfl, rfl, I⟩
  rintro n' X a h1 ⟨j, hj, rfl, rfl, I1⟩ hX
  unfold g_X12_isSame_L378
  refine wd_ite (fun q => hK h1 I1) (fun q => ?_)
  have q : ¬ 11 ≤ j := fun z => q ((nI_leI (by decide) (by omega)).mpr z)
  have up : nI j + (1 : Int32) = nI (j + 1) := nI_up j
  refine wd_ask (v := lkV w j) hw b I1 (pr_look hN) (pg_f_X11_look (Gh.rf _)) (fun m => ps_f_X12_look (Ag.rf m)) (fun m1 e1 => by subst e1; exact wp_eq (e_lookM (by omega)) (wp_ret ⟨rfl, Fr.rf⟩)) (fun h2 I2 => ?_)
  refine wd_bo (e_lA (by rw [I2.2.2.2.1]; exact hq) (inb_nI (by omega) (by decide))) ?_
  rw [nI_clamp (by omega), I2.2.2.2.2 n hn, hv j (by omega)]
  refine wd_yes rfl ?_
  exact hX (11 - (j + 1)) _ _ (by omega) ⟨j + 1, by omega, rfl, up, I2⟩
/-- k numbers of a row of the law's own are put -/
def LkI (lb : Nat → Nat × Nat × Nat) (hb : DS) (n t : Nat) (p : Plc) (w : Arr) (dl : Option (Nat → Int32)) (V : Nat → Int32) (k : Nat) (h : DS) : Prop := HS lb h t p w dl ∧ h.2.1 = hb.2.1 ∧ h.1 = hb.1 ∧ (∀ c, c ≠ n → h.2.2 c = hb.2.2 c) ∧ ∀ i, i < k → h.2.2 n i = V i
theorem lk_put {V : Nat → Int32} {f : DS → DA} {rs : List (Option Nat)} {z : Nat} {x y : Int32} (I : LkI lb hb n t p w dl V k h) (hs : hb.2.1[n]? = some (100, z, rs)) (h123 : 123 ≤ n) (hl : (lb n).1 = n) (hnt : n ≠ t) (hk : k < z) (hz : z < 2 ^ 31) (hx : x = nI k) (hy : y = V k) (q : ∀ h1, LkI lb hb n t p w dl V (k + 1) h1 → Wd (f h1) Q) : Wd (bo (sA h 100 n x y) f) Q := by
  subst hx hy
  obtain ⟨I1, I2, I3, I4, I5⟩ := I
  have K0 : KpH lb n h (h.1, h.2.1, mset h.2.2 n k (V k)) := ⟨rfl, Nat.le_refl _, fun c hc hne => ⟨rfl, mset_ne (fun e => hne (by rw [e]; exact hl))⟩⟩
  refine wd_bo (e_sA (by rw [I2]; exact hs) (inb_nI hk (by omega)) h123) ?_
  rw [nI_clamp (by omega)]
  refine q _ ⟨⟨I1.1.keep I1.2.1 K0 hnt (by omega), I1.2.1, lk_mset I1.2.2.1 h123, I1.2.2.2⟩, I2, I3, fun c hc => (mset_ne hc).trans (I4 c hc), fun i hi => ?_⟩
  by_cases e : i = k
  · subst e
    exact mset_at _ _ _ _
  · exact (mset_j e).trans (I5 i (by omega))
theorem h_same (hN : 20000 ≤ N) (H : HS lb h t p w dl) (hI : Inv h.1) (hw : h.1 124 = w) (L : Lw LN w) (hD : LawD LN dl) (b : PB p) (hn : csz h.2.1 + 2 < 1000000) :
    Wd (g_X12_isSame N t h) (fun v h' => v = 1 ∧ lk h' ∧ Inv h'.1 ∧ (∀ k, 123 ≤ k → k ≠ 132 → k ≠ 133 → h'.1 k = h.1 k) ∧ FrL h h' ∧ csz h'.2.1 = csz h.2.1 + 1 ∧ ssz h'.2.1 = ssz h.2.1 + 11) := by
  have W0 : WFc w := by
    obtain ⟨LN0, -, G, -⟩ := id hI
    rw [← hw]
    exact G.1
  unfold g_X12_isSame
  refine s_L2 (h0 := h) hN hw W0 L hD b ⟨H, hI, fun _ _ _ _ => rfl, rfl, fun _ _ => rfl⟩ (fun h1 I1 => ?_)
  refine s_L153 hN hw W0 L hD b I1 (fun h1 I1 => ?_)
  refine s_L243 hN hw W0 b I1 (fun h1 I1 => ?_)
  obtain ⟨J1, J2, J3, J4, J5⟩ := I1
  have n1 : csz h1.2.1 = csz h.2.1 := by rw [J4]
  have n1' : h1.2.1.length = csz h.2.1 := n1
  refine wd_bo (e_nA (a := 11) (by decide) (by decide) (by omega)) ?_
  obtain ⟨n, en⟩ : ∃ n, n = h1.2.1.length := ⟨_, rfl⟩
  rw [← en]
  have hn123 : 123 ≤ n := by rw [en]; exact lk_len J1.2.2.1
  obtain ⟨hb, eb⟩ : ∃ hb, hb = grown h1 (100, (11 : Int32).toNatClampNeg, []) (fun _ => 0) := ⟨_, rfl⟩
  rw [← eb]
  have tl := len_of J1.1.ob
  have hbn : hb.2.1[n]? = some (100, 11, []) := by rw [eb, en]; exact gw_new
  have fb : FrA h1 hb := ⟨by rw [eb]; rfl, by rw [eb, gw_len]; omega, fun c hc => by
    rw [eb]
    exact ⟨gw_old hc, gw_mo hc⟩⟩
  have kb : lk hb := by rw [eb]; exact lk_gr J1.2.2.1 (by omega) (fun j q hq => by simp at hq)
  have HB : HS (fun c => if c < n then lb c else (n, 0, 0)) hb t p w dl := by
    have := J1.re (lb' := fun c => if c < n then lb c else (n, 0, 0)) (fun c hc => if_pos (by omega))
    exact ⟨this.1.fra this.2.1 fb, this.2.1, kb, this.2.2.2⟩
  have hln : ((fun c => if c < n then lb c else ((n, 0, 0) : Nat × Nat × Nat)) n).1 = n := by
    show (if n < n then lb n else ((n, 0, 0) : Nat × Nat × Nat)).1 = n
    rw [if_neg (Nat.lt_irrefl n)]
  generalize (fun c => if c < n then lb c else ((n, 0, 0) : Nat × Nat × Nat)) = lb2 at HB hln
  have hnt : n ≠ t := by omega
  have I0 : LkI lb2 hb n t p w dl (lkV w) 0 hb := ⟨HB, rfl, rfl, fun _ _ => rfl, fun i hi => absurd hi (by omega)⟩
  refine wd_bo (hs_I I0.1.1 (by decide) (by decide)) (lk_put I0 hbn hn123 hln hnt (by decide) (by decide) rfl I0.1.1.int.2.2.2.2.2.2.2.1 fun ha I0 => ?_)
  refine wd_bo (hs_I I0.1.1 (by decide) (by decide)) (lk_put I0 hbn hn123 hln hnt (by decide) (by decide) rfl I0.1.1.int.2.2.2.2.2.2.2.2.1 fun ha I0 => ?_)
  refine wd_bo (hs_I I0.1.1 (by decide) (by decide)) (lk_put I0 hbn hn123 hln hnt (by decide) (by decide) rfl I0.1.1.int.2.1 fun ha I0 => ?_)
  refine wd_bo (hs_I I0.1.1 (by decide) (by decide)) (lk_put I0 hbn hn123 hln hnt (by decide) (by decide) rfl I0.1.1.int.2.2.1 fun ha I0 => ?_)
  refine wd_bo (hs_I I0.1.1 (by decide) (by decide)) (lk_put I0 hbn hn123 hln hnt (by decide) (by decide) rfl I0.1.1.int.2.2.2.1 fun ha I0 => ?_)
  refine wd_bo (hs_I I0.1.1 (by decide) (by decide)) (lk_put I0 hbn hn123 hln hnt (by decide) (by decide) rfl I0.1.1.int.2.2.2.2.2.2.1 fun ha I0 => ?_)
  refine wd_bo (hs_I I0.1.1 (by decide) (by decide)) (lk_put I0 hbn hn123 hln hnt (by decide) (by decide) rfl I0.1.1.int.2.2.2.2.1 fun ha I0 => ?_)
  refine wd_bo (hs_I I0.1.1 (by decide) (by decide)) (lk_put I0 hbn hn123 hln hnt (by decide) (by decide) rfl I0.1.1.int.2.2.2.2.2.1 fun ha I0 => ?_)
  refine wd_chk (e_isT I0.1.1.ob) (wd_bd3 (h_there hN I0.1.1 W0) ?_)
  rintro _ _ ⟨rfl, rfl⟩
  refine lk_put I0 hbn hn123 hln hnt (by decide) (by decide) rfl W0.h7.1.symm fun ha I0 => ?_
  refine wd_bo (hs_I I0.1.1 (by decide) (by decide)) (lk_put I0 hbn hn123 hln hnt (by decide) (by decide) rfl I0.1.1.int.2.2.2.2.2.2.2.2.2.1 fun ha I0 => ?_)
  refine wd_bo (hs_I I0.1.1 (by decide) (by decide)) (lk_put I0 hbn hn123 hln hnt (by decide) (by decide) rfl I0.1.1.int.1 fun ha I0 => ?_)
  obtain ⟨A1, A2, A3, A4, A5⟩ := I0
  have wa : ha.1 124 = w := by rw [A3, fb.1, J3 124 (by decide) (by decide) (by decide)]; exact hw
  have Ia : SI lb2 t p w dl ha ha := ⟨A1, by rw [A3, fb.1]; exact J2, fun _ _ _ _ => rfl, rfl, fun _ _ => rfl⟩
  refine s_L378 (q := 0) wa hN b (by rw [A2]; exact hbn) hn123 A5 Ia (fun h2 I2 => ?_)
  have l38 := W0.lzd
  have l37 := W0.lzh
  have lz := W0.lzb
  refine wd_bo (hs_I I2.1.1 (by decide) (by decide)) ?_
  rw [I2.1.1.int.2.2.2.2.2.2.2.1, W0.h37]
  refine wd_ask (v := mo1) wa b I2 (pr_of hN) (pg_f_X11_of (Gh.rf _)) (fun m => ps_f_X12_of (Ag.rf m)) (fun m1 e1 => by subst e1; exact wp_eq (e_ofX W0) (wp_ret ⟨rfl, Fr.rf⟩)) (fun h2 I2 => ?_)
  refine wd_yes rfl (wd_bo (hs_I I2.1.1 (by decide) (by decide)) ?_)
  rw [I2.1.1.int.2.2.2.2.2.2.2.2.1, W0.h38]
  refine wd_ask (v := mo1) wa b I2 (pr_deedOf hN) (pg_f_X11_deedOf (Gh.rf _)) (fun m => ps_f_X12_deedOf (Ag.rf m)) (fun m1 e1 => by subst e1; exact wp_eq (e_dofX W0) (wp_ret ⟨rfl, Fr.rf⟩)) (fun h2 I2 => ?_)
  refine wd_yes rfl (wd_bo (hs_I I2.1.1 (by decide) (by decide)) ?_)
  rw [I2.1.1.int.2.2.2.2.2.2.2.2.2.1, W0.h6]
  refine wd_ask (v := mo1) wa b I2 pr_book (pg_f_X11_book (Gh.rf _)) (fun m => ps_f_X12_book (Ag.rf m)) (fun m1 e1 => by
    subst e1
    refine wp_eq (e_bookM W0) (wp_ret ⟨?_, Fr.rf⟩)
    rw [if_neg (fun z => by
      have := z.1
      rw [inb_no (Or.inr (Int32.le_refl _)) (by omega)] at this
      cases this)]) (fun h2 I2 => ?_)
  refine wd_yes rfl ?_
  refine wd_ask (v := hndS w) wa b I2 (pr_statute hN) (pg_f_X11_statute (Gh.rf _)) (fun m => ps_f_X12_statute (Ag.rf m)) (fun m1 e1 => by subst e1; exact wp_eq (e_staM hN W0) (wp_ret ⟨rfl, Fr.rf⟩)) (fun h2 I2 => ?_)
  refine wd_chk (e_isT I2.1.1.ob) (wd_bd3 (h_asks hN I2.1.1 W0) ?_)
  rintro _ _ ⟨rfl, rfl⟩
  refine wd_yes rfl ?_
  refine wd_ask (v := lstS w 8 (nI 9) (zs w)) wa b I2 (pr_statute hN) (pg_f_X11_statute (Gh.rf _)) (fun m => ps_f_X12_statute (Ag.rf m)) (fun m1 e1 => by subst e1; exact wp_eq (e_staM hN W0) (wp_ret ⟨rfl, Fr.rf⟩)) (fun h2 I2 => ?_)
  refine wd_bo (hs_I I2.1.1 (by decide) (by decide)) (wd_yes I2.1.1.int.2.2.2.2.2.2.2.2.2.2.1.symm ?_)
  refine wd_ask (v := lstS w 10 (nI 300) (zs w)) wa b I2 (pr_statute hN) (pg_f_X11_statute (Gh.rf _)) (fun m => ps_f_X12_statute (Ag.rf m)) (fun m1 e1 => by subst e1; exact wp_eq (e_staM hN W0) (wp_ret ⟨rfl, Fr.rf⟩)) (fun h2 I2 => ?_)
  refine wd_bo (hs_I I2.1.1 (by decide) (by decide)) (wd_yes I2.1.1.int.2.2.2.2.2.2.2.2.2.2.2.1.symm ?_)
  refine wd_ask (v := mo1) wa b I2 (pr_statute hN) (pg_f_X11_statute (Gh.rf _)) (fun m => ps_f_X12_statute (Ag.rf m)) (fun m1 e1 => by subst e1; exact wp_eq (e_staM hN W0) (wp_ret ⟨rfl, Fr.rf⟩)) (fun h2 I2 => ?_)
  refine wd_yes rfl ?_
  refine wd_ask (v := lkV w 12) wa b I2 (pr_look hN) (pg_f_X11_look (Gh.rf _)) (fun m => ps_f_X12_look (Ag.rf m)) (fun m1 e1 => by subst e1; exact wp_eq (e_lookM (j := 12) (by decide)) (wp_ret ⟨rfl, Fr.rf⟩)) (fun h2 I2 => ?_)
  refine wd_bo (hs_I I2.1.1 (by decide) (by decide)) (wd_yes I2.1.1.int.2.2.2.2.2.2.2.2.2.2.2.2.2.1.symm ?_)
  refine wd_ask (v := lkV w 13) wa b I2 (pr_look hN) (pg_f_X11_look (Gh.rf _)) (fun m => ps_f_X12_look (Ag.rf m)) (fun m1 e1 => by subst e1; exact wp_eq (e_lookM (j := 13) (by decide)) (wp_ret ⟨rfl, Fr.rf⟩)) (fun h2 I2 => ?_)
  obtain ⟨⟨rs, r1, -⟩, -⟩ := id I2.1.1.pro
  refine wd_bo (hs_pro I2.1.1) (wd_bo (e_aN r1) (wd_yes W0.h42 ?_))
  refine wd_ask (v := lkV w 14) wa b I2 (pr_look hN) (pg_f_X11_look (Gh.rf _)) (fun m => ps_f_X12_look (Ag.rf m)) (fun m1 e1 => by subst e1; exact wp_eq (e_lookM (j := 14) (by decide)) (wp_ret ⟨rfl, Fr.rf⟩)) (fun h2 I2 => ?_)
  refine wd_bo (hs_I I2.1.1 (by decide) (by decide)) (wd_yes I2.1.1.int.2.2.2.2.2.2.2.2.2.2.2.2.2.2.symm ?_)
  refine wd_ret ⟨rfl, I2.1.2.2.1, I2.2.1, fun k h1 h2' h3 => ?_, ⟨?_, fun c hc => ⟨?_, fun g => ?_⟩⟩, ?_, ?_⟩
  · rw [I2.2.2.1 k h1 h2' h3, A3, fb.1, J3 k h1 h2' h3]
  · rw [I2.2.2.2.1, A2]
    have := fb.2.1
    rw [J4] at this
    exact this
  · rw [I2.2.2.2.1, A2, (fb.2.2 c (by rw [J4]; exact hc)).1, J4]
  · rw [I2.2.2.2.2 c g, A4 c (by
      have : c < csz h.2.1 := hc
      omega), (fb.2.2 c (by rw [J4]; exact hc)).2, J5 c g]
  · rw [I2.2.2.2.1, A2, eb]
    show (h1.2.1 ++ [_]).length = _
    rw [List.length_append, J4]
    rfl
  · rw [I2.2.2.2.1, A2, eb, ssz_gr, J4]
    rfl
end SAMEW
