/-! set: a number told -/
section SETH
variable {h h' h2 h1 : DS} {t N d hh c o u i k A n Lc b q C S j who y : Nat} {xs : Nat → Int32} {p pb : Plc} {w w' a w2 : Arr} {dl : Option (Nat → Int32)} {LN : List Lin} {v x s5 s6 : Int32} {lb lb' : Nat → Nat × Nat × Nat} {T : Nat → Nat} {Pp : Nat → Plc} {f : Nat → Arr} {Q : Int32 → DS → Prop} {K : DS → DA} {K994 : Nat → DS → DA} {X : (Nat × Int32 × Int32) → DS → DA} {m m1 m2 : Mem} {c0 s0 B : Nat}
theorem CW.fra (I : CW LN dl B A lb t p w k T Pp f b pb h) (F : FrA h h') (kl : lk h') : CW LN dl B A lb t p w k T Pp f b pb h' := by
  obtain ⟨W, Hb, Bb, bb, hbt, hbT⟩ := I
  exact ⟨W.fra F ⟨W.1.1.fra W.1.2.1 F, W.1.2.1, kl, W.1.2.2.2⟩ (fun _ _ => rfl), Hb.fra Bb F, Bb, bb, hbt, hbT⟩
/-- the class was told, the House not yet -/
def SM (LN : List Lin) (dl : Option (Nat → Int32)) (B A : Nat) (lb : Nat → Nat × Nat × Nat) (t : Nat) (p : Plc) (w w' : Arr) (h : DS) : Prop :=
  HS lb h t p w dl ∧ PB p ∧ Inv h.1 ∧ h.1 124 = w' ∧ Lw LN w' ∧ h.1 123 4 = nI 0 ∧ h.1 123 16 = nI 0 ∧ (∃ rs, h.2.1[A]? = some (104, 6, rs) ∧ rs.length = 6) ∧ 123 ≤ A ∧ (lb A).1 = 0 ∧ evB B w'
theorem r_844 (hN : 20000 ≤ N) (hD : LawD LN dl) (I : SM LN dl B A lb t p w w' h) (H' : HS lb h' t p w' dl) (Kp : KpH lb t h h') (Sh : h'.2.1 = h.2.1) (hn : csz h.2.1 + 100 < 1000000) (hc : csz h.2.1 + 64 ≤ c0) (hs : ssz h.2.1 + 431 ≤ s0) (hX : ∀ t' k' h', RE LN dl B A c0 s0 t' k' h' → Wd (X (t', nI k', s5 + 1) h') Q) :
    Wd (g_L_law_J844_41 N Lc xs A K994 X t s5 b 0 h') Q := by
  obtain ⟨H, bp, i1, i2, L, e4, tp, ⟨rs, rA, rl⟩, hA, lA, ev⟩ := I
  unfold g_L_law_J844_41 g_L_law_J847_41
  refine r_917n (k := 0) (T := fun _ => 0) (Pp := fun _ => p) (f := fun _ => w) hN hD ⟨H', bp, by rw [Kp.1]; exact i1, by rw [Kp.1]; exact i2, L, by rw [Kp.1]; exact PaM.zero e4, ⟨by omega, fun i hi => absurd hi (by omega)⟩, by rw [Kp.1]; exact tp, ⟨⟨rs, by rw [Sh]; exact rA, rl, fun i hi => absurd hi (by omega)⟩, hA, lA, fun i hi => absurd hi (by omega)⟩, ev, fun i hi => absurd hi (by omega)⟩ (by rw [Sh]; omega) (by rw [Sh]; omega) (by rw [Sh]; omega) hX
theorem hea_set3 (W0 : WFc w) (hc : c < 3) : (heaV (upd w (heaI c + hh) x) hh c = x) ∧ ∀ i, i < 12 → hh < 12 → ∀ c', c' < 6 → (i ≠ hh ∨ c' ≠ c) → heaV (upd w (heaI c + hh) x) i c' = heaV w i c' := by
  refine ⟨?_, fun i hi h12 c' hc' hne => ?_⟩
  · match c, hc with
    | 0, _ => exact ud_s
    | 1, _ => exact ud_s
    | 2, _ => exact ud_s
    | c + 3, hc => exact absurd hc (by omega)
  · have hi9 : 45 ≤ heaI c ∧ heaI c ≤ 69 := by
      have : ∀ j, j < 3 → 45 ≤ heaI j ∧ heaI j ≤ 69 := by decide
      exact this c hc
    have ec : cnt (upd w (heaI c + hh) x) i = cnt w i := cnt_cg (fun j hj => ud_n (by omega)) W0.lzs i
    have e7 : zt (upd w (heaI c + hh) x) = zt w := by unfold zt; rw [ud_n (by omega)]
    have e8 : zv (upd w (heaI c + hh) x) = zv w := by unfold zv; rw [ud_n (by omega)]
    have e9 : upd w (heaI c + hh) x (9 + i) = w (9 + i) := ud_n (by omega)
    have e185 : upd w (heaI c + hh) x (185 + i) = w (185 + i) := ud_n (by omega)
    have b0 : c' = 0 → upd w (heaI c + hh) x (45 + i) = w (45 + i) := by
      rintro rfl
      refine ud_n (fun z => ?_)
      match c, hc, hne with
      | 0, _, hne => exact (hne.resolve_right (fun y => y rfl)) (by have : 45 + i = 45 + hh := z; omega)
      | 1, _, _ => have : 45 + i = 57 + hh := z; omega
      | 2, _, _ => have : 45 + i = 69 + hh := z; omega
    have b1 : c' = 1 → upd w (heaI c + hh) x (57 + i) = w (57 + i) := by
      rintro rfl
      refine ud_n (fun z => ?_)
      match c, hc, hne with
      | 0, _, _ => have : 57 + i = 45 + hh := z; omega
      | 1, _, hne => exact (hne.resolve_right (fun y => y rfl)) (by have : 57 + i = 57 + hh := z; omega)
      | 2, _, _ => have : 57 + i = 69 + hh := z; omega
    have b2 : c' = 2 → upd w (heaI c + hh) x (69 + i) = w (69 + i) := by
      rintro rfl
      refine ud_n (fun z => ?_)
      match c, hc, hne with
      | 0, _, _ => have : 69 + i = 45 + hh := z; omega
      | 1, _, _ => have : 69 + i = 57 + hh := z; omega
      | 2, _, hne => exact (hne.resolve_right (fun y => y rfl)) (by have : 69 + i = 69 + hh := z; omega)
    unfold heaV
    rw [ec, e7, e8, e9, e185]
    match c', hc', b0, b1, b2 with
    | 0, _, b0, _, _ => simp [b0 rfl]
    | 1, _, _, b1, _ => simp [b1 rfl]
    | 2, _, _, _, b2 => simp [b2 rfl]
    | 3, _, _, _, _ => simp
    | 4, _, _, _, _ => simp
    | 5, _, _, _, _ => simp
    | c' + 6, hc', _, _, _ => exact absurd hc' (by omega)
theorem r_785 (hN : 20000 ≤ N) (hD : LawD LN dl) (hj : 1 ≤ j) (hj6 : j ≤ 6) (W0 : WFc w) (ew : w' = upd w (setI j (if j ≤ 3 then hh else d)) (nI y)) (cs : canS w j (if j ≤ 3 then hh else d) y = true) (I : SM LN dl B A lb t p w w' h) (hn : csz h.2.1 + 100 < 1000000) (hc : csz h.2.1 + 64 ≤ c0) (hs : ssz h.2.1 + 431 ≤ s0) (hX : ∀ t' k' h', RE LN dl B A c0 s0 t' k' h' → Wd (X (t', nI k', s5 + 1) h') Q) :
    Wd (g_L_law_J785_41 N Lc xs A K994 X t s5 (nI hh) (nI d) b 0 (nI j) (nI y) h) Q := by
  have lh := W0.lzh
  have ld := W0.lzd
  have H := I.1
  have man : ∀ c, c < 3 → j = c + 1 → Wd (g_L_law_J785_41 N Lc xs A K994 X t s5 (nI hh) (nI d) b 0 (nI j) (nI y) h) Q := by
    rintro c hc3 rfl
    have cs' : hh < zh w := by
      unfold canS at cs
      rw [if_neg (by omega), if_pos (by omega), if_pos (by omega), Bool.and_eq_true, decide_eq_true_eq] at cs
      exact cs.1
    have hw' : w' = upd w (heaI c + hh) (nI y) := by
      rw [ew, if_pos (by omega)]
      unfold setI
      rw [if_neg (by omega), if_pos (by omega)]
      rfl
    obtain ⟨v1, v2⟩ := hea_set3 (hh := hh) (x := nI y) W0 hc3
    have hi9 : 45 ≤ heaI c ∧ heaI c ≤ 69 := by
      have : ∀ j, j < 3 → 45 ≤ heaI j ∧ heaI j ≤ 69 := by decide
      exact this c hc3
    obtain ⟨hA, eA, HA, KA, SA⟩ := h_wM (c := c) (x := nI y) (w' := upd w (heaI c + hh) (nI y)) H W0 cs' (by omega) (fun i hi => ud_n (by unfold manI at hi; omega)) v1 (fun i hi c' hc' hne => v2 i (by omega) (by omega) c' hc' hne)
    rw [← hw'] at HA
    unfold g_L_law_J785_41
    rw [if_neg (show ¬ nI (c + 1) ≤ 0 from fun z => by
      have := (nI_leI (a := c + 1) (b := 0) (by omega) (by decide)).mp z
      omega), if_neg (show ¬ (4 : Int32) ≤ nI (c + 1) from fun z => by
      have := (nI_leI (a := 4) (b := c + 1) (by decide) (by omega)).mp z
      omega), show nI (c + 1) - (1 : Int32) = nI c from nI_dn c]
    refine wd_bo (hs_man H.1) (wd_bo (rw_Q H.1.man cs' (by decide)) (wd_bo eA ?_))
    unfold g_L_law_J810_41
    rw [if_neg (show ¬ nI (c + 1) = 4 from nI_ne (b := 4) (by omega) (by omega) (by decide))]
    unfold g_L_law_J827_41
    rw [if_neg (show ¬ nI (c + 1) = 5 from nI_ne (b := 5) (by omega) (by omega) (by decide))]
    exact r_844 hN hD I HA KA SA hn hc hs hX
  match j, hj, hj6, man, ew, cs with
  | 1, _, _, man, _, _ => exact man 0 (by decide) rfl
  | 2, _, _, man, _, _ => exact man 1 (by decide) rfl
  | 3, _, _, man, _, _ => exact man 2 (by decide) rfl
  | 4, _, _, _, ew, cs =>
    have cs' : d < zd w := by
      unfold canS at cs
      rw [if_neg (by decide), if_neg (by decide), if_pos rfl, if_neg (by decide), Bool.and_eq_true, decide_eq_true_eq] at cs
      exact cs.1
    have hw' : w' = upd w (81 + d) (nI y) := ew
    obtain ⟨hA, eA, HA, KA, SA⟩ := x_wD (c := 0) (x := nI y) H W0 cs' (by decide)
    rw [show deeI 0 + d = 81 + d from rfl, ← hw'] at HA
    unfold g_L_law_J785_41
    rw [if_neg (show ¬ nI 4 ≤ 0 by decide), if_pos (show (4 : Int32) ≤ nI 4 by decide)]
    unfold g_L_law_J810_41
    rw [if_pos (show nI 4 = 4 from rfl)]
    refine wd_bo (hs_dee H.1) (wd_bo (rw_Q H.1.dee cs' (by decide)) (wd_bo eA ?_))
    unfold g_L_law_J827_41
    rw [if_neg (show ¬ nI 4 = 5 by decide)]
    exact r_844 hN hD I HA KA SA hn hc hs hX
  | 5, _, _, _, ew, cs =>
    have cs' : d < zd w := by
      unfold canS at cs
      rw [if_neg (by decide), if_neg (by decide), if_neg (by decide), if_pos rfl, if_neg (by decide), Bool.and_eq_true, decide_eq_true_eq] at cs
      exact cs.1
    have hw' : w' = upd w (21 + d) (nI y) := ew
    obtain ⟨hA, eA, HA, KA, SA⟩ := x_wD (c := 3) (x := nI y) H W0 cs' (by decide)
    rw [show deeI 3 + d = 21 + d from rfl, ← hw'] at HA
    unfold g_L_law_J785_41
    rw [if_neg (show ¬ nI 5 ≤ 0 by decide), if_pos (show (4 : Int32) ≤ nI 5 by decide)]
    unfold g_L_law_J810_41
    rw [if_neg (show ¬ nI 5 = 4 by decide)]
    unfold g_L_law_J827_41
    rw [if_pos (show nI 5 = 5 from rfl)]
    refine wd_bo (hs_dee H.1) (wd_bo (rw_Q H.1.dee cs' (by decide)) (wd_bo eA ?_))
    exact r_844 hN hD I HA KA SA hn hc hs hX
  | 6, _, _, _, _, cs => cases cs
  | j + 7, _, hj6, _, _, _ => exact absurd hj6 (by omega)
theorem r_749 (hN : 20000 ≤ N) (hD : LawD LN dl) (hj6 : j ≤ 6) (hw31 : who < 2 ^ 31) (hy : y < 2 ^ 31) (cs : canS w j who y = false) (I : CW LN dl B A lb t p w k T Pp f b pb h) (hn : csz h.2.1 + 100 < 1000000) (hc : csz h.2.1 + 64 ≤ c0) (hs : ssz h.2.1 + 431 ≤ s0) (hX : ∀ t' k' h', RE LN dl B A c0 s0 t' k' h' → Wd (X (t', nI k', s5 + 1) h') Q) :
    Wd (g_L_law_J749_41 N Lc xs A K994 X t (nI k) s5 (nI hh) (nI d) b 0 (nI j) (nI y) (nI who) h) Q := by
  have W0 := I.1.good.1
  unfold g_L_law_J749_41 g_L_law_J750_41
  refine wd_qt (v := 0) I.1.1.2.2.1 (pr_set hN) (pg_f_X11_set (Gh.rf _)) (fun m => ps_f_X12_set (Ag.rf m)) I.1.2.2.1 (fun m1 g => ?_) (fun m2 i2 q2 => ?_)
  · have w1 : m1 124 = w := (g 124 (by decide)).trans I.1.2.2.2.1
    exact wp_eq (m_setN w1 W0 hj6 hw31 hy cs) (wp_ret ⟨rfl, Fr.rf⟩)
  · refine wd_yes rfl (wd_yes rfl ?_)
    unfold g_L_law_J847_41
    exact r_917n hN hD (I.1.quiet (lk_pm I.1.1.2.2.1) i2 q2 frl_pat) (show csz h.2.1 + 2 < _ by omega) (show csz h.2.1 + 1 ≤ _ by omega) (show ssz h.2.1 + 11 ≤ _ by omega) hX
theorem r_745 (hN : 20000 ≤ N) (hD : LawD LN dl) (hj6 : j ≤ 6) (hw31 : who < 2 ^ 31) (hy : y < 2 ^ 31) (ewho : who = if j ≤ 3 then hh else d) (cs : canS w j who y = true) (I : CW LN dl B A lb t p w k T Pp f b pb h) (hn : csz h.2.1 + 100 < 1000000) (hc : csz h.2.1 + 64 ≤ c0) (hs : ssz h.2.1 + 431 ≤ s0) (hX : ∀ t' k' h', RE LN dl B A c0 s0 t' k' h' → Wd (X (t', nI k', s5 + 1) h') Q) :
    Wd (g_L_law_J745_41 N Lc xs A K994 X t (nI k) s5 (nI hh) (nI d) b 0 (nI j) (nI y) (nI who) h) Q := by
  obtain ⟨⟨H, bp, i1, i2, L, PM, O, tp, Ps, ev⟩, -⟩ := id I
  have W0 := I.1.good.1
  have lh := W0.lzh
  have ld := W0.lzd
  have si : (setI j who ≠ 40 ∧ setI j who ≠ 1) ∧ setI j who < 823 := by
    unfold canS at cs
    unfold setI
    split at cs
    · rename_i z
      rw [if_pos z]
      exact ⟨⟨by decide, by decide⟩, by decide⟩
    · rename_i z
      rw [if_neg z]
      split at cs
      · rename_i z3
        rw [if_pos z3]
        rw [Bool.and_eq_true, decide_eq_true_eq] at cs
        have : ∀ j, j < 3 → 45 ≤ heaI j ∧ heaI j ≤ 69 := by decide
        have := this (j - 1) (by omega)
        omega
      · rename_i z3
        rw [if_neg z3]
        split at cs
        · rename_i z4
          rw [if_pos z4]
          rw [Bool.and_eq_true, decide_eq_true_eq] at cs
          omega
        · rename_i z4
          rw [if_neg z4]
          split at cs
          · rw [Bool.and_eq_true, decide_eq_true_eq] at cs
            omega
          · cases cs
  unfold g_L_law_J745_41 g_L_law_J750_41
  refine wd_chk (is11 H.2.2.1) (wd_call (pr_set hN) (pg_f_X11_set (Gh.rf _)) (fun m => ps_f_X12_set (Ag.rf m)) i1 (fun v1 m1 m2 g ey i2' => ?_))
  have w1 : m1 124 = w := (g 124 (by decide)).trans i2
  obtain ⟨v2, m3, ey2, rfl, a1, a2, a3⟩ := m_setY (f := f) w1 W0 hj6 hw31 hy cs
  rw [ey] at ey2
  cases ey2
  have S1 : SM LN dl B A lb t p w (upd w (setI j who) (nI y)) (pat h m2) := by
    obtain ⟨⟨rs, rA, rl, -⟩, hA, lA, -⟩ := Ps
    exact ⟨H.pat bp, bp, i2', a1, ⟨L.1.up si.1.1 si.2, L.2⟩, a2.1, a3.trans ((by rw [g 123 (by decide)] : m1 123 16 = h.1 123 16).trans tp), ⟨rs, rA, rl⟩, hA, lA, ev.1.cg (ud_n (fun z => si.1.2 z.symm))⟩
  refine wd_yes rfl ?_
  rw [if_neg (show ¬ (1 : Int32) = 0 by decide)]
  by_cases z : j = 0
  · subst z
    obtain ⟨hA, eA, HA, KA, SA⟩ := h_wC (x := nI y) S1.1 W0
    refine wd_yes rfl (wd_bo eA ?_)
    unfold g_L_law_J785_41
    rw [if_pos (show nI 0 ≤ 0 by decide)]
    unfold g_L_law_J810_41
    rw [if_neg (show ¬ nI 0 = 4 by decide)]
    unfold g_L_law_J827_41
    rw [if_neg (show ¬ nI 0 = 5 by decide)]
    exact r_844 hN hD S1 HA KA SA hn hc hs hX
  · rw [if_neg (show ¬ nI j = 0 from nI_ne (b := 0) z (by omega) (by decide))]
    rw [ewho] at cs S1
    exact r_785 hN hD (by omega) hj6 W0 rfl cs S1 hn hc hs hX
theorem r_706 (hN : 20000 ≤ N) (hD : LawD LN dl) (hj6 : j ≤ 6) (hw31 : who < 2 ^ 31) (hy : y < 2 ^ 31) (ewho : who = if j ≤ 3 then hh else d) (hq : h.2.1[n]? = some (100, 7, [])) (hv : ∀ i, i < 7 → h.2.2 n i = sevV i) (I : CW LN dl B A lb t p w k T Pp f b pb h) (hn : csz h.2.1 + 100 < 1000000) (hc : csz h.2.1 + 64 ≤ c0) (hs : ssz h.2.1 + 431 ≤ s0) (hX : ∀ t' k' h', RE LN dl B A c0 s0 t' k' h' → Wd (X (t', nI k', s5 + 1) h') Q) :
    Wd (g_L_law_J706_41 N Lc xs A K994 X t (nI k) s5 (nI hh) (nI d) b 0 (nI j) (nI y) n (nI who) h) Q := by
  have H := I.1.1
  have W0 := I.1.good.1
  have lh := W0.lzh
  have ld := W0.lzd
  have no := fun cs => r_749 (hh := hh) (d := d) (Lc := Lc) (xs := xs) (K994 := K994) hN hD hj6 hw31 hy cs I hn hc hs hX
  have yes := fun cs => r_745 (Lc := Lc) (xs := xs) (K994 := K994) hN hD hj6 hw31 hy ewho cs I hn hc hs hX
  unfold g_L_law_J706_41
  refine wd_bo (e_lA hq (inb_nI (by omega) (by decide))) ?_
  rw [nI_clamp (by omega), hv j (by omega)]
  have cmp : ∀ c, c < 2 ^ 31 → (nI c < nI y ↔ c < y) := fun c hc => nI_ltI hc hy
  have eh : ∀ a, who ≤ a ∨ a < 2 ^ 31 → True := fun _ _ => trivial
  have le2 : ∀ a, a < 100 → (nI a ≤ nI who ↔ a ≤ who) := fun a ha => nI_leI (by omega) hw31
  unfold canS at no yes
  match j, hj6, no, yes with
  | 0, _, no, yes =>
    refine wd_ite (fun z => no ?_) (fun z => ?_)
    · have z := (cmp 1000 (by decide)).mp z
      rw [if_pos rfl]
      exact decide_eq_false (by omega)
    · have z : ¬ 1000 < y := fun u => z ((cmp 1000 (by decide)).mpr u)
      refine wd_yes rfl (yes ?_)
      rw [if_pos rfl]
      exact decide_eq_true (by omega)
  | 1, _, no, yes =>
    rw [if_neg (by decide), if_pos (by decide)] at no yes
    refine wd_ite (fun z => no ?_) (fun z => ?_)
    · have z := (cmp 9 (by decide)).mp z
      rw [decide_eq_false (show ¬ y ≤ 9 by omega), Bool.and_false]
    · have z : ¬ 9 < y := fun u => z ((cmp 9 (by decide)).mpr u)
      rw [if_neg (show ¬ nI 1 = 0 by decide), if_pos (show nI 1 ≤ 3 by decide)]
      refine wd_bo (hs_I H.1 (by decide) (by decide)) ?_
      rw [H.1.int.2.2.2.2.2.2.2.1, W0.h37]
      unfold g_L_law_J742_41
      refine wd_ite (fun z2 => no ?_) (fun z2 => yes ?_)
      · have z2 := (le2 _ (by omega)).mp z2
        rw [decide_eq_false (show ¬ who < zh w by omega), Bool.false_and]
      · have z2 : ¬ zh w ≤ who := fun u => z2 ((le2 _ (by omega)).mpr u)
        rw [decide_eq_true (show who < zh w by omega), decide_eq_true (show y ≤ 9 by omega)]
        rfl
  | 2, _, no, yes =>
    rw [if_neg (by decide), if_pos (by decide)] at no yes
    refine wd_ite (fun z => no ?_) (fun z => ?_)
    · have z := (cmp 9 (by decide)).mp z
      rw [decide_eq_false (show ¬ y ≤ 9 by omega), Bool.and_false]
    · have z : ¬ 9 < y := fun u => z ((cmp 9 (by decide)).mpr u)
      rw [if_neg (show ¬ nI 2 = 0 by decide), if_pos (show nI 2 ≤ 3 by decide)]
      refine wd_bo (hs_I H.1 (by decide) (by decide)) ?_
      rw [H.1.int.2.2.2.2.2.2.2.1, W0.h37]
      unfold g_L_law_J742_41
      refine wd_ite (fun z2 => no ?_) (fun z2 => yes ?_)
      · have z2 := (le2 _ (by omega)).mp z2
        rw [decide_eq_false (show ¬ who < zh w by omega), Bool.false_and]
      · have z2 : ¬ zh w ≤ who := fun u => z2 ((le2 _ (by omega)).mpr u)
        rw [decide_eq_true (show who < zh w by omega), decide_eq_true (show y ≤ 9 by omega)]
        rfl
  | 3, _, no, yes =>
    rw [if_neg (by decide), if_pos (by decide)] at no yes
    refine wd_ite (fun z => no ?_) (fun z => ?_)
    · have z := (cmp 9 (by decide)).mp z
      rw [decide_eq_false (show ¬ y ≤ 9 by omega), Bool.and_false]
    · have z : ¬ 9 < y := fun u => z ((cmp 9 (by decide)).mpr u)
      rw [if_neg (show ¬ nI 3 = 0 by decide), if_pos (show nI 3 ≤ 3 by decide)]
      refine wd_bo (hs_I H.1 (by decide) (by decide)) ?_
      rw [H.1.int.2.2.2.2.2.2.2.1, W0.h37]
      unfold g_L_law_J742_41
      refine wd_ite (fun z2 => no ?_) (fun z2 => yes ?_)
      · have z2 := (le2 _ (by omega)).mp z2
        rw [decide_eq_false (show ¬ who < zh w by omega), Bool.false_and]
      · have z2 : ¬ zh w ≤ who := fun u => z2 ((le2 _ (by omega)).mpr u)
        rw [decide_eq_true (show who < zh w by omega), decide_eq_true (show y ≤ 9 by omega)]
        rfl
  | 4, _, no, yes =>
    rw [if_neg (by decide), if_neg (by decide), if_pos rfl] at no yes
    refine wd_ite (fun z => no ?_) (fun z => ?_)
    · have z := (cmp 9 (by decide)).mp z
      rw [decide_eq_false (show ¬ y ≤ 9 by omega), Bool.and_false]
    · have z : ¬ 9 < y := fun u => z ((cmp 9 (by decide)).mpr u)
      rw [if_neg (show ¬ nI 4 = 0 by decide), if_neg (show ¬ nI 4 ≤ 3 by decide)]
      refine wd_bo (hs_I H.1 (by decide) (by decide)) ?_
      rw [H.1.int.2.2.2.2.2.2.2.2.1, W0.h38]
      unfold g_L_law_J742_41
      refine wd_ite (fun z2 => no ?_) (fun z2 => yes ?_)
      · have z2 := (le2 _ (by omega)).mp z2
        rw [decide_eq_false (show ¬ who < zd w by omega), Bool.false_and]
      · have z2 : ¬ zd w ≤ who := fun u => z2 ((le2 _ (by omega)).mpr u)
        rw [decide_eq_true (show who < zd w by omega), decide_eq_true (show y ≤ 9 by omega)]
        rfl
  | 5, _, no, yes =>
    rw [if_neg (by decide), if_neg (by decide), if_neg (by decide), if_pos rfl] at no yes
    refine wd_ite (fun z => no ?_) (fun z => ?_)
    · have z := (cmp 99 (by decide)).mp z
      rw [decide_eq_false (show ¬ y ≤ 99 by omega), Bool.and_false]
    · have z : ¬ 99 < y := fun u => z ((cmp 99 (by decide)).mpr u)
      rw [if_neg (show ¬ nI 5 = 0 by decide), if_neg (show ¬ nI 5 ≤ 3 by decide)]
      refine wd_bo (hs_I H.1 (by decide) (by decide)) ?_
      rw [H.1.int.2.2.2.2.2.2.2.2.1, W0.h38]
      unfold g_L_law_J742_41
      refine wd_ite (fun z2 => no ?_) (fun z2 => yes ?_)
      · have z2 := (le2 _ (by omega)).mp z2
        rw [decide_eq_false (show ¬ who < zd w by omega), Bool.false_and]
      · have z2 : ¬ zd w ≤ who := fun u => z2 ((le2 _ (by omega)).mpr u)
        rw [decide_eq_true (show who < zd w by omega), decide_eq_true (show y ≤ 99 by omega)]
        rfl
  | 6, _, no, yes =>
    refine wd_ite (fun z => no rfl) (fun z => ?_)
    refine absurd (Int32.lt_iff_toInt_lt.mpr ?_) z
    rw [nI_toInt hy]
    show (-1 : Int32).toInt < _
    rw [show (-1 : Int32).toInt = -1 from by decide]
    omega
  | j + 7, hj6, _, _ => exact absurd hj6 (by omega)
end SETH
