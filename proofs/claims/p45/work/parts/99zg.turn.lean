/-! gloves and let, the rest; set -/
section TURNH
variable {h h' h2 h1 : DS} {t N d hh c o u i k A n Lc b q C S j who : Nat} {xs : Nat → Int32} {p pb : Plc} {w w' a w2 : Arr} {dl : Option (Nat → Int32)} {LN : List Lin} {v x s5 s6 : Int32} {lb lb' : Nat → Nat × Nat × Nat} {T : Nat → Nat} {Pp : Nat → Plc} {f : Nat → Arr} {Q : Int32 → DS → Prop} {K : DS → DA} {K994 : Nat → DS → DA} {X : (Nat × Int32 × Int32) → DS → DA} {m m1 m2 : Mem} {c0 s0 B : Nat}
theorem r_507 {g bl : Bool} (hN : 20000 ≤ N) (hD : LawD LN dl) (I : CW LN dl B A lb t p w k T Pp f b pb h) (hd : hh < zh w) (hq : gV w g hh = !bl) (hn : csz h.2.1 + 100 < 1000000) (hc : csz h.2.1 + 64 ≤ c0) (hs : ssz h.2.1 + 431 ≤ s0) (hX : ∀ t' k' h', RE LN dl B A c0 s0 t' k' h' → Wd (X (t', nI k', s5 + 1) h') Q) :
    Wd (g_L_law_J507_41 N Lc xs A K994 X t (nI k) s5 (nI hh) b (nI (gN g)) (b2i bl) 1 h) Q := by
  have G := I.1.good
  have W0 := G.1
  have ld := W0.lzh
  have L := I.1.2.2.2.2.1
  have H := I.1.1
  have W1 := gW (g := g) W0 hd
  obtain ⟨v1, v2⟩ := gS_V (g := g) W0 hd
  rw [hq, Bool.not_not] at v1
  have g6 : gN g < 6 := by cases g <;> decide
  unfold g_L_law_J507_41
  rw [if_neg (show ¬ (1 : Int32) = 0 by decide)]
  refine wd_bo (hs_man H.1) (wd_bo (rw_Q H.1.man hd (by decide)) ?_)
  obtain ⟨hA, eA, HA, KA, SA⟩ := h_wM (c := gN g) (x := b2i bl) (w' := gS w g hh) H W0 hd g6 (fun i hi => gS_o (by unfold manI at hi; omega) (by unfold manI at hi; omega)) v1 (fun i _ c' hc' hne => v2 i c' hc' hne)
  have n1 : csz hA.2.1 = csz h.2.1 := by rw [SA]
  have fin : ∀ v3 h3, v3 = (1 : Int32) → (∃ lb2 p2, Mid LN dl B A lb2 t p2 w (nteS (gS w g hh) (nI (gM g)) (nI hh) (b2i bl)) k T Pp f b pb h3 ∧ csz h3.2.1 ≤ csz h.2.1 + 1 ∧ ssz h3.2.1 ≤ ssz h.2.1 + 4) → Wd (g_L_law_J587_41 N Lc xs A K994 X t (nI k) s5 b 1 v3 h3) Q := by
    rintro v3 h3 rfl ⟨lb2, p2, M, c3, s3⟩
    unfold g_L_law_J587_41
    refine wd_yes rfl ?_
    exact r_917 hN hD M (by omega) (by omega) (by omega) hX
  have tail : Wd (g_L_law_J558_41 N Lc xs A K994 X t (nI k) s5 (nI hh) b 1 (nI (gN g)) (b2i bl) (b2i bl) (nI hh) (nI (gM g)) t hA) Q := by
    unfold g_L_law_J558_41
    refine wd_chk (e_isT HA.1.ob) (wd_bd3 (h_notes (a := nI (gM g)) (c0 := nI hh) (c1 := b2i bl) HA W1 (by omega)) ?_)
    rintro v2 h2 ⟨O, -⟩
    have O1 : OpR lb t h p dl 1 4 (nteS (gS w g hh) (nI (gM g)) (nI hh) (b2i bl)) h2 := O.pre HA KA SA
    have Lw' : Lw LN (nteS (gS w g hh) (nI (gM g)) (nI hh) (b2i bl)) := ⟨(gL L).1.nte W1, L.2⟩
    have ex' : exH w (nteS (gS w g hh) (nI (gM g)) (nI hh) (b2i bl)) := gX.tr (exH.nte W1)
    have e1' : nteS (gS w g hh) (nI (gM g)) (nI hh) (b2i bl) 1 = w 1 := (nteS_o (by decide) (by decide)).trans (gS_o (by decide) (by decide))
    unfold g_L_law_J562_41
    cases g with
    | true =>
      refine wd_yes (show nI (gN true) = 4 from rfl) ?_
      exact r_act (v := 1) I O1 (pr_glove hN) (pg_f_X11_glove (Gh.rf _)) (fun m => ps_f_X12_glove (Ag.rf m)) (fun m1 w1 P1 => m_glove hN w1 W0 I.1.le6 P1 hd hq) Lw' ex' e1' (fun lb2 p2 h3 M c3 s3 => fin 1 h3 rfl ⟨lb2, p2, M, c3, s3⟩)
    | false =>
      rw [if_neg (show ¬ nI (gN false) = 4 by decide)]
      exact r_act (v := 1) I O1 (pr_let hN) (pg_f_X11_let (Gh.rf _)) (fun m => ps_f_X12_let (Ag.rf m)) (fun m1 w1 P1 => m_let hN w1 W0 I.1.le6 P1 hd hq) Lw' ex' e1' (fun lb2 p2 h3 M c3 s3 => fin 1 h3 rfl ⟨lb2, p2, M, c3, s3⟩)
  have mid : Wd (g_L_law_J533_41 N Lc xs A K994 X t (nI k) s5 (nI hh) b 1 (nI (gN g)) (b2i bl) (b2i bl) (nI (gN g)) (p.2.1 hh) h) Q := by
    unfold g_L_law_J533_41
    refine wd_bo eA ?_
    have m46 : Wd (g_L_law_J546_41 N Lc xs A K994 X t (nI k) s5 (nI hh) b 1 (nI (gN g)) (b2i bl) (nI (gM g)) t hA) Q := by
      unfold g_L_law_J546_41
      cases bl with
      | false => exact wd_yes rfl tail
      | true =>
        rw [if_neg (show ¬ b2i true = 0 by decide)]
        exact tail
    cases g with
    | true => exact wd_yes rfl m46
    | false =>
      rw [if_neg (show ¬ nI (gN false) = 4 by decide)]
      exact m46
  cases bl with
  | false => exact wd_yes rfl mid
  | true =>
    rw [if_neg (show ¬ b2i true = 0 by decide)]
    exact mid
theorem r_450 {g : Bool} (hN : 20000 ≤ N) (hD : LawD LN dl) (I : CW LN dl B A lb t p w k T Pp f b pb h) (hd : hh ≤ zh w) (hn : csz h.2.1 + 100 < 1000000) (hc : csz h.2.1 + 64 ≤ c0) (hs : ssz h.2.1 + 431 ≤ s0) (hX : ∀ t' k' h', RE LN dl B A c0 s0 t' k' h' → Wd (X (t', nI k', s5 + 1) h') Q) :
    Wd (g_L_law_J450_41 N Lc xs A K994 X t (nI k) s5 s6 (nI hh) b (nI (gN g)) h) Q := by
  have W0 := I.1.good.1
  have ld := W0.lzh
  have H := I.1.1
  have g6 : gN g < 6 := by cases g <;> decide
  have key : ∀ bl, Wd (g_L_law_J468_41 N Lc xs A K994 X t (nI k) s5 (nI hh) b (nI (gN g)) (b2i bl) h) Q := by
    intro bl
    unfold g_L_law_J468_41
    refine wd_bo (hs_I H.1 (by decide) (by decide)) ?_
    rw [H.1.int.2.2.2.2.2.2.2.1, W0.h37]
    refine wd_ite (fun z => ?_) (fun z => ?_)
    · have z := (nI_leI (by omega) (by omega)).mp z
      exact r_506 hN hD I hd (Or.inl (by omega)) hn hc hs hX
    · have z : ¬ zh w ≤ hh := fun y => z ((nI_leI (by omega) (by omega)).mpr y)
      have hlt : hh < zh w := by omega
      refine wd_bo (hs_man H.1) (wd_bo (rw_Q H.1.man hlt (by decide)) (wd_bo (rw_A (c := gN g) H.1.man hlt g6 (by decide)) ?_))
      have eV : heaV w hh (gN g) = b2i (gV w g hh) := by
        cases g with
        | true => rfl
        | false => rfl
      rw [eV]
      have k99 : Wd (g_L_law_J499_41 N Lc xs A K994 X t (nI k) s5 (nI hh) b (nI (gN g)) (b2i bl) (b2i bl) (b2i (gV w g hh)) h) Q := by
        unfold g_L_law_J499_41
        refine wd_ite (fun y => ?_) (fun y => ?_)
        · exact r_506 hN hD I hd (Or.inr (b2i_inj.mp y)) hn hc hs hX
        · refine r_507 hN hD I hlt ?_ hn hc hs hX
          cases e1 : gV w g hh <;> cases e2 : bl
          · rw [e1, e2] at y; exact absurd rfl y
          · rfl
          · rfl
          · rw [e1, e2] at y; exact absurd rfl y
      cases bl with
      | false => exact wd_yes rfl k99
      | true =>
        rw [if_neg (show ¬ b2i true = 0 by decide)]
        exact k99
  unfold g_L_law_J450_41
  refine wd_ite (fun _ => key true) (fun _ => key false)
/-- the seven bounds -/
def sevV (i : Nat) : Int32 := if i = 0 then 1000 else if i ≤ 4 then 9 else if i = 5 then 99 else -1
theorem a_seven {F : DS → DA} (kl : lk h) (hn : csz h.2.1 + 2 < 1000000) (q : ∀ h', FrA h h' → lk h' → h'.2.1[h.2.1.length]? = some (100, 7, []) → (∀ i, i < 7 → h'.2.2 h.2.1.length i = sevV i) → csz h'.2.1 = csz h.2.1 + 1 → ssz h'.2.1 = ssz h.2.1 + 7 → Wd (F h') Q) :
    Wd (bo (nA h 100 (7 : Int32)) fun h_653 => bo (sA h_653 100 h.2.1.length (0 : Int32) (1000 : Int32)) fun h_660 => bo (sA h_660 100 h.2.1.length (1 : Int32) (9 : Int32)) fun h_665 => bo (sA h_665 100 h.2.1.length (2 : Int32) (9 : Int32)) fun h_670 => bo (sA h_670 100 h.2.1.length (3 : Int32) (9 : Int32)) fun h_675 =>
      bo (sA h_675 100 h.2.1.length (4 : Int32) (9 : Int32)) fun h_680 => bo (sA h_680 100 h.2.1.length (5 : Int32) (99 : Int32)) fun h_685 => bo (sA h_685 100 h.2.1.length (6 : Int32) (-1 : Int32)) fun h_690 => F h_690) Q := by
  have g123 : 123 ≤ h.2.1.length := lk_len kl
  have cz : csz h.2.1 = h.2.1.length := rfl
  refine wd_bo (e_nA (a := 7) (by decide) (by decide) (by omega)) ?_
  rw [show (7 : Int32).toNatClampNeg = 7 from rfl]
  obtain ⟨hb, eb⟩ : ∃ hb, hb = grown h (100, 7, []) (fun _ => 0) := ⟨_, rfl⟩
  rw [← eb]
  obtain ⟨n, en⟩ : ∃ n, n = h.2.1.length := ⟨_, rfl⟩
  rw [← en]
  have hbn : hb.2.1[n]? = some (100, 7, []) := by rw [eb, en]; exact gw_new
  have hn123 : 123 ≤ n := by omega
  have kb : lk hb := by rw [eb]; exact lk_gr kl (by omega) (fun j q hq => by simp at hq)
  have fb : FrA h hb := ⟨by rw [eb]; rfl, by rw [eb, gw_len]; omega, fun c hc => by
    rw [eb]
    exact ⟨gw_old hc, gw_mo hc⟩⟩
  have c1 : csz hb.2.1 = csz h.2.1 + 1 := by
    rw [eb]
    exact gw_len
  have s1 : ssz hb.2.1 = ssz h.2.1 + 7 := by rw [eb]; exact ssz_gr
  refine wd_bo (e_sA hbn (by decide) hn123) ?_
  refine wd_bo (e_sA hbn (by decide) hn123) ?_
  refine wd_bo (e_sA hbn (by decide) hn123) ?_
  refine wd_bo (e_sA hbn (by decide) hn123) ?_
  refine wd_bo (e_sA hbn (by decide) hn123) ?_
  refine wd_bo (e_sA hbn (by decide) hn123) ?_
  refine wd_bo (e_sA hbn (by decide) hn123) ?_
  dsimp only
  rw [show (0 : Int32).toNatClampNeg = 0 from rfl, show (1 : Int32).toNatClampNeg = 1 from rfl, show (2 : Int32).toNatClampNeg = 2 from rfl, show (3 : Int32).toNatClampNeg = 3 from rfl, show (4 : Int32).toNatClampNeg = 4 from rfl, show (5 : Int32).toNatClampNeg = 5 from rfl, show (6 : Int32).toNatClampNeg = 6 from rfl]
  generalize eμ : mset (mset (mset (mset (mset (mset (mset hb.2.2 n 0 1000) n 1 9) n 2 9) n 3 9) n 4 9) n 5 99) n 6 (-1) = μ
  have kμ : lk (hb.1, hb.2.1, μ) := by
    rw [← eμ]
    exact lk_mset (h := (hb.1, hb.2.1, _)) (lk_mset (h := (hb.1, hb.2.1, _)) (lk_mset (h := (hb.1, hb.2.1, _)) (lk_mset (h := (hb.1, hb.2.1, _)) (lk_mset (h := (hb.1, hb.2.1, _)) (lk_mset (h := (hb.1, hb.2.1, _)) (lk_mset kb hn123) hn123) hn123) hn123) hn123) hn123) hn123
  have μo : ∀ c, c ≠ n → μ c = hb.2.2 c := fun c hc => by rw [← eμ, mset_ne hc, mset_ne hc, mset_ne hc, mset_ne hc, mset_ne hc, mset_ne hc, mset_ne hc]
  refine q _ ⟨fb.1, fb.2.1, fun c hc => ⟨(fb.2.2 c hc).1, (μo c (by omega)).trans (fb.2.2 c hc).2⟩⟩ kμ (by rw [← en]; exact hbn) (fun i hi => ?_) c1 s1
  rw [← en, ← eμ]
  dsimp only
  match i, hi with
  | 0, _ => rw [mset_j (by decide), mset_j (by decide), mset_j (by decide), mset_j (by decide), mset_j (by decide), mset_j (by decide)]; exact mset_at _ _ _ _
  | 1, _ => rw [mset_j (by decide), mset_j (by decide), mset_j (by decide), mset_j (by decide), mset_j (by decide)]; exact mset_at _ _ _ _
  | 2, _ => rw [mset_j (by decide), mset_j (by decide), mset_j (by decide), mset_j (by decide)]; exact mset_at _ _ _ _
  | 3, _ => rw [mset_j (by decide), mset_j (by decide), mset_j (by decide)]; exact mset_at _ _ _ _
  | 4, _ => rw [mset_j (by decide), mset_j (by decide)]; exact mset_at _ _ _ _
  | 5, _ => rw [mset_j (by decide)]; exact mset_at _ _ _ _
  | 6, _ => exact mset_at _ _ _ _
  | i + 7, hi => exact absurd hi (by omega)
end TURNH
