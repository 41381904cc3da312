/-! the draws of those who are there -/
section DRAWS
variable {h h' h2 : DS} {t N d hh b c o : Nat} {p : Plc} {w w' : Arr} {dl : Option (Nat → Int32)} {LN : List Lin} {v x : Int32} {lb : Nat → Nat × Nat × Nat}
/-- a cell that is no part of the House is written -/
theorem HouR.mem1 {j : Nat} (H : HouR h t p w dl) (B : HLb lb t p w) (ho : lb o = (t, 6, 0)) : HouR (h.1, h.2.1, mset h.2.2 o j x) t p w dl := by
  obtain ⟨⟨a1, a2⟩, aI, am, ad, al, ah, ap, ⟨⟨rs, ab⟩, ab2⟩, aw⟩ := H
  obtain ⟨b0, b1, b2, b3, b4, b5, b6, b7, b8, b9, b10, b11, b12⟩ := B
  have z : ∀ {a : Nat}, lb a ≠ (t, 6, 0) → mset h.2.2 o j x a = h.2.2 a := fun hn => mset_ne (fun e => hn (by rw [e]; exact ho))
  have z0 : ∀ {a : Nat}, (lb a).1 = 0 → lb a ≠ (t, 6, 0) := fun e f => by
    rw [f] at e
    exact absurd (show t = 0 from e) (by omega)
  refine ⟨⟨a1, a2⟩, ?_, ?_, ?_, ?_, ?_, ?_, ?_, ?_⟩
  · have e := z (a := t) (by rw [b0]; intro e; cases e)
    unfold HouI at aI ⊢
    dsimp only
    rw [e]
    exact aI
  · exact am.mv rfl (fun i hi e he => ⟨he, z (by rw [b4 i hi]; intro e; cases e)⟩) (fun _ _ _ _ => rfl)
  · exact ad.mv rfl (fun i hi e he => ⟨he, z (by rw [b5 i hi]; intro e; cases e)⟩) (fun _ _ _ _ => rfl)
  · exact al.mv rfl (fun i hi e he => ⟨he, z (z0 (b6 i hi))⟩) (fun _ _ _ _ => rfl)
  · exact ah.mv rfl (fun i hi e he => ⟨he, z (z0 (b7 i hi))⟩) (fun _ _ _ _ => rfl)
  · exact ap.mv rfl (fun i hi e he => ⟨he, z (z0 (b8 i hi))⟩) (fun _ _ _ _ => rfl)
  · exact ⟨⟨rs, ab⟩, fun k hk => (congrFun (z (z0 b11)) k).trans (ab2 k hk)⟩
  · cases e : p.1.2.2.2.2.2.2 with
    | none =>
      rw [e] at aw
      cases dl with
      | none => trivial
      | some dv => exact aw.elim
    | some r =>
      rw [e] at aw
      cases dl with
      | none => exact aw.elim
      | some dv =>
        obtain ⟨⟨rs, l1⟩, l2⟩ := aw
        exact ⟨⟨rs, l1⟩, fun j hj => (congrFun (z (z0 (b12 r e))) j).trans (l2 j hj)⟩
theorem kp_oth {j : Nat} (hl : (lb o).1 = t) : KpH lb t h (h.1, h.2.1, mset h.2.2 o j x) := ⟨rfl, Nat.le_refl _, fun c hc hn => ⟨rfl, mset_ne (fun e => hn (by rw [e, hl]))⟩⟩
/-- each who is there draws -/
theorem h_draws {K : DS → DA} {Q : Int32 → DS → Prop} (hN : 20000 ≤ N) (H : HS lb h t p w dl) (W0 : WFc w) (ho : lb o = (t, 6, 0)) (ho2 : h.2.1[o]? = some (100, 12, []))
    (hK : ∀ h', HS lb h' t p (upd w 5 (dstS w (zh w))) dl → KpH lb t h h' → h'.2.1 = h.2.1 → (∀ i, i < zh w → (zt w).testBit i = true → h'.2.2 o i = valS (drwS (dstS w i))) → Wd (K h') Q) :
    Wd (jt (fun Y a hz => g_X12_once_L95 N t (nI d) 1 o K Y a hz) N (0 : Int32) h) Q := by
  have s := W0.lzh
  have hge : 123 ≤ o := by
    rcases Nat.lt_or_ge o 123 with z | z
    · have h1 := H.2.2.2 _ z
      rw [ho] at h1
      exact absurd (show t = 0 from h1) (by have := H.1.1.1; omega)
    · exact z
  refine wd_jt (fun n a h' => ∃ i, i ≤ zh w ∧ n = zh w - i ∧ a = nI i ∧ HS lb h' t p (upd w 5 (dstS w i)) dl ∧ KpH lb t h h' ∧ h'.2.1 = h.2.1 ∧ ∀ j, j < i → (zt w).testBit j = true → h'.2.2 o j = valS (drwS (dstS w j))) ?_ N (zh w) _ _ (by omega) ⟨0, by omega, rfl, rfl, by rw [show upd w 5 (dstS w 0) = w from upd_self]; exact H, KpH.rf, rfl, fun j hj => absurd hj (by omega)⟩
  rintro n X a h1 ⟨i, hi, rfl, rfl, H1, K1, S1, D1⟩ hX
  have W1 : WFc (upd w 5 (dstS w i)) := W0.up (by decide)
  have zh1 : zh (upd w 5 (dstS w i)) = zh w := by unfold zh; rw [ud_n (by decide)]
  have zt1 : zt (upd w 5 (dstS w i)) = zt w := by unfold zt; rw [ud_n (by decide)]
  have HR := H1.1
  unfold g_X12_once_L95
  refine wd_bo (hs_I HR (by decide) (by decide)) ?_
  rw [HR.int.2.2.2.2.2.2.2.1, ud_n (by decide), W0.h37]
  refine wd_ite (fun q => ?_) (fun q => ?_)
  · have q := (nI_leI (by omega) (by omega)).mp q
    have : i = zh w := by omega
    subst this
    exact hK h1 H1 K1 S1 D1
  · have q : ¬ zh w ≤ i := fun z => q ((nI_leI (by omega) (by omega)).mpr z)
    have hlt : i < zh (upd w 5 (dstS w i)) := by rw [zh1]; omega
    refine wd_bo (hs_man HR) (wd_bo (rw_Q HR.man hlt (by decide)) (wd_bo (rw_A (c := 3) HR.man hlt (by decide) (by decide)) ?_))
    rw [show heaV (upd w 5 (dstS w i)) i 3 = b2i ((zt (upd w 5 (dstS w i))).testBit i) from rfl, zt1]
    cases hb : (zt w).testBit i with
    | true =>
      refine wd_ite (fun _ => ?_) (fun z => absurd rfl z)
      refine wd_ite (fun z => absurd z (by decide)) (fun _ => ?_)
      refine wd_chk (e_isT HR.ob) (wd_bd3 (h_draw (N := N) HR H1.2.1.1 W1.lzs) ?_)
      rintro v2 h3 ⟨rfl, H3, K3, S3, M3, -⟩
      have e5 : upd w 5 (dstS w i) 5 = dstS w i := ud_s
      have e6 : dstS w (i + 1) = drwS (dstS w i) := by
        show (if (zt w).testBit i = true then drwS (dstS w i) else dstS w i) = _
        rw [if_pos hb]
      rw [e5, upd_twice] at H3
      rw [e5]
      have so : h3.2.1[o]? = some (100, 12, []) := by rw [S3, S1]; exact ho2
      have oT : o ≠ t := ne_of_tag so H3.ob (by decide)
      refine wd_bo (e_sA so (inb_nI (by omega) (by decide)) hge) ?_
      rw [nI_clamp (by omega)]
      have B3 : HLb lb t p (upd w 5 (drwS (dstS w i))) := H1.2.1.low (fun k hk => by rw [ud_n (by omega), ud_n (by omega)]) W1.lzs
      have l3 : lk h3 := by
        refine ⟨fun k hk => ?_, by rw [S3]; exact H1.2.2.1.2.1, by rw [S3]; exact H1.2.2.1.2.2.1, by rw [S3]; exact H1.2.2.1.2.2.2⟩
        have hk2 : k < h1.2.1.length := Nat.lt_of_lt_of_le hk (lk_len H1.2.2.1)
        have hk3 : (lb k).1 ≠ t := by
          rw [H1.2.2.2 k hk]
          have := HR.1.1
          omega
        rw [(K3.2.2 k hk2 hk3).2, K3.1]
        exact H1.2.2.1.1 k hk
      refine hX (zh w - (i + 1)) _ _ (by omega) ⟨i + 1, by omega, rfl, by rw [← nI_1], ⟨?_, ?_, lk_mset l3 hge, H1.2.2.2⟩, ?_, ?_, fun j hj hbj => ?_⟩
      · rw [e6]
        exact H3.mem1 B3 ho
      · rw [e6]; exact B3
      · refine (K1.tr (fun _ _ => rfl) K3).tr (fun _ _ => rfl) (kp_oth (by rw [ho]))
      · exact S3.trans S1
      · show mset h3.2.2 o i (valS (drwS (dstS w i))) o j = _
        by_cases e : j = i
        · subst e
          exact mset_at _ _ _ _
        · rw [mset_j e]
          rw [M3 o oT]
          exact D1 j (by omega) hbj
    | false =>
      refine wd_ite (fun z => absurd z (by decide)) (fun _ => ?_)
      have e6 : dstS w (i + 1) = dstS w i := by
        show (if (zt w).testBit i = true then drwS (dstS w i) else dstS w i) = _
        rw [if_neg (by rw [hb]; decide)]
      refine hX (zh w - (i + 1)) _ _ (by omega) ⟨i + 1, by omega, rfl, by rw [← nI_1], by rw [e6]; exact H1, K1, S1, fun j hj hbj => ?_⟩
      by_cases e : j = i
      · rw [e, hb] at hbj
        cases hbj
      · exact D1 j (by omega) hbj
end DRAWS
