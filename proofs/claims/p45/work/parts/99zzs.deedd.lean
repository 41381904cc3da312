/-! all the deeds told -/
section DEEDD
variable {h h' h0 h1 h2 hb : DS} {N t u q k i j ai Lc C S d : Nat} {xs : Nat → Int32} {p : Plc} {w w' : Arr} {dl : Option (Nat → Int32)} {LN : List Lin} {lb lb' : Nat → Nat × Nat × Nat} {Q : Int32 → DS → Prop} {K : DS → DA} {X : Int32 → DS → DA} {x y a2 p4 : Int32} {m m3 : Mem}
theorem w_L428 (hN : 20000 ≤ N) (ea : a2 + (3 : Int32) = nI ai) (hai : ai < 2 ^ 31) (hL : Lc < 2 ^ 31) (I : HdP LN dl t w d 0 C S h0 h) (hu : u ≤ 8) (hn : csz h0.2.1 + C + 20 < 1000000) (hK : ∀ h', HdP LN dl t w d u (C + u) (S + 5 * u) h0 h' → Wd (K h') Q) :
    Wd (jt (fun Y a hz => g_L_house_L428 N Lc xs a2 t p4 (nI u) K Y a hz) N (0 : Int32) h) Q := by
  refine wd_jt (fun q a h' => ∃ i, i ≤ u ∧ q = u - i ∧ a = nI i ∧ HdP LN dl t w d i (C + i) (S + 5 * i) h0 h') ?_ N u _ _ (by omega) ⟨0, by omega, rfl, rfl, I⟩
  rintro qq X aa h1 ⟨i, hi, rfl, rfl, I1⟩ hX
  obtain ⟨lb, p, w1, ⟨HS1, bp, I0, ew, L, h16⟩, e4, ezh, ezd, ew1, c1, s1⟩ := id I1
  subst ezd
  have W0 : WFc w1 := by rw [← ew]; exact I0.wf
  unfold g_L_house_L428
  refine wd_ite (fun z => ?_) (fun z => ?_)
  · have z := (nI_leI (by omega) (by omega)).mp z
    have e : zd w1 = u := by omega
    rw [e] at I1
    exact hK h1 I1
  · have z : ¬ u ≤ zd w1 := fun y => z ((nI_leI (by omega) (by omega)).mpr y)
    have kl := HS1.2.2.1
    have et := HS1.1.ob
    have t123 := HS1.1.1.1
    have tl := len_of et
    refine wd_cell ea hai hL (fun yv => ?_)
    refine wd_bo (hs_dee HS1.1) ?_
    refine rb_new (k := 5) kl rfl (by decide) (by omega) (fun h2 R2 => ?_)
    refine wd_btw (lo := 0) (hi := 9) rfl rfl (by decide) (by decide) (fun a _ ha => ?_)
    refine rb_put kl R2 rfl (show 0 < 5 by decide) (by decide) (fun h3 R3 => ?_)
    refine wd_btw (lo := 1) (hi := 40) rfl rfl (by decide) (by decide) (fun b hb1 hb => ?_)
    refine rb_put kl R3 rfl (show 1 < 5 by decide) (by decide) (fun h4 R4 => ?_)
    refine wd_btw (lo := 0) (hi := 30) rfl rfl (by decide) (by decide) (fun c _ hc => ?_)
    refine rb_put kl R4 rfl (show 2 < 5 by decide) (by decide) (fun h5 R5 => ?_)
    refine rb_put kl R5 rfl (show 3 < 5 by decide) (by decide) (fun h6 R6 => ?_)
    refine rb_put kl R6 rfl (show 4 < 5 by decide) (by decide) (fun h8 R8 => ?_)
    obtain ⟨F8, k8, -, q8, v8, c8, z8⟩ := R8
    have h12 : zd w1 < 8 := by omega
    obtain ⟨W9, z1⟩ := newD_wf (c := c) W0 h12 ha hb1 (show b ≤ 60 by omega)
    have g123 : 123 ≤ p.1.2.1 := by
      rcases Nat.lt_or_ge p.1.2.1 123 with y | y
      · have := HS1.2.2.2 _ y
        rw [HS1.2.1.2.2.1] at this
        have : t = 0 := this
        omega
      · exact y
    have M8 : RwH h8 p.1.2.1 8 5 p.2.2.1 (zd w1) (deeV (newD w1 (nI a) (nI b) (nI c))) := (HS1.1.fra HS1.2.1 F8).dee.mv rfl (fun i hi e he => ⟨he, rfl⟩) (fun i hi j hj => deeV_old h12 hi hj)
    obtain ⟨h9, n9, R9, m9, mm9, l9, o9, kk9, s9⟩ := M8.put (i := zd w1) h12 (by decide) g123 q8 (fun j hj => (v8 j hj).trans (deeV_new h12 hj).symm)
    have k9 := kk9 k8
    refine wd_bo n9 ?_
    obtain ⟨⟨rm, em, -⟩, -⟩ := id M8
    have et8 := (F8.2.2 t tl).1.trans et
    have et9 := (o9 t (ne_of_tag et8 em (by decide))).trans et8
    refine wd_bo (e_nn ((e_dR et9 (by decide) (by decide)).trans rfl) : nn (dR h9 t 12 16) = some p.1.2.1) ?_
    refine wd_bo (rw_Q (i := zd w1) R9 (Nat.lt_succ_self _) (show 8 < 2 ^ 31 by decide)) (wd_bo (rw_A (i := zd w1) (k := 5) (c := 0) R9 (Nat.lt_succ_self _) (show 0 < 5 by decide) (by decide)) (wd_bo (rw_A (i := zd w1) (k := 5) (c := 1) R9 (Nat.lt_succ_self _) (show 1 < 5 by decide) (by decide)) (wd_bo (rw_A (i := zd w1) (k := 5) (c := 2) R9 (Nat.lt_succ_self _) (show 2 < 5 by decide) (by decide)) ?_)))
    rw [deeV_new h12 (by decide), deeV_new h12 (by decide), deeV_new h12 (by decide)]
    have e91 : h9.1 = h1.1 := m9.trans F8.1
    refine wd_chk (is11 k9) ?_
    refine wd_call (pr_deed hN) (pg_f_X11_deed (Gh.rf _)) (fun m => ps_f_X12_deed (Ag.rf m)) (by rw [e91]; exact I0) (fun v m1 m2 G e5 I2 => ?_)
    have em1 : m1 124 = w1 := by rw [G 124 (by decide), e91]; exact ew
    obtain ⟨m3, e6, x1, x2, x3⟩ := m_deed (N := N) (m := m1) (a := a) (b := b) (c := c) (by rw [em1]; exact W0) ha hb1 (by omega) (by omega) (by rw [em1]; exact h12)
    have e7 := Option.some.inj (e6.symm.trans e5)
    obtain rfl : nI (zd (m1 124)) = v := congrArg Prod.fst e7
    obtain rfl : m3 = m2 := congrArg Prod.snd e7
    rw [em1] at x1 ⊢
    rw [if_pos rfl]
    have ft9 : ∀ j, h9.2.2 t j = h1.2.2 t j := fun j => by rw [mm9]; exact congrFun (F8.2.2 t tl).2 j
    have ptt : (pat h9 m3).2.2 t = h9.2.2 t := pat_hi t123
    refine wd_bo (e_dI (h := pat h9 m3) et9 (by decide) (by decide)) ?_
    rw [ptt, ft9 8, HS1.1.int.2.2.2.2.2.2.2.2.1, W0.h38]
    refine wd_bo (e_wI (h := pat h9 m3) et9 (by decide) (by decide) t123) ?_
    have up : nI (zd w1) + (1 : Int32) = nI (zd w1 + 1) := nI_up _
    rw [up]
    have gR : ∀ i, i < zd w1 + 1 → 123 ≤ (if i = zd w1 then h1.2.1.length else p.2.2.1 i) := fun i hi => by
      split
      · exact lk_len kl
      · exact HS1.2.1.ge5 HS1.2.2.2 t123 (by omega)
    have k10 : lk ((pat h9 m3).1, (pat h9 m3).2.1, mset (pat h9 m3).2.2 t 8 (nI (zd w1 + 1))) := lk_mset (lk_pm k9) t123
    have H10 := hs_deed (h' := ((pat h9 m3).1, (pat h9 m3).2.1, mset (pat h9 m3).2.2 t 8 (nI (zd w1 + 1)))) (q := h1.2.1.length) HS1 bp W0 h12 ha hb1 (show b ≤ 60 by omega) (show c ≤ 99 by omega) k10 (lk_len kl) (fun c hc hne => (o9 c hne).trans (F8.2.2 c hc).1) (fun c hc hc2 hne => (mset_ne hne).trans ((pat_hi hc2).trans (by rw [mm9]; exact (F8.2.2 c hc).2))) (Nat.le_refl _) (mset_at _ _ _ _) (fun j hj => (mset_j hj).trans ((congrFun ptt j).trans (ft9 j))) (R9.mv rfl (fun i hi e he => ⟨he, by
      obtain ⟨⟨rs2, q1⟩, -⟩ := R9.2 i hi
      exact (mset_ne (ne_of_tag q1 et9 (by decide))).trans (pat_hi (gR i hi))⟩) (fun _ _ _ _ => rfl))
    refine hX (u - (zd w1 + 1)) _ _ (by omega) ⟨zd w1 + 1, by omega, rfl, rfl, _, _, _, ⟨H10, bp, I2, x1, ⟨L.1.cg (fun i hi => newD_o (by omega)), L.2⟩, ?_⟩, x2, ?_, z1, ?_, ?_, ?_⟩
    · show m3 123 16 = nI 0
      rw [x3, G 123 (by decide), e91]
      exact h16
    · rw [← ezh]
      unfold zh
      rw [newD_o (by omega)]
    · rw [← ew1]
      exact newD_o (by omega)
    · show csz h9.2.1 ≤ _
      have : csz h9.2.1 = csz h8.2.1 := l9
      omega
    · show ssz h9.2.1 ≤ _
      omega
end DEEDD
