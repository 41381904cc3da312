/-! all the hearers told -/
section HEARD
variable {h h' h0 h1 h2 hb : DS} {N t u q k i j ai Lc C S d : Nat} {xs : Nat → Int32} {p : Plc} {w w' : Arr} {dl : Option (Nat → Int32)} {LN : List Lin} {lb lb' : Nat → Nat × Nat × Nat} {Q : Int32 → DS → Prop} {K : DS → DA} {X : Int32 → DS → DA} {x y a2 p4 : Int32} {m m3 : Mem}
def HdP (LN : List Lin) (dl : Option (Nat → Int32)) (t : Nat) (w : Arr) (i d C S : Nat) (h h' : DS) : Prop := ∃ lb' p' w', TI LN dl lb' t p' w' h' ∧ h'.1 123 4 = nI 0 ∧ zh w' = i ∧ zd w' = d ∧ w' 1 = w 1 ∧ csz h'.2.1 ≤ csz h.2.1 + C ∧ ssz h'.2.1 ≤ ssz h.2.1 + S
theorem w_L273 (hN : 20000 ≤ N) (ea : a2 + (2 : Int32) = nI ai) (hai : ai < 2 ^ 31) (hL : Lc < 2 ^ 31) (I : HdP LN dl t w 0 d C S h0 h) (hu : u ≤ 12) (hn : csz h0.2.1 + C + 20 < 1000000) (hK : ∀ h', HdP LN dl t w u d (C + u) (S + 6 * u) h0 h' → Wd (K h') Q) :
    Wd (jt (fun Y a hz => g_L_house_L273 N Lc xs a2 t p4 (nI u) K Y a hz) N (0 : Int32) h) Q := by
  refine wd_jt (fun q a h' => ∃ i, i ≤ u ∧ q = u - i ∧ a = nI i ∧ HdP LN dl t w i d (C + i) (S + 6 * i) h0 h') ?_ N u _ _ (by omega) ⟨0, by omega, rfl, rfl, I⟩
  rintro qq X aa h1 ⟨i, hi, rfl, rfl, I1⟩ hX
  obtain ⟨lb, p, w1, ⟨HS1, bp, I0, ew, L, h16⟩, e4, ezh, ezd, ew1, c1, s1⟩ := id I1
  subst ezh
  have W0 : WFc w1 := by rw [← ew]; exact I0.wf
  unfold g_L_house_L273
  refine wd_ite (fun z => ?_) (fun z => ?_)
  · have z := (nI_leI (by omega) (by omega)).mp z
    have e : zh w1 = u := by omega
    rw [e] at I1
    exact hK h1 I1
  · have z : ¬ u ≤ zh w1 := fun y => z ((nI_leI (by omega) (by omega)).mpr y)
    have kl := HS1.2.2.1
    have et := HS1.1.ob
    have t123 := HS1.1.1.1
    have tl := len_of et
    refine wd_cell ea hai hL (fun yv => ?_)
    refine wd_bo (hs_man HS1.1) ?_
    refine rb_new (k := 6) kl rfl (by decide) (by omega) (fun h2 R2 => ?_)
    refine wd_btw (lo := 0) (hi := 9) rfl rfl (by decide) (by decide) (fun a _ ha => ?_)
    refine rb_put kl R2 rfl (show 0 < 6 by decide) (by decide) (fun h3 R3 => ?_)
    refine wd_btw (lo := 0) (hi := 9) rfl rfl (by decide) (by decide) (fun b _ hb => ?_)
    refine rb_put kl R3 rfl (show 1 < 6 by decide) (by decide) (fun h4 R4 => ?_)
    refine wd_btw (lo := 0) (hi := 9) rfl rfl (by decide) (by decide) (fun c _ hc => ?_)
    refine rb_put kl R4 rfl (show 2 < 6 by decide) (by decide) (fun h5 R5 => ?_)
    refine rb_put kl R5 rfl (show 3 < 6 by decide) (by decide) (fun h6 R6 => ?_)
    refine rb_put kl R6 rfl (show 4 < 6 by decide) (by decide) (fun h7 R7 => ?_)
    refine rb_put kl R7 rfl (show 5 < 6 by decide) (by decide) (fun h8 R8 => ?_)
    obtain ⟨F8, k8, -, q8, v8, c8, z8⟩ := R8
    have h12 : zh w1 < 12 := by omega
    obtain ⟨W9, z1, z2, z3⟩ := newH_wf W0 h12 ha hb hc
    have g123 : 123 ≤ p.1.1 := by
      rcases Nat.lt_or_ge p.1.1 123 with y | y
      · have := HS1.2.2.2 _ y
        rw [HS1.2.1.2.1] at this
        have : t = 0 := this
        omega
      · exact y
    have M8 : RwH h8 p.1.1 12 6 p.2.1 (zh w1) (heaV (newH w1 (nI a) (nI b) (nI c))) := (HS1.1.fra HS1.2.1 F8).man.mv rfl (fun i hi e he => ⟨he, rfl⟩) (fun i hi j hj => heaV_old W0 h12 ha hb hc hi hj)
    obtain ⟨h9, n9, R9, m9, mm9, l9, o9, kk9, s9⟩ := M8.put (i := zh w1) h12 (by decide) g123 q8 (fun j hj => (v8 j hj).trans (heaV_new W0 h12 ha hb hc hj).symm)
    have k9 := kk9 k8
    refine wd_bo n9 ?_
    obtain ⟨⟨rm, em, -⟩, -⟩ := id M8
    have et8 := (F8.2.2 t tl).1.trans et
    have et9 := (o9 t (ne_of_tag et8 em (by decide))).trans et8
    refine wd_bo (e_nn ((e_dR et9 (by decide) (by decide)).trans rfl) : nn (dR h9 t 12 15) = some p.1.1) ?_
    refine wd_bo (rw_Q (i := zh w1) R9 (Nat.lt_succ_self _) (show 12 < 2 ^ 31 by decide)) (wd_bo (rw_A (i := zh w1) (k := 6) (c := 0) R9 (Nat.lt_succ_self _) (show 0 < 6 by decide) (by decide)) (wd_bo (rw_A (i := zh w1) (k := 6) (c := 1) R9 (Nat.lt_succ_self _) (show 1 < 6 by decide) (by decide)) (wd_bo (rw_A (i := zh w1) (k := 6) (c := 2) R9 (Nat.lt_succ_self _) (show 2 < 6 by decide) (by decide)) ?_)))
    rw [heaV_new W0 h12 ha hb hc (by decide), heaV_new W0 h12 ha hb hc (by decide), heaV_new W0 h12 ha hb hc (by decide)]
    have e91 : h9.1 = h1.1 := m9.trans F8.1
    refine wd_chk (is11 k9) ?_
    refine wd_call (pr_hearer hN) (pg_f_X11_hearer (Gh.rf _)) (fun m => ps_f_X12_hearer (Ag.rf m)) (by rw [e91]; exact I0) (fun v m1 m2 G e5 I2 => ?_)
    have em1 : m1 124 = w1 := by rw [G 124 (by decide), e91]; exact ew
    obtain ⟨m3, e6, x1, x2, x3⟩ := m_hearer (N := N) (m := m1) (a := a) (b := b) (c := c) (by rw [em1]; exact W0) ha hb hc (by rw [em1]; exact h12)
    have e7 := Option.some.inj (e6.symm.trans e5)
    obtain rfl : nI (zh (m1 124)) = v := congrArg Prod.fst e7
    obtain rfl : m3 = m2 := congrArg Prod.snd e7
    rw [em1] at x1 ⊢
    rw [if_pos rfl]
    have ft9 : ∀ j, h9.2.2 t j = h1.2.2 t j := fun j => by rw [mm9]; exact congrFun (F8.2.2 t tl).2 j
    have ptt : (pat h9 m3).2.2 t = h9.2.2 t := pat_hi t123
    refine wd_bo (e_dI (h := pat h9 m3) et9 (by decide) (by decide)) ?_
    rw [ptt, ft9 7, HS1.1.int.2.2.2.2.2.2.2.1, W0.h37]
    refine wd_bo (e_wI (h := pat h9 m3) et9 (by decide) (by decide) t123) ?_
    have up : nI (zh w1) + (1 : Int32) = nI (zh w1 + 1) := nI_up _
    rw [up]
    have k10 : lk ((pat h9 m3).1, (pat h9 m3).2.1, mset (pat h9 m3).2.2 t 7 (nI (zh w1 + 1))) := lk_mset (lk_pm k9) t123
    have H10 := hs_hear (h' := ((pat h9 m3).1, (pat h9 m3).2.1, mset (pat h9 m3).2.2 t 7 (nI (zh w1 + 1)))) (q := h1.2.1.length) HS1 bp W0 h12 ha hb hc k10 (lk_len kl) (fun c hc hne => (o9 c hne).trans (F8.2.2 c hc).1) (fun c hc hc2 hne => (mset_ne hne).trans ((pat_hi hc2).trans (by rw [mm9]; exact (F8.2.2 c hc).2))) (Nat.le_refl _) (mset_at _ _ _ _) (fun j hj => (mset_j hj).trans ((congrFun ptt j).trans (ft9 j))) (R9.mv rfl (fun i hi e he => ⟨he, by
      obtain ⟨⟨rs2, q1⟩, -⟩ := R9.2 i hi
      exact (mset_ne (ne_of_tag q1 et9 (by decide))).trans (pat_hi (ge_of k9 q1 (by decide)))⟩) (fun _ _ _ _ => rfl))
    refine hX (u - (zh w1 + 1)) _ _ (by omega) ⟨zh w1 + 1, by omega, rfl, rfl, _, _, _, ⟨H10, bp, I2, x1, ⟨L.1.cg (fun i hi => newH_o (by omega)), L.2⟩, ?_⟩, x2, z1, ?_, ?_, ?_, ?_⟩
    · show m3 123 16 = nI 0
      rw [x3, G 123 (by decide), e91]
      exact h16
    · rw [← ezd]
      unfold zd
      rw [newH_o (by omega)]
    · rw [← ew1]
      exact newH_o (by omega)
    · show csz h9.2.1 ≤ _
      have : csz h9.2.1 = csz h8.2.1 := l9
      omega
    · show ssz h9.2.1 ≤ _
      omega
end HEARD
