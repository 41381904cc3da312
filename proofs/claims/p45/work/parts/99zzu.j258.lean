/-! hearers, deeds and the rest of a House told -/
section J258
variable {h h' h0 : DS} {N t a0 Lc : Nat} {xs : Nat → Int32} {p : Plc} {w : Arr} {dl : Option (Nat → Int32)} {LN : List Lin} {lb : Nat → Nat × Nat × Nat} {Q : Int32 → DS → Prop} {x4 a2 : Int32}
theorem w_J258 (hN : 20000 ≤ N) (ea : a2 = nI a0) (ha : a0 ≤ 1000) (hL : Lc < 2 ^ 31) (I : TI LN dl lb t p w h) (e4 : h.1 123 4 = nI 0) (ez : zh w = 0) (ed : zd w = 0) (ev : w 1 = nI 0) (hn : csz h.2.1 + 5000 < 1000000)
    (hQ : ∀ lb p w' h', TI LN dl lb t p w' h' → h'.1 123 4 = nI 0 → w' 1 = nI 0 → csz h'.2.1 ≤ csz h.2.1 + 1600 → ssz h'.2.1 ≤ ssz h.2.1 + 61000 → Q (nI t) h') :
    Wd (g_L_house_J258 N Lc xs a2 t x4 h) Q := by
  subst ea
  have e2 : nI a0 + (2 : Int32) = nI (a0 + 2) := nI_add a0 2
  have e3 : nI a0 + (3 : Int32) = nI (a0 + 3) := nI_add a0 3
  have e4' : nI a0 + (4 : Int32) = nI (a0 + 4) := nI_add a0 4
  have e5 : nI a0 + (5 : Int32) = nI (a0 + 5) := nI_add a0 5
  unfold g_L_house_J258
  refine wd_btw (lo := 0) (hi := 12) rfl rfl (by decide) (by decide) (fun u _ hu => ?_)
  refine w_L273 (h0 := h) (d := 0) (C := 0) (S := 0) hN e2 (by omega) hL ⟨lb, p, w, I, e4, ez, ed, rfl, Nat.le_refl _, Nat.le_refl _⟩ hu (by omega) (fun h1 I1 => ?_)
  refine wd_btw (lo := 0) (hi := 8) rfl rfl (by decide) (by decide) (fun u2 _ hu2 => ?_)
  refine w_L428 (h0 := h) (d := u) hN e3 (by omega) hL I1 hu2 (by omega) (fun h2 I2 => ?_)
  have l1 : 0 + u + u2 + 1500 ≤ 1600 := by omega
  have l2 : 0 + 6 * u + 5 * u2 + 60000 ≤ 61000 := by omega
  exact w_coda hN e4' e5 (by omega) (by omega) hL I2 ev (by omega) (fun lb p w' h' J1 J2 J3 J4 J5 => hQ lb p w' h' J1 J2 J3 (Nat.le_trans J4 (Nat.add_le_add_left l1 _)) (Nat.le_trans J5 (Nat.add_le_add_left l2 _)))
end J258
