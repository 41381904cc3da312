/-! a House made and told -/
section HOUSEW
variable {h : DS} {N a0 Lc : Nat} {xs : Nat → Int32} {Q : Int32 → DS → Prop} {a2 : Int32}
theorem h_house (hN : 20000 ≤ N) (kl : lk h) (hI : Inv h.1) (W : W00 (h.1 124)) (w40 : h.1 124 40 = nI 0) (h16 : h.1 123 16 = nI 0) (h4 : h.1 123 4 = nI 0) (ea : a2 = nI a0) (ha : a0 ≤ 1000) (hL : Lc < 2 ^ 31) (hn : csz h.2.1 + 6000 < 1000000)
    (hQ : ∀ LN dl lb p w' h', LawD LN dl → TI LN dl lb h.2.1.length p w' h' → h'.1 123 4 = nI 0 → w' 1 = nI 0 → csz h'.2.1 ≤ csz h.2.1 + 1700 → ssz h'.2.1 ≤ ssz h.2.1 + 72000 → Q (nI h.2.1.length) h') :
    Wd (g_L_house N Lc xs a2 h) Q := by
  obtain ⟨h0, h1, n0, i1, H1, b1, F1, c1, s1⟩ := hs_fresh (N := N) kl W (by omega)
  have k1 := H1.2.2.1
  have ea1 : a2 + (1 : Int32) = nI (a0 + 1) := by rw [ea]; exact nI_add a0 1
  have zz : nv (nI 0) = 0 := nv_nI (by decide)
  have z37 : zh (h.1 124) = 0 := by unfold zh; rw [W.1 37 (by decide) (by decide)]; exact zz
  have z38 : zd (h.1 124) = 0 := by unfold zd; rw [W.1 38 (by decide) (by decide)]; exact zz
  have z1 := W.1 1 (by decide) (by decide)
  unfold g_L_house
  refine wd_bo n0 ?_
  rw [i1, e_bd3]
  refine wd_cell ea (by omega) hL (fun y1 => ?_)
  refine wd_cell ea1 (by omega) hL (fun y2 => ?_)
  refine rb_new (k := 7) k1 rfl (by decide) (by omega) (fun h2 R => ?_)
  refine wd_btw (lo := 0) (hi := 4) rfl rfl (by decide) (by decide) (fun n0 _ g0 => ?_)
  refine rb_put k1 R rfl (show 0 < 7 by decide) (by decide) (fun h2 R => ?_)
  refine wd_btw (lo := 0) (hi := 4) rfl rfl (by decide) (by decide) (fun n1 _ g1 => ?_)
  refine rb_put k1 R rfl (show 1 < 7 by decide) (by decide) (fun h2 R => ?_)
  refine wd_btw (lo := 0) (hi := 9) rfl rfl (by decide) (by decide) (fun n2 _ g2 => ?_)
  refine rb_put k1 R rfl (show 2 < 7 by decide) (by decide) (fun h2 R => ?_)
  refine wd_btw (lo := 0) (hi := 7) rfl rfl (by decide) (by decide) (fun n3 _ g3 => ?_)
  refine rb_put k1 R rfl (show 3 < 7 by decide) (by decide) (fun h2 R => ?_)
  refine wd_btw (lo := 3) (hi := 9) rfl rfl (by decide) (by decide) (fun n4 _ g4 => ?_)
  refine rb_put k1 R rfl (show 4 < 7 by decide) (by decide) (fun h2 R => ?_)
  refine wd_btw (lo := 300) (hi := 950) rfl rfl (by decide) (by decide) (fun n5 _ g5 => ?_)
  refine rb_put k1 R rfl (show 5 < 7 by decide) (by decide) (fun h2 R => ?_)
  refine wd_btw (lo := 200) (hi := 700) rfl rfl (by decide) (by decide) (fun n6 _ g6 => ?_)
  refine rb_put k1 R rfl (show 6 < 7 by decide) (by decide) (fun h2 R => ?_)
  obtain ⟨F2, k2, -, q2, v2, c2, s2⟩ := R
  have H2 : HS (lab0 h.2.1.length) h2 h.2.1.length (plc0 h.2.1.length) (h.1 124) none := ⟨H1.1.fra H1.2.1 F2, H1.2.1, k2, H1.2.2.2⟩
  have e2 : h2.1 = h.1 := F2.1.trans F1.1
  have l1 : h1.2.1.length = h.2.1.length + 7 := c1
  refine wd_ite (fun _ => ?_) (fun _ => ?_)
  · refine w_J258 (LN := []) hN ea ha hL ⟨H2, b1, by rw [e2]; exact hI, by rw [e2], ⟨⟨w40, Nat.zero_le _, fun i l hl => by simp at hl⟩, Nat.zero_le _, fun l hl => absurd hl List.not_mem_nil⟩, by rw [e2]; exact h16⟩ (by rw [e2]; exact h4) z37 z38 z1 (by omega) (fun lb p w' h' J1 J2 J3 J4 J5 => ?_)
    have q1 : csz h'.2.1 ≤ csz h.2.1 + 1700 := by omega
    have q3 : ssz h'.2.1 ≤ ssz h.2.1 + 72000 := by omega
    exact hQ [] none lb p w' h' rfl J1 J2 J3 q1 q3
  · refine h_lawt (n := fun j => [n0, n1, n2, n3, n4, n5, n6].getD j 0) (F := fun v h_248 => if v = (6 : Int32) then (g_L_house_J258 N Lc xs a2 h.2.1.length y1 h_248) else (some (-1, h_248))) hN H2 b1 (by rw [e2]; exact hI) (by rw [e2]) (by rw [e2]; exact h16) (by rw [e2]; exact h4) q2 (lk_len k1) ?_ (fun j hj => ?_) (fun j hj => ?_) (by omega) (fun LN h3 D T3 u4 uw FT c3 s3 => ?_)
    · unfold lab0
      rw [if_neg (by omega), if_neg (by omega), if_neg (by omega), if_neg (by omega)]
    · refine (v2 j hj).trans ?_
      match j, hj with
      | 0, _ => rfl
      | 1, _ => rfl
      | 2, _ => rfl
      | 3, _ => rfl
      | 4, _ => rfl
      | 5, _ => rfl
      | 6, _ => rfl
      | j + 7, hj => exact absurd hj (by omega)
    · match j, hj with
      | 0, _ => exact (show n0 < 10000 by omega)
      | 1, _ => exact (show n1 < 10000 by omega)
      | 2, _ => exact (show n2 < 10000 by omega)
      | 3, _ => exact (show n3 < 10000 by omega)
      | 4, _ => exact (show n4 < 10000 by omega)
      | 5, _ => exact (show n5 < 10000 by omega)
      | 6, _ => exact (show n6 < 10000 by omega)
      | j + 7, hj => exact absurd hj (by omega)
    · rw [if_pos (show nI 6 = (6 : Int32) from rfl)]
      refine w_J258 hN ea ha hL T3 u4 (by unfold zh; rw [uw 37 (by decide) (by decide)]; exact z37) (by unfold zd; rw [uw 38 (by decide) (by decide)]; exact z38) ((uw 1 (by decide) (by decide)).trans z1) (by omega) (fun lb p w' h' J1 J2 J3 J4 J5 => ?_)
      have q1 : csz h'.2.1 ≤ csz h.2.1 + 1700 := by omega
      have q3 : ssz h'.2.1 ≤ ssz h.2.1 + 72000 := by omega
      exact hQ LN _ lb p w' h' D J1 J2 J3 q1 q3
end HOUSEW
