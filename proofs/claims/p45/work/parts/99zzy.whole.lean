/-! the whole law, from `new Encores()` on -/
section LAWF
variable {h h' : DS} {N t Lc : Nat} {xs : Nat → Int32} {p : Plc} {w : Arr} {dl : Option (Nat → Int32)} {LN : List Lin} {lb : Nat → Nat × Nat × Nat} {Q : Int32 → DS → Prop} {m : Mem} {c0 s0 : Nat}
theorem onn_s {r : Nat} {u : DA} {f : Nat → DA} : onn (some r) u f = f r := rfl
theorem ov_nI {r : Nat} (h : r < 2 ^ 31) : ov (nI r) = some r := by
  unfold ov
  rw [if_neg (show ¬ nI r = -1 from nI_no1 h), nI_clamp h]
theorem h_law (hN : 20000 ≤ N) (kl : lk h) (hI : Inv h.1) (W : W00 (h.1 124)) (w40 : h.1 124 40 = nI 0) (h16 : h.1 123 16 = nI 0) (h4 : h.1 123 4 = nI 0) (hL : Lc < 2 ^ 31) (hn : csz h.2.1 + 90000 < 1000000) :
    Wd (g_L_law N Lc xs h) (fun v h' => v = 1 ∧ csz h'.2.1 ≤ csz h.2.1 + 73000 ∧ ssz h'.2.1 ≤ ssz h.2.1 + 1440000) := by
  rw [g_law_eq]
  refine wd_bd3 (R := fun v h1 => ∃ LN dl lb p w, v = nI h.2.1.length ∧ LawD LN dl ∧ TI LN dl lb h.2.1.length p w h1 ∧ h1.1 123 4 = nI 0 ∧ w 1 = nI 0 ∧ csz h1.2.1 ≤ csz h.2.1 + 1700 ∧ ssz h1.2.1 ≤ ssz h.2.1 + 72000) (h_house hN kl hI W w40 h16 h4 (a0 := 0) rfl (by decide) hL (by omega) (fun LN dl lb p w' h' D T e4 e1 c s => ⟨LN, dl, lb, p, w', rfl, D, T, e4, e1, c, s⟩)) ?_
  rintro v h1 ⟨LN, dl, lb, p, w, rfl, hD, ⟨H, bp, i1, ew, L, tp⟩, e4, ew1, c1, s1⟩
  have tl := len_of H.1.ob
  have hl0 : h.2.1.length < 1000000 := kl.2.2.2
  refine wd_bnd ?_
  rw [ov_nI (show h.2.1.length < 2 ^ 31 by omega), onn_s]
  refine wd_chk (e_isT H.1.ob) (wd_bd3 (h_same hN H i1 ew L hD bp (by omega)) ?_)
  rintro v2 h2 ⟨rfl, k2, i2, q2, F2, c2, s2⟩
  rw [if_neg (show ¬ (1 : Int32) = 0 by decide)]
  have H2 : HS lb h2 h.2.1.length p w dl := ⟨H.1.frl H.2.1 bp H.2.2.1 H.2.2.2 F2, H.2.1, k2, H.2.2.2⟩
  have n2 : csz h2.2.1 + 1 < 1000000 := by omega
  refine wd_bo (e_nQ (t := 104) (a := 6) (by decide) (by decide) n2) ?_
  obtain ⟨h3, e3⟩ : ∃ h3, h3 = grown h2 (104, (6 : Int32).toNatClampNeg, List.replicate (6 : Int32).toNatClampNeg none) (fun _ => 0) := ⟨_, rfl⟩
  rw [← e3]
  have F3 : FrA h2 h3 := by rw [e3]; exact ⟨rfl, by rw [gw_len]; omega, fun c hc => ⟨gw_old hc, gw_mo hc⟩⟩
  have k3 : lk h3 := by
    rw [e3]
    refine lk_gr k2 n2 (fun j q hq => ?_)
    dsimp only at hq
    rw [List.getD_eq_getElem?_getD, List.getElem?_replicate] at hq
    split at hq <;> cases hq
  have u3 : h3.2.1[h2.2.1.length]? = some (104, 6, List.replicate 6 none) := by rw [e3]; exact gw_new
  have c3 : csz h3.2.1 = csz h2.2.1 + 1 := by rw [e3]; exact gw_len
  have s3 : ssz h3.2.1 = ssz h2.2.1 + 6 := by rw [e3]; exact ssz_gr
  have m3 : h3.1 = h2.1 := F3.1
  have g2 : 123 ≤ h2.2.1.length := lk_len k2
  have H3 : HS (fun c => if c = h2.2.1.length then (0, 0, 0) else lb c) h3 h.2.1.length p w dl := by
    have H' : HS (fun c => if c = h2.2.1.length then (0, 0, 0) else lb c) h2 h.2.1.length p w dl := H2.re (fun c hc => if_neg (by omega))
    exact ⟨H'.1.fra H'.2.1 F3, H'.2.1, k3, H'.2.2.2⟩
  have I3 : WI LN dl 0 h2.2.1.length (fun c => if c = h2.2.1.length then (0, 0, 0) else lb c) h.2.1.length p w 0 (fun _ => 0) (fun _ => p) (fun _ => w) h3 := by
    refine ⟨H3, bp, by rw [m3]; exact i2, by rw [m3, q2 124 (by decide) (by decide) (by decide)]; exact ew, L, PaM.zero (by rw [m3, q2 123 (by decide) (by decide) (by decide)]; exact e4), ⟨by omega, fun i hi => absurd hi (by omega)⟩, by rw [m3, q2 123 (by decide) (by decide) (by decide)]; exact tp,
      ⟨⟨_, u3, List.length_replicate, fun i hi => absurd hi (by omega)⟩, g2, ?_, fun i hi => absurd hi (by omega)⟩, ⟨0, ew1, Nat.le_refl _⟩, fun i hi => absurd hi (by omega)⟩
    show (if h2.2.1.length = h2.2.1.length then ((0, 0, 0) : Nat × Nat × Nat) else lb _).1 = 0
    rw [if_pos rfl]
  refine wd_jt (fun n a hz => ∃ r k, r ≤ 22 ∧ n = 22 - r ∧ a.2.1 = nI k ∧ a.2.2 = nI r ∧ RE LN dl (3 * r) h2.2.1.length (csz h3.2.1 + 3200 * r) (ssz h3.2.1 + 62000 * r) a.1 k hz) ?_ N 22 _ _ (by omega) ⟨0, 0, by omega, rfl, rfl, rfl, _, _, _, _, _, _, I3, Nat.le_refl _, Nat.le_refl _⟩
  rintro n X ⟨t', s4, s5⟩ hz ⟨r, k, r22, en, ek, er, lb', p', w', T, Pp, f, I, cc, ss⟩ hX
  dsimp only at ek er I
  subst ek er
  by_cases e22 : r = 22
  · subst e22
    show Wd (g_L_law_L41 N Lc xs _ _ X t' (nI k) (nI 22) hz) _
    unfold g_L_law_L41
    rw [if_pos (show (22 : Int32) ≤ nI 22 from by decide)]
    refine wd_mono (w_lawend hN hD ⟨I.1, I.2.1, I.2.2.1, I.2.2.2.1, I.2.2.2.2.1, I.2.2.2.2.2.2.2.1⟩ (by omega)) ?_
    rintro v h' ⟨e, c, s⟩
    exact ⟨e, by omega, by omega⟩
  · have q0 : csz hz.2.1 + 8000 < 1000000 := by omega
    exact r_L41 hN hD (tx_ok hN) hL I (by omega) (by omega) q0 (fun t2 k2 h2' R => hX (22 - (r + 1)) (t2, nI k2, nI r + 1) h2' (by omega) ⟨r + 1, k2, by omega, rfl, rfl, nI_up r, R.up (by omega) (by omega) (by omega)⟩)
end LAWF
