/-! the third text, whole; all the texts -/
section TGAL
variable {h h' h1 h2 h3 h0 hb : DS} {N t B Bt At A3 P n c k j i z q a b u e m C S C' S' V cap d : Nat} {p : Plc} {w w' : Arr} {dl : Option (Nat → Int32)} {LN : List Lin} {lb lb' : Nat → Nat × Nat × Nat} {T H : List St3} {s s' : List Nat} {Q : Int32 → DS → Prop} {r : Nat → Nat} {v y a2 p3 hD x : Int32} {p5 : Nat} {K : DS → DA} {X : Int32 → DS → DA} {rs : List (Option Nat)} {R : List Rw4} {m1 m0 m5 : Mem} {oo : Option SE}
theorem hs_gal (HS0 : HS lb h0 t p w dl) (b : PB p) (W0 : WFc w) (F : FrT t h0 h') (kl' : lk h')
    (et : h'.2.1[t]? = some (12, 25, HSh p.1.1 p.1.2.1 p.1.2.2.1 p.1.2.2.2.1 p.1.2.2.2.2.1 A3 p.1.2.2.2.2.2.2)) (ef : ∀ j, j ≠ 14 → h'.2.2 t j = h0.2.2 t j) (f14 : h'.2.2 t 14 = w' 43)
    (eA : h'.2.1[A3]? = some (100, 12, rs)) (vA : ∀ k, k < 12 → h'.2.2 A3 k = w' (185 + k)) (lA : h0.2.1.length ≤ A3)
    (ew : ∀ i, i ≠ 43 → (i < 185 ∨ 197 ≤ i) → w' i = w i) :
    HS (exL lb h0.2.1.length) h' t ((p.1.1, p.1.2.1, p.1.2.2.1, p.1.2.2.2.1, p.1.2.2.2.2.1, A3, p.1.2.2.2.2.2.2), p.2.1, p.2.2.1, p.2.2.2.1, p.2.2.2.2.1, p.2.2.2.2.2) w' dl ∧ PB ((p.1.1, p.1.2.1, p.1.2.2.1, p.1.2.2.2.1, p.1.2.2.2.2.1, A3, p.1.2.2.2.2.2.2), p.2.1, p.2.2.1, p.2.2.2.1, p.2.2.2.2.1, p.2.2.2.2.2) := by
  have HE := HS0.re (lb' := exL lb h0.2.1.length) (fun c hc => exL_lt hc)
  obtain ⟨g1, g2, g3, g4, g5, -, g7⟩ := HE.1.frt HE.2.1 b HE.2.2.1 HE.2.2.2 F
  have t123 := HS0.1.1.1
  have tl := len_of HS0.1.ob
  have lz := W0.lzh
  have l8 := W0.lzd
  have ls := W0.lzs
  have lp := W0.lzp
  have e37 : zh w' = zh w := by unfold zh; rw [ew 37 (by decide) (by decide)]
  have e38 : zd w' = zd w := by unfold zd; rw [ew 38 (by decide) (by decide)]
  have e6 : zb w' = zb w := by unfold zb; rw [ew 6 (by decide) (by decide)]
  have ep : zp w' = zp w := by unfold zp; rw [ew 42 (by decide) (by decide)]
  have eh : hnL w' = hnL w := hnL_cg (ew 41 (by decide) (by decide)) (fun i h1 h2 => ew i (by omega) (by omega)) ls
  refine ⟨⟨⟨⟨t123, et⟩, ?_, ?_, ?_, ?_, ?_, ?_, ⟨⟨rs, eA⟩, vA⟩, g7⟩, ?_, kl', HE.2.2.2⟩, ⟨show 123 ≤ A3 by omega, b.2⟩⟩
  · exact HS0.1.int.c3 ls ef (fun i hi => ew i (by omega) (by omega)) f14
  · rw [e37]
    exact g1.mv rfl (fun i hi e he => ⟨he, rfl⟩) (fun i hi c hc => heaV_c2 (fun i hi => ew i (by omega) (by omega)) (by omega) hc)
  · rw [e38]
    refine g2.mv rfl (fun i hi e he => ⟨he, rfl⟩) (fun i hi c hc => ?_)
    unfold deeV
    rw [ew (81 + i) (by omega) (by omega), ew (89 + i) (by omega) (by omega), ew (97 + i) (by omega) (by omega), ew (21 + i) (by omega) (by omega), ew (29 + i) (by omega) (by omega)]
  · rw [e6]
    exact g3.mv rfl (fun i hi e he => ⟨he, rfl⟩) (fun i hi c hc => ew _ (by omega) (by omega))
  · rw [eh]
    refine g4.mv rfl (fun i hi e he => ⟨he, rfl⟩) (fun i hi c hc => ?_)
    have := hnL_mem hi
    exact ew _ (by omega) (by omega)
  · rw [ep]
    exact g5.mv rfl (fun i hi e he => ⟨he, rfl⟩) (fun i hi c hc => ew _ (by omega) (by omega))
  · obtain ⟨b0, b1, b2, b3, b4, b5, b6, b7, b8, b9, b10, b11, b12⟩ := HE.2.1
    unfold HLb
    rw [e37, e38, e6, ep, eh]
    exact ⟨b0, b1, b2, b3, b4, b5, b6, b7, b8, b9, b10, exL_ge lA, b12⟩
theorem TxOk.three (h : TxOk 3 [] R m1 m5) : m5 123 4 = nI 0 ∧ m5 124 43 = nI R.length ∧ (∀ i, i ≠ 43 → (i < 185 ∨ 197 ≤ i) → m5 124 i = m1 124 i) ∧ ∀ h, h < 12 → m5 124 (185 + h) = nI (gvR (rA R) (rD R) h R.length) := by
  rcases h with h | h | h | h
  · exact absurd h.1 (by decide)
  · exact absurd h.1 (by decide)
  · exact absurd h.1 (by decide)
  · exact h.2
theorem t_gal (hN : 20000 ≤ N) (I : TI LN dl lb t p w h) (hn : csz h.2.1 + 2000 < 1000000) (hu : u ≤ 14) (hz2 : u ≠ 0 → 2 ≤ zh w)
    (hX : ∀ h', TxP LN dl lb t w 250 25500 h h' → Q 1 h') : Wd (g_L_texts_J654 N t x (nI u) h) Q := by
  obtain ⟨HS0, bp, I0, ew, L, h16⟩ := I
  have W0 : WFc w := by rw [← ew]; exact I0.wf
  have lz := W0.lzh
  have kl := HS0.2.2.1
  have eT := HS0.1.ob
  have t123 := HS0.1.1.1
  have tl := len_of eT
  have hI := HS0.1.int
  have e7 : h.2.2 t 7 = nI (zh w) := hI.2.2.2.2.2.2.2.1.trans W0.h37
  unfold g_L_texts_J654
  refine bl_new kl (by omega) (fun v1 h1 b1 => ?_)
  obtain ⟨b1f, b1k, b1l, ⟨V1, cap1, b1s, b1v⟩, b1c, b1z⟩ := b1
  have n1 : csz h1.2.1 = h1.2.1.length := rfl
  refine wd_bo (e_nA (a := 12) (by decide) (by decide) (by omega)) ?_
  obtain ⟨h2, eb⟩ : ∃ hb, hb = grown h1 (100, (12 : Int32).toNatClampNeg, []) (fun _ => 0) := ⟨_, rfl⟩
  rw [← eb]
  have k2 : lk h2 := by rw [eb]; exact lk_gr b1k (by omega) (fun j q hq => by simp at hq)
  have hbn : h2.2.1[h1.2.1.length]? = some (100, 12, []) := by rw [eb]; exact gw_new
  have z2 : h2.2.2 h1.2.1.length = fun _ => 0 := by rw [eb, gw_mn]
  have f2 : FrA h1 h2 := ⟨by rw [eb]; rfl, by rw [eb, gw_len]; omega, fun c hc => by
    rw [eb]
    exact ⟨gw_old hc, gw_mo hc⟩⟩
  have c2 : csz h2.2.1 = csz h1.2.1 + 1 := by rw [eb]; exact gw_len
  have s2 : ssz h2.2.1 = ssz h1.2.1 + 12 := by rw [eb]; exact ssz_gr
  clear eb
  have F2 := b1f.tr f2
  have ft := F2.2.2 t tl
  have et2 := ft.1.trans eT
  have le1 := b1f.2.1
  have l12 := len_of hbn
  obtain ⟨h3, n3, k3, F3, et3, m3, c3, q3⟩ := w_wR (j := 20) k2 et2 rfl t123 (by decide) (by decide) l12
  refine wd_bo n3 ?_
  refine wd_bo (e_wI et3 (by decide) (by decide) t123) ?_
  obtain ⟨h4, e4⟩ : ∃ h4 : DS, h4 = (h3.1, h3.2.1, mset h3.2.2 t 14 (nI u)) := ⟨_, rfl⟩
  rw [← e4]
  have F4 : FrE (fun c => c = t) h3 h4 := by
    rw [e4]
    exact ⟨rfl, Nat.le_refl _, fun c _ hc => ⟨rfl, mset_ne hc⟩⟩
  have k4 : lk h4 := by rw [e4]; exact lk_mset k3 t123
  have s4 : h4.2.1 = h3.2.1 := by rw [e4]
  have m4 : ∀ j, j ≠ 14 → h4.2.2 t j = h.2.2 t j := fun j hj => by
    rw [e4]
    refine (mset_j hj).trans ?_
    rw [m3]
    exact congrFun ft.2 j
  have m14 : h4.2.2 t 14 = nI u := by rw [e4]; exact mset_at _ _ _ _
  have c4 : csz h4.2.1 = csz h3.2.1 := by rw [s4]
  have q4 : ssz h4.2.1 = ssz h3.2.1 := by rw [s4]
  have S4 : SbV h4 h.2.1.length V1 cap1 [] := ((b1s.fre (f2.fre (E := fun _ => False)) id id).fre F3 (by omega) (by omega)).fre F4 (by omega) (by omega)
  have fA3 := F3.2.2 h1.2.1.length l12 (by omega)
  have fA4 := F4.2.2 h1.2.1.length (by have := F3.2.1; omega) (by omega)
  have I4 : GaI h t h.2.1.length h1.2.1.length u (zh w) (some (12, 25, (HSh p.1.1 p.1.2.1 p.1.2.2.1 p.1.2.2.2.1 p.1.2.2.2.2.1 p.1.2.2.2.2.2.1 p.1.2.2.2.2.2.2).set 20 (some h1.2.1.length))) [] h4 := by
    refine ⟨((F2.fre (E := fun c => c = t)).tr F3 (fun c _ hc => hc)).tr F4 (fun c _ hc => hc), k4, Nat.le_refl _, le1, ⟨V1, cap1, S4, b1v⟩, fA4.1.trans (fA3.1.trans hbn), fun k hk => ?_, by rw [s4]; exact et3, m4, m14, ?_, ?_, fun x hx => absurd hx (List.not_mem_nil), Nat.zero_le _⟩
    · rw [fA4.2, fA3.2, z2]
      rfl
    · show csz h4.2.1 ≤ csz h.2.1 + 5
      omega
    · show ssz h4.2.1 ≤ ssz h.2.1 + 50
      omega
  clear e4
  refine w_L680 hN lz e7 t123 tl (by omega) rfl I4 hu hz2 (fun T h10 hT I10 => ?_)
  subst hT
  have hlen := I10.len lz
  obtain ⟨d1, d2, d3, d4, ⟨V10, cap10, d5, -⟩, d6, d7, d8, d9, d10, d11, d12, d13, -⟩ := I10
  have hg : ∀ x, x ∈ T → Tel 3 (zh w) (nI (zd w) - nI 1) gaP gaR 24 x := fun x hx => tel_ga lz (d13 x hx).1 (d13 x hx).2.1 (d13 x hx).2.2
  refine ph_say (k := 3) (vv := nI T.length) (R := fun m5 => m5 123 16 = nI 0 ∧ ∃ m1 : Mem, m1 124 = h.1 124 ∧ TxOk 3 [] (T.map gaR) m1 m5) hN d5 (asc_all fun x hx => (hg x hx).2.2.2) d2 (by rw [d1.1]; exact I0) (by rw [d1.1]; exact h16) (by omega) (by omega) (fun m1 y1 y2 y3 y4 => ?_) (fun h11 k11 I11 F11 R11 c11 z11 => ?_)
  · rw [d1.1] at y1
    refine wp_mono (tell (k := 3) (hD := nI (zd w) - nI 1) hN (by decide) hg (by omega) (by omega) y3 y4 (by rw [y1, ew]; exact W0.h37) lz (by rw [y1, ew, W0.h38])) ?_
    rintro v m5 ⟨rfl, r1, r2⟩
    exact ⟨rfl, r1, m1, y1, r2⟩
  · rw [if_pos rfl]
    obtain ⟨q16, m1, y1, ok⟩ := R11
    obtain ⟨o1, o2, o3, o4⟩ := ok.three
    rw [y1, ew] at o3
    rw [List.length_map] at o2 o4
    have le10 := d1.2.1
    have g10 := F11.2 t (by omega)
    have gA := F11.2 h1.2.1.length (len_of d6)
    have F : FrT t h h11 := d1.frt.tr F11.frt
    obtain ⟨H11, P11⟩ := hs_gal (A3 := h1.2.1.length) HS0 bp W0 F k11 (g10.1.trans (d8.trans rfl)) (fun j hj => (congrFun (g10.2 t123) j).trans (d9 j hj)) ((congrFun (g10.2 t123) 14).trans (d10.trans o2.symm)) (gA.1.trans d6) (fun k hk => (congrFun (gA.2 (by omega)) k).trans ((d7 k hk).trans (o4 k hk).symm)) le1 o3
    exact wd_ret (hX h11 ⟨exL lb h.2.1.length, _, h11.1 124, ⟨H11, P11, I11, rfl, ⟨L.1.cg (fun i hi => o3 i (by omega) (by omega)), L.2⟩, q16⟩, o1, o3 1 (by decide) (by decide), fun c hc => exL_lt hc, ⟨F.1, fun c hc hne => F.2 c hc (fun e => hne (by rw [e, HS0.2.1.1]))⟩, by omega, by omega⟩)
theorem KpL.tr {h h' h2 : DS} (a : KpL lb t h h') (hl : ∀ c, c < h.2.1.length → lb' c = lb c) (b : KpL lb' t h' h2) : KpL lb t h h2 := ⟨Nat.le_trans a.1 b.1, fun c hc hne => by
  have x := a.2 c hc hne
  have y := b.2 c (Nat.lt_of_lt_of_le hc a.1) (by rw [hl c hc]; exact hne)
  exact ⟨y.1.trans x.1, fun g => (y.2 g).trans (x.2 g)⟩⟩
theorem tx_ok (hN : 20000 ≤ N) : TxOK N LN dl := by
  intro lb t p w x h I ev hn
  refine t_stat hN I ev hn (fun h1 P1 => ?_)
  obtain ⟨lb1, p1, w1, I1, e1, v1, l1, K1, c1, s1⟩ := P1
  have W1 : WFc w1 := by
    have := I1.2.2.1.wf
    rw [I1.2.2.2.1] at this
    exact this
  have hI1 := I1.1.1.int
  have e8 : h1.2.2 t 8 = nI (zd w1) := hI1.2.2.2.2.2.2.2.2.1.trans W1.h38
  have J : ∀ u, u ≤ 8 → (u ≠ 0 → 1 ≤ zd w1) → Wd (g_L_texts_J467 N t x (nI u) h1) (fun v h' => v = 1 ∧ ∃ lb' p' w', TI LN dl lb' t p' w' h' ∧ h'.1 123 4 = nI 0 ∧ w' 1 = w 1 ∧ (∀ c, c < h.2.1.length → lb' c = lb c) ∧ KpL lb t h h' ∧ csz h'.2.1 ≤ csz h.2.1 + 1500 ∧ ssz h'.2.1 ≤ ssz h.2.1 + 60000) := by
    intro u hu hd
    refine t_prog hN I1 (by omega) hu hd (fun h2 P2 => ?_)
    obtain ⟨lb2, p2, w2, I2, e2, v2, l2, K2, c2, s2⟩ := P2
    have W2 : WFc w2 := by
      have := I2.2.2.1.wf
      rw [I2.2.2.2.1] at this
      exact this
    have hI2 := I2.1.1.int
    have e7 : h2.2.2 t 7 = nI (zh w2) := hI2.2.2.2.2.2.2.2.1.trans W2.h37
    have lz := W2.lzh
    have G : ∀ u, u ≤ 14 → (u ≠ 0 → 2 ≤ zh w2) → Wd (g_L_texts_J654 N t x (nI u) h2) (fun v h' => v = 1 ∧ ∃ lb' p' w', TI LN dl lb' t p' w' h' ∧ h'.1 123 4 = nI 0 ∧ w' 1 = w 1 ∧ (∀ c, c < h.2.1.length → lb' c = lb c) ∧ KpL lb t h h' ∧ csz h'.2.1 ≤ csz h.2.1 + 1500 ∧ ssz h'.2.1 ≤ ssz h.2.1 + 60000) := by
      intro u hu hz
      refine t_gal hN I2 (by omega) hu hz (fun h3 P3 => ?_)
      obtain ⟨lb3, p3, w3, I3, e3, v3, l3, K3, c3, s3⟩ := P3
      have L1 := K1.1
      have L2 := K2.1
      exact ⟨rfl, lb3, p3, w3, I3, e3, v3.trans (v2.trans v1), fun c hc => (l3 c (by omega)).trans ((l2 c (by omega)).trans (l1 c hc)), (K1.tr l1 K2).tr (fun c hc => (l2 c (by omega)).trans (l1 c hc)) K3, by omega, by omega⟩
    refine wd_bo (hs_I I2.1.1 (by decide) (by decide)) ?_
    rw [e7]
    refine wd_ite (fun y => ?_) (fun y => ?_)
    · have y := (nI_leI (a := 2) (by decide) (by omega)).mp y
      exact wd_btw (lo := 0) (hi := 14) rfl rfl (by decide) (by decide) (fun u _ hu => G u hu (fun _ => y))
    · exact G 0 (by decide) (fun y => absurd rfl y)
  refine wd_bo (hs_I I1.1.1 (by decide) (by decide)) ?_
  rw [e8]
  refine wd_ite (fun y => ?_) (fun y => ?_)
  · exact J 0 (by decide) (fun y => absurd rfl y)
  · have y : ¬ zd w1 = 0 := fun q => y (by rw [q]; rfl)
    exact wd_btw (lo := 0) (hi := 7) rfl rfl (by decide) (by decide) (fun u _ hu => J u (by omega) (fun _ => by omega))
end TGAL
