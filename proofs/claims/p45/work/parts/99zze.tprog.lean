/-! the second text, whole -/
section TPROG
variable {h h' h1 h2 h3 h0 hb : DS} {N t B Bt At A2 P n c k j i z q a b u e m C S C' S' V cap d : Nat} {p : Plc} {w w' : Arr} {dl : Option (Nat → Int32)} {LN : List Lin} {lb lb' : Nat → Nat × Nat × Nat} {T H : List St3} {s s' : List Nat} {Q : Int32 → DS → Prop} {r : Nat → Nat} {v y a2 p3 hH x : Int32} {p5 : Nat} {K : DS → DA} {X : Int32 → DS → DA} {rs : List (Option Nat)} {R : List Rw4} {m1 m0 m5 : Mem} {oo : Option SE}
theorem heaV_c2 (hw : ∀ i, (i < 41 ∨ (44 ≤ i ∧ i < 153)) → w' i = w i) (hi : i < 12) (hc : c < 6) : heaV w' i c = heaV w i c := by
  match c, hc with
  | 0, _ => exact hw _ (by omega)
  | 1, _ => exact hw _ (by omega)
  | 2, _ => exact hw _ (by omega)
  | 3, _ =>
    show b2i ((zt w').testBit i) = b2i ((zt w).testBit i)
    unfold zt
    rw [hw 7 (by decide)]
  | 4, _ =>
    show b2i ((zv w').testBit i) = b2i ((zv w).testBit i)
    unfold zv
    rw [hw 8 (by decide)]
  | 5, _ => exact hw _ (by omega)
  | c + 6, hc => exact absurd hc (by omega)
theorem HouI.c3 (I : HouI h t w) (hz : zs w ≤ 16) (hm : ∀ j, j ≠ 14 → h'.2.2 t j = h.2.2 t j) (hw : ∀ i, (i < 42 ∨ (105 ≤ i ∧ i < 153)) → w' i = w i) (f14 : h'.2.2 t 14 = w' 43) : HouI h' t w' := by
  have ez : zs w' = zs w := by unfold zs; rw [hw 41 (by decide)]
  have hr : ∀ i, 105 ≤ i → i < 153 → w' i = w i := fun i h1 h2 => hw i (by omega)
  unfold HouI at I ⊢
  rw [hm 0 (by decide), hm 1 (by decide), hm 2 (by decide), hm 3 (by decide), hm 4 (by decide), hm 5 (by decide), hm 6 (by decide), hm 7 (by decide), hm 8 (by decide), hm 9 (by decide), hm 10 (by decide), hm 11 (by decide), hm 12 (by decide), hm 13 (by decide), f14, ez, lst_cg hz hr, lst_cg hz hr, dbl_cg hz (fun i hi => hw i (by omega)), hw 5 (by decide), hw 0 (by decide), hw 1 (by decide), hw 2 (by decide), hw 3 (by decide), hw 4 (by decide), hw 39 (by decide), hw 37 (by decide), hw 38 (by decide), hw 6 (by decide), hw 41 (by decide)]
  obtain ⟨g0, g1, g2, g3, g4, g5, g6, g7, g8, g9, g10, g11, g12, g13, g14⟩ := I
  exact ⟨g0, g1, g2, g3, g4, g5, g6, g7, g8, g9, g10, g11, g12, g13, rfl⟩
theorem hs_prog (HS0 : HS lb h0 t p w dl) (b : PB p) (W0 : WFc w) (F : FrT t h0 h') (kl' : lk h')
    (et : h'.2.1[t]? = some (12, 25, HSh p.1.1 p.1.2.1 p.1.2.2.1 p.1.2.2.2.1 A2 p.1.2.2.2.2.2.1 p.1.2.2.2.2.2.2)) (ef : h'.2.2 t = h0.2.2 t)
    (e42 : w' 42 = nI T.length) (hT : T.length ≤ 8) (RH : RwH h' A2 T.length 2 r T.length (rwF T)) (lA : h0.2.1.length ≤ A2) (lr : ∀ i, i < T.length → h0.2.1.length ≤ r i)
    (ew : ∀ i, i ≠ 42 → (i < 153 ∨ 185 ≤ i) → w' i = w i) (er : ∀ i x, T[i]? = some x → w' (153 + 2 * i) = nI x.2.1 ∧ w' (153 + 2 * i + 1) = nI x.2.2) :
    HS (exL lb h0.2.1.length) h' t ((p.1.1, p.1.2.1, p.1.2.2.1, p.1.2.2.2.1, A2, p.1.2.2.2.2.2), p.2.1, p.2.2.1, p.2.2.2.1, p.2.2.2.2.1, r) w' dl ∧ PB ((p.1.1, p.1.2.1, p.1.2.2.1, p.1.2.2.2.1, A2, p.1.2.2.2.2.2), p.2.1, p.2.2.1, p.2.2.2.1, p.2.2.2.2.1, r) := by
  have HE := HS0.re (lb' := exL lb h0.2.1.length) (fun c hc => exL_lt hc)
  obtain ⟨g1, g2, g3, g4, -, g6, g7⟩ := HE.1.frt HE.2.1 b HE.2.2.1 HE.2.2.2 F
  have t123 := HS0.1.1.1
  have lz := W0.lzh
  have l8 := W0.lzd
  have ls := W0.lzs
  have e37 : zh w' = zh w := by unfold zh; rw [ew 37 (by decide) (by decide)]
  have e38 : zd w' = zd w := by unfold zd; rw [ew 38 (by decide) (by decide)]
  have e6 : zb w' = zb w := by unfold zb; rw [ew 6 (by decide) (by decide)]
  have ep : zp w' = T.length := by unfold zp; rw [e42, nv_nI (by omega)]
  have eh : hnL w' = hnL w := hnL_cg (ew 41 (by decide) (by decide)) (fun i h1 h2 => ew i (by omega) (by omega)) ls
  refine ⟨⟨⟨⟨t123, et⟩, ?_, ?_, ?_, ?_, ?_, ?_, ?_, g7⟩, ?_, kl', HE.2.2.2⟩, b⟩
  · refine HS0.1.int.c3 ls (fun j _ => congrFun ef j) (fun i hi => ew i (by omega) (by omega)) ?_
    rw [ef, HS0.1.int.2.2.2.2.2.2.2.2.2.2.2.2.2.2]
    exact (ew 43 (by decide) (by decide)).symm
  · rw [e37]
    exact g1.mv rfl (fun i hi e he => ⟨he, rfl⟩) (fun i hi c hc => heaV_c2 (fun i hi => ew i (by omega) (by omega)) (by omega) hc)
  · rw [e38]
    refine g2.mv rfl (fun i hi e he => ⟨he, rfl⟩) (fun i hi c hc => ?_)
    unfold deeV
    rw [ew (81 + i) (by omega) (by omega), ew (89 + i) (by omega) (by omega), ew (97 + i) (by omega) (by omega), ew (21 + i) (by omega) (by omega), ew (29 + i) (by omega) (by omega)]
  · rw [e6]
    exact g3.mv rfl (fun i hi e he => ⟨he, rfl⟩) (fun i hi c hc => ew _ (by omega) (by omega))
  · rw [eh]
    refine g4.mv rfl (fun i hi e he => ⟨he, rfl⟩) (fun i hi c hc => ?_)
    have := hnL_mem hi
    exact ew _ (by omega) (by omega)
  · rw [ep]
    refine RH.mv rfl (fun i hi e he => ⟨he, rfl⟩) (fun i hi c hc => ?_)
    have e : T[i]? = some T[i] := List.getElem?_eq_getElem hi
    obtain ⟨a1, a2⟩ := er i _ e
    have g : T.getD i (0, 0, 0) = T[i] := by rw [List.getD_eq_getElem?_getD, e]; rfl
    unfold rwF
    rw [g]
    match c, hc with
    | 0, _ => exact a1
    | 1, _ => exact a2
    | c + 2, hc => exact absurd hc (by omega)
  · exact ⟨g6.1, fun k hk => (g6.2 k hk).trans (ew _ (by omega) (by omega)).symm⟩
  · obtain ⟨b0, b1, b2, b3, b4, b5, b6, b7, b8, b9, b10, b11, b12⟩ := HE.2.1
    unfold HLb
    rw [e37, e38, e6, ep, eh]
    exact ⟨b0, b1, b2, b3, b4, b5, b6, b7, fun i hi => exL_ge (lr i hi), b9, exL_ge lA, b11, b12⟩
theorem TxOk.two (h : TxOk 2 [] R m1 m5) : m5 123 4 = nI 0 ∧ m5 124 42 = nI R.length ∧ (∀ i, i ≠ 42 → (i < 153 ∨ 185 ≤ i) → m5 124 i = m1 124 i) ∧ ∀ i q, R[i]? = some q → m5 124 (153 + 2 * i) = q.2.1 ∧ m5 124 (153 + 2 * i + 1) = q.2.2.1 := by
  rcases h with h | h | h | h
  · exact absurd h.1 (by decide)
  · exact absurd h.1 (by decide)
  · exact h.2
  · exact absurd h.1 (by decide)
theorem t_prog (hN : 20000 ≤ N) (I : TI LN dl lb t p w h) (hn : csz h.2.1 + 2000 < 1000000) (hu : u ≤ 8) (hd1 : u ≠ 0 → 1 ≤ zd w)
    (hX : ∀ h', TxP LN dl lb t w 200 17000 h h' → Wd (bo (dI h' t 12 7) fun a_633 => if (2 : Int32) ≤ a_633 then (bd3 (g_L_between N (x >>> ((6 : Int32) &&& 31)) (0 : Int32) (14 : Int32) h') fun v_651 h_651 => g_L_texts_J654 N t x v_651 h_651) else (g_L_texts_J654 N t x (0 : Int32) h')) Q) :
    Wd (g_L_texts_J467 N t x (nI u) h) Q := by
  obtain ⟨HS0, bp, I0, ew, L, h16⟩ := I
  have W0 : WFc w := by rw [← ew]; exact I0.wf
  have lz := W0.lzh
  have l8 := W0.lzd
  have kl := HS0.2.2.1
  have eT := HS0.1.ob
  have t123 := HS0.1.1.1
  have tl := len_of eT
  have hI := HS0.1.int
  have e8 : h.2.2 t 8 = nI (zd w) := hI.2.2.2.2.2.2.2.2.1.trans W0.h38
  unfold g_L_texts_J467
  refine bl_new kl (by omega) (fun v1 h1 b1 => ?_)
  obtain ⟨b1f, b1k, b1l, ⟨V1, cap1, b1s, b1v⟩, b1c, b1z⟩ := b1
  obtain ⟨h2, n2, r2, f2, k2, c2, z2⟩ := rw_new (n := u) b1k (by omega) (by omega)
  refine wd_bo n2 ?_
  have F2 := b1f.tr f2
  have ft := F2.2.2 t tl
  have et2 := ft.1.trans eT
  have le1 := b1f.2.1
  have l12 : h1.2.1.length < h2.2.1.length := by
    have : csz h2.2.1 = h2.2.1.length := rfl
    have : csz h1.2.1 = h1.2.1.length := rfl
    omega
  obtain ⟨h3, n3, k3, F3, et3, m3, c3, z3⟩ := w_wR (j := 19) k2 et2 rfl t123 (by decide) (by decide) l12
  refine wd_bo n3 ?_
  have S3 : SbV h3 h.2.1.length V1 cap1 [] := (b1s.fre (f2.fre (E := fun _ => False)) id id).fre F3 (by omega) (by omega)
  have B3 : StB u (some (12, 25, (HSh p.1.1 p.1.2.1 p.1.2.2.1 p.1.2.2.2.1 p.1.2.2.2.2.1 p.1.2.2.2.2.2.1 p.1.2.2.2.2.2.2).set 19 (some h1.2.1.length))) h t h.2.1.length h1.2.1.length [] [] 5 50 h3 := by
    refine ⟨(F2.fre (E := fun c => c = t)).tr F3 (fun c _ hc => hc), k3, Nat.le_refl _, le1, ⟨V1, cap1, S3, b1v⟩, ⟨fun _ => 0, (r2 2 (fun _ => 0) (rwF [])).mv (F3.2.2 _ l12 (by omega)).1 (fun i hi => absurd hi (by omega)) (fun i hi => absurd hi (by omega)), fun i hi => absurd hi (by simp)⟩, et3, fun j _ => by rw [m3]; exact congrFun ft.2 j, by omega, by omega⟩
  have I3 : PgI h t h.2.1.length h1.2.1.length u (zd w) (some (12, 25, (HSh p.1.1 p.1.2.1 p.1.2.2.1 p.1.2.2.2.1 p.1.2.2.2.2.1 p.1.2.2.2.2.2.1 p.1.2.2.2.2.2.2).set 19 (some h1.2.1.length))) [] h3 := ⟨B3, by rw [m3]; exact ft.2, fun x hx => absurd hx (List.not_mem_nil), Nat.zero_le _⟩
  refine w_L488 hN l8 e8 t123 tl (by omega) rfl I3 hu hd1 (fun T h10 hT I10 => ?_)
  subst hT
  obtain ⟨B10, m10, o10, -⟩ := id I10
  obtain ⟨d1, d2, d3, d4, ⟨V10, cap10, d5, -⟩, ⟨r, d6, d7⟩, d8, d9, d10, d11⟩ := B10
  have hg : ∀ x, x ∈ T → Tel 2 (zh w) (nI (zd w) - nI 1) pgP pgR 22 x := fun x hx => tel_pg l8 (o10 x hx).1 (o10 x hx).2
  have hlen := I10.len l8
  refine ph_say (k := 2) (vv := nI T.length) (R := fun m5 => m5 123 16 = nI 0 ∧ ∃ m1 : Mem, m1 124 = h.1 124 ∧ TxOk 2 [] (T.map pgR) m1 m5) hN d5 (asc_all fun x hx => (hg x hx).2.2.2) d2 (by rw [d1.1]; exact I0) (by rw [d1.1]; exact h16) (by omega) (by omega) (fun m1 y1 y2 y3 y4 => ?_) (fun h11 k11 I11 F11 R11 c11 z11 => ?_)
  · rw [d1.1] at y1
    refine wp_mono (tell (k := 2) (hD := nI (zd w) - nI 1) hN (by decide) hg (by omega) (by omega) y3 y4 (by rw [y1, ew]; exact W0.h37) lz (by rw [y1, ew, W0.h38])) ?_
    rintro v m5 ⟨rfl, r1, r2⟩
    exact ⟨rfl, r1, m1, y1, r2⟩
  · rw [if_pos rfl]
    obtain ⟨q16, m1, y1, ok⟩ := R11
    obtain ⟨o1, o2, o3, o4⟩ := ok.two
    rw [y1, ew] at o3
    rw [List.length_map] at o2
    have g10 := F11.2 t (by
      have := d1.2.1
      omega)
    have F : FrT t h h11 := d1.frt.tr F11.frt
    have ef : h11.2.2 t = h.2.2 t := (g10.2 t123).trans m10
    obtain ⟨H11, P11⟩ := hs_prog (A2 := h1.2.1.length) (r := r) (T := T) HS0 bp W0 F k11 (g10.1.trans (d8.trans rfl)) ef o2 hu (d6.mv (F11.2 _ d6.la).1 (fun i hi e he => by
        have := F11.2 _ (len_of he)
        exact ⟨this.1.trans he, this.2 (by have := d7 i hi; omega)⟩) (fun _ _ _ _ => rfl)) d4 d7 o3 (fun i x hx => o4 i (pgR x) (by rw [List.getElem?_map, hx]; rfl))
    refine hX h11 ⟨exL lb h.2.1.length, _, h11.1 124, ⟨H11, P11, I11, rfl, ⟨L.1.cg (fun i hi => o3 i (by omega) (by omega)), L.2⟩, q16⟩, o1, o3 1 (by decide) (by decide), fun c hc => exL_lt hc, ⟨F.1, fun c hc hne => F.2 c hc (fun e => hne (by rw [e, HS0.2.1.1]))⟩, by omega, by omega⟩
end TPROG
