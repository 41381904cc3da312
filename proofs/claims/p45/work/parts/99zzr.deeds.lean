/-! the deeds told -/
section DEEDS
variable {h h' h0 h1 h2 hb : DS} {N t u q k i j ai Lc C S : Nat} {a b c : Nat} {xs : Nat → Int32} {p : Plc} {w w' : Arr} {dl : Option (Nat → Int32)} {LN : List Lin} {lb lb' : Nat → Nat × Nat × Nat} {Q : Int32 → DS → Prop} {K : DS → DA} {X : Int32 → DS → DA} {x y a2 p4 : Int32} {vs : List Int32} {f : DS → DA} {m m3 : Mem}
theorem deeV_new (h8 : zd w < 8) {j : Nat} (hj : j < 5) : deeV (newD w (nI a) (nI b) (nI c)) (zd w) j = [nI a, nI b, nI c, 0, 0].getD j 0 := by
  match j, hj with
  | 0, _ =>
    show newD w (nI a) (nI b) (nI c) (81 + zd w) = nI a
    unfold newD
    rw [ud_n (by omega), ud_n (by omega), ud_n (by omega), ud_n (by omega), ud_n (by omega), ud_s]
  | 1, _ =>
    show newD w (nI a) (nI b) (nI c) (89 + zd w) = nI b
    unfold newD
    rw [ud_n (by omega), ud_n (by omega), ud_n (by omega), ud_n (by omega), ud_s]
  | 2, _ =>
    show newD w (nI a) (nI b) (nI c) (97 + zd w) = nI c
    unfold newD
    rw [ud_n (by omega), ud_n (by omega), ud_n (by omega), ud_s]
  | 3, _ =>
    show newD w (nI a) (nI b) (nI c) (21 + zd w) = 0
    unfold newD
    rw [ud_n (by omega), ud_n (by omega), ud_s]
    rfl
  | 4, _ =>
    show newD w (nI a) (nI b) (nI c) (29 + zd w) = 0
    unfold newD
    rw [ud_n (by omega), ud_s]
    rfl
  | j + 5, hj => exact absurd hj (by omega)
theorem deeV_old (h8 : zd w < 8) (hi : i < zd w) {j : Nat} (hj : j < 5) : deeV (newD w (nI a) (nI b) (nI c)) i j = deeV w i j := by
  unfold deeV
  rw [newD_o (i := 81 + i) (by omega), newD_o (i := 89 + i) (by omega), newD_o (i := 97 + i) (by omega), newD_o (i := 21 + i) (by omega), newD_o (i := 29 + i) (by omega)]
/-- the House with one deed more -/
theorem hs_deed (H : HS lb h t p w dl) (bp : PB p) (W0 : WFc w) (h12 : zd w < 8) (ha : a ≤ 9) (hb1 : 1 ≤ b) (hb : b ≤ 60) (hc : c ≤ 99) (kl' : lk h') (q123 : 123 ≤ q)
    (hS : ∀ c, c < h.2.1.length → c ≠ p.1.2.1 → h'.2.1[c]? = h.2.1[c]?) (hM : ∀ c, c < h.2.1.length → 123 ≤ c → c ≠ t → h'.2.2 c = h.2.2 c) (ql : h.2.1.length ≤ q)
    (e7 : h'.2.2 t 8 = nI (zd w + 1)) (eo : ∀ j, j ≠ 8 → h'.2.2 t j = h.2.2 t j)
    (RM : RwH h' p.1.2.1 8 5 (fun j => if j = zd w then q else p.2.2.1 j) (zd w + 1) (deeV (newD w (nI a) (nI b) (nI c)))) :
    HS (fun x => if x = q then (t, 5, zd w) else lb x) h' t (p.1, p.2.1, (fun j => if j = zd w then q else p.2.2.1 j), p.2.2.2) (newD w (nI a) (nI b) (nI c)) dl := by
  obtain ⟨⟨⟨a1, a2⟩, aI, am, ad, al, ah, ap, ⟨⟨rs, ab⟩, ab2⟩, aw⟩, B, kl, h0⟩ := id H
  obtain ⟨b0, b1, b2, b3, b4, b5, b6, b7, b8, b9, b10, b11, b12⟩ := id B
  obtain ⟨W1, z1⟩ := newD_wf (c := c) W0 h12 ha hb1 hb
  have ls := W0.lzs
  have lz := W0.lzh
  have l8 := W0.lzd
  have o : ∀ i, (i < 21 ∨ i = 37 ∨ 39 ≤ i ∧ i < 81 ∨ 105 ≤ i) → newD w (nI a) (nI b) (nI c) i = w i := fun i hi => newD_o (by omega)
  have tl := len_of a2
  have e37 : zh (newD w (nI a) (nI b) (nI c)) = zh w := by unfold zh; rw [o 37 (by decide)]
  have e6 : zb (newD w (nI a) (nI b) (nI c)) = zb w := by rw [show zb (newD w (nI a) (nI b) (nI c)) = nv (newD w (nI a) (nI b) (nI c) 6) from rfl, o 6 (by decide)]; rfl
  have ep : zp (newD w (nI a) (nI b) (nI c)) = zp w := by unfold zp; rw [o 42 (by decide)]
  have ez : zs (newD w (nI a) (nI b) (nI c)) = zs w := by unfold zs; rw [o 41 (by decide)]
  have eh : hnL (newD w (nI a) (nI b) (nI c)) = hnL w := hnL_cg (o 41 (by decide)) (fun i h1 h2 => o i (by omega)) ls
  have hr : ∀ i, 105 ≤ i → i < 153 → newD w (nI a) (nI b) (nI c) i = w i := fun i h1 h2 => o i (by omega)
  have lbm := b1
  obtain ⟨⟨rm, em, -⟩, -⟩ := id ad
  have t0 : t ≠ 0 := by omega
  have nD : p.1.1 ≠ p.1.2.1 := fun e => by rw [e, b2] at b1; cases b1
  have nL : p.1.2.2.1 ≠ p.1.2.1 := fun e => by rw [e, b2] at b3; cases b3
  have nH : p.1.2.2.2.1 ≠ p.1.2.1 := fun e => by rw [e, b2] at b9; exact t0 b9
  have nP : p.1.2.2.2.2.1 ≠ p.1.2.1 := fun e => by rw [e, b2] at b10; exact t0 b10
  have mv : ∀ {A n k z : Nat} {r : Nat → Nat} {f g : Nat → Nat → Int32}, RwH h A n k r z f → A ≠ p.1.2.1 → (∀ i, i < z → 123 ≤ r i) → (∀ i, i < z → ∀ c, c < k → g i c = f i c) → RwH h' A n k r z g := fun R hA hr hf => by
    refine R.mv (hS _ R.la hA) (fun i hi e he => ?_) hf
    obtain ⟨⟨rs2, q1⟩, -⟩ := R.2 i hi
    rw [q1] at he
    cases he
    exact ⟨(hS _ (len_of q1) (ne_of_tag q1 em (by decide))).trans q1, hM _ (len_of q1) (hr i hi) (ne_of_tag q1 a2 (by decide))⟩
  have gk : ∀ {A n k z : Nat} {r : Nat → Nat} {f : Nat → Nat → Int32}, RwH h A n k r z f → (k = 4 ∨ k = 2 ∨ k = 6) → ∀ i, i < z → 123 ≤ r i := fun R hk i hi => by
    obtain ⟨⟨rs2, q1⟩, -⟩ := R.2 i hi
    exact ge_of kl q1 hk
  have lbo : ∀ {x : Nat}, x < h.2.1.length → (if x = q then (t, 5, zd w) else lb x) = lb x := fun hx => if_neg (by omega)
  have nb : p.1.2.2.2.2.2.1 ≠ p.1.2.1 := ne_of_tag ab em (by decide)
  refine ⟨⟨⟨a1, (hS _ tl (ne_of_tag a2 em (by decide))).trans a2⟩, ?_, ?_, ?_, ?_, ?_, ?_, ?_, ?_⟩, ?_, kl', fun x hx => ?_⟩
  · unfold HouI at aI ⊢
    rw [eo 0 (by decide), eo 1 (by decide), eo 2 (by decide), eo 3 (by decide), eo 4 (by decide), eo 5 (by decide), eo 6 (by decide), eo 7 (by decide), e7, eo 9 (by decide), eo 10 (by decide), eo 11 (by decide), eo 12 (by decide), eo 13 (by decide), eo 14 (by decide), ez, lst_cg ls hr, lst_cg ls hr, dbl_cg ls (fun i hi => o i (by omega)), o 5 (by decide), o 0 (by decide), o 1 (by decide), o 2 (by decide), o 3 (by decide), o 4 (by decide), o 39 (by decide), o 37 (by decide), o 6 (by decide), o 41 (by decide), o 43 (by decide), W1.h38, z1]
    obtain ⟨g0, g1, g2, g3, g4, g5, g6, g7, g8, g9⟩ := aI
    exact ⟨g0, g1, g2, g3, g4, g5, g6, g7, rfl, g9⟩
  · rw [e37]
    refine mv am nD (gk am (by decide)) (fun i hi j hj => ?_)
    match j, hj with
    | 0, _ => exact o (45 + i) (by omega)
    | 1, _ => exact o (57 + i) (by omega)
    | 2, _ => exact o (69 + i) (by omega)
    | 3, _ =>
      show b2i ((zt (newD w (nI a) (nI b) (nI c))).testBit i) = b2i ((zt w).testBit i)
      rw [show zt (newD w (nI a) (nI b) (nI c)) = zt w from by unfold zt; rw [o 7 (by decide)]]
    | 4, _ =>
      show b2i ((zv (newD w (nI a) (nI b) (nI c))).testBit i) = b2i ((zv w).testBit i)
      rw [show zv (newD w (nI a) (nI b) (nI c)) = zv w from by unfold zv; rw [o 8 (by decide)]]
    | 5, _ => exact o (9 + i) (by omega)
    | j + 6, hj => exact absurd hj (by omega)
  · rw [z1]; exact RM
  · rw [e6]
    exact mv al nL (gk al (by decide)) (fun i hi c hc => o _ (by omega))
  · rw [eh]
    refine mv ah nH (gk ah (by decide)) (fun i hi c hc => ?_)
    exact o _ (by omega)
  · rw [ep]
    exact mv ap nP (gk ap (by decide)) (fun i hi c hc => o _ (by omega))
  · have lb' := len_of ab
    exact ⟨⟨rs, (hS _ lb' nb).trans ab⟩, fun k hk => by
      rw [o (185 + k) (by omega)]
      exact (congrFun (hM _ lb' bp.1 (ne_of_tag ab a2 (by decide))) k).trans (ab2 k hk)⟩
  · show lwR h' p.1.2.2.2.2.2.2 dl
    cases e : p.1.2.2.2.2.2.2 with
    | none =>
      rw [e] at aw
      cases dl with
      | none => trivial
      | some dv => exact aw.elim
    | some r =>
      rw [e] at aw
      cases dl with
      | none => exact aw.elim
      | some dv =>
        obtain ⟨⟨rs3, l1⟩, l2⟩ := aw
        have ll := len_of l1
        exact ⟨⟨rs3, (hS _ ll (ne_of_tag l1 em (by decide))).trans l1⟩, fun j hj => (congrFun (hM _ ll (bp.2 r e) (ne_of_tag l1 a2 (by decide))) j).trans (l2 j hj)⟩
  · unfold HLb
    rw [e37, z1, e6, ep, eh]
    refine ⟨(lbo tl).trans b0, (lbo am.la).trans b1, (lbo ad.la).trans b2, (lbo al.la).trans b3, fun i hi => (lbo (H.1.man.lt hi)).trans (b4 i hi), fun i hi => ?_, fun i hi => ?_, fun i hi => ?_, fun i hi => ?_, ?_, ?_, ?_, fun r hr => ?_⟩
    · by_cases e : i = zd w
      · subst e
        show (if (if zd w = zd w then q else p.2.2.1 (zd w)) = q then (t, 5, zd w) else lb (if zd w = zd w then q else p.2.2.1 (zd w))) = _
        rw [if_pos rfl, if_pos rfl]
      · show (if (if i = zd w then q else p.2.2.1 i) = q then (t, 5, zd w) else lb (if i = zd w then q else p.2.2.1 i)) = _
        rw [if_neg e, lbo (H.1.dee.lt (by omega))]
        exact b5 i (by omega)
    · exact (congrArg Prod.fst (lbo (H.1.lin.lt hi))).trans (b6 i hi)
    · exact (congrArg Prod.fst (lbo (H.1.han.lt hi))).trans (b7 i hi)
    · exact (congrArg Prod.fst (lbo (H.1.pro.lt hi))).trans (b8 i hi)
    · exact (congrArg Prod.fst (lbo ah.la)).trans (b9)
    · exact (congrArg Prod.fst (lbo ap.la)).trans (b10)
    · exact (congrArg Prod.fst (lbo (len_of ab))).trans (b11)
    · exact (congrArg Prod.fst (lbo (lwR.lt H.1 hr))).trans (b12 r hr)
  · dsimp only
    rw [if_neg (by omega)]
    exact h0 x hx
end DEEDS
