/-! the hearers told -/
section HEARS
variable {h h' h1 h2 hb : DS} {N t u q k i j ai Lc C S : Nat} {a b c : Nat} {xs : Nat → Int32} {p : Plc} {w w' : Arr} {dl : Option (Nat → Int32)} {LN : List Lin} {lb lb' : Nat → Nat × Nat × Nat} {Q : Int32 → DS → Prop} {K : DS → DA} {X : Int32 → DS → DA} {x y a2 p4 : Int32} {vs : List Int32} {f : DS → DA} {m m3 : Mem}
def RwB (h : DS) (q k : Nat) (vs : List Int32) (h' : DS) : Prop := FrA h h' ∧ lk h' ∧ h.2.1.length ≤ q ∧ h'.2.1[q]? = some (100, k, []) ∧ (∀ j, j < vs.length → h'.2.2 q j = vs.getD j 0) ∧ csz h'.2.1 = csz h.2.1 + 1 ∧ ssz h'.2.1 = ssz h.2.1 + k
theorem rb_new (kl : lk h) (ex : x = nI k) (hk : k ≤ 16) (hn : csz h.2.1 + 1 < 1000000) (q : ∀ h', RwB h h.2.1.length k [] h' → Wd (f h') Q) : Wd (bo (nA h 100 x) f) Q := by
  subst ex
  have n1 : h.2.1.length + 1 < 1000000 := hn
  have hc : (nI k).toNatClampNeg = k := nI_clamp (by omega)
  refine wd_bo (e_nA (fun z => by
    have := (nI_ltI (a := k) (b := 0) (by omega) (by decide)).mp z
    omega) (by rw [hc]; omega) n1) ?_
  rw [hc]
  exact q _ ⟨⟨rfl, by rw [gw_len]; omega, fun c hc => ⟨gw_old hc, gw_mo hc⟩⟩, lk_gr kl n1 (fun j q hq => by simp at hq), Nat.le_refl _, gw_new, fun j hj => absurd hj (by simp), gw_len, ssz_gr⟩
theorem rb_put (kl : lk h) (R : RwB h q k vs h') (ey : y = nI vs.length) (hv : vs.length < k) (hk : k ≤ 16) (g : ∀ h2, RwB h q k (vs ++ [x]) h2 → Wd (f h2) Q) : Wd (bo (sA h' 100 q y x) f) Q := by
  subst ey
  obtain ⟨r1, r2, r3, r4, r5, r6, r7⟩ := R
  have := lk_len kl
  refine wd_bo (e_sA r4 (inb_nI hv (by omega)) (by omega)) ?_
  rw [nI_clamp (by omega)]
  refine g _ ⟨⟨r1.1, r1.2.1, fun c hc => ⟨(r1.2.2 c hc).1, (mset_ne (by omega)).trans (r1.2.2 c hc).2⟩⟩, lk_mset r2 (by omega), r3, r4, fun j hj => ?_, r6, r7⟩
  rw [List.length_append, List.length_singleton] at hj
  rw [List.getD_eq_getElem?_getD]
  by_cases e : j = vs.length
  · subst e
    rw [List.getElem?_append_right (Nat.le_refl _), Nat.sub_self]
    exact mset_at _ _ _ _
  · rw [List.getElem?_append_left (by omega), ← List.getD_eq_getElem?_getD]
    exact (mset_j e).trans (r5 j (by omega))
theorem heaV_new (W0 : WFc w) (h12 : zh w < 12) (ha : a ≤ 9) (hb : b ≤ 9) (hc : c ≤ 9) {j : Nat} (hj : j < 6) : heaV (newH w (nI a) (nI b) (nI c)) (zh w) j = [nI a, nI b, nI c, 1, 0, 0].getD j 0 := by
  obtain ⟨-, z1, z2, z3⟩ := newH_wf W0 h12 ha hb hc
  match j, hj with
  | 0, _ =>
    show newH w (nI a) (nI b) (nI c) (45 + zh w) = nI a
    unfold newH
    rw [ud_n (by omega), ud_n (by omega), ud_n (by omega), ud_n (by omega), ud_n (by omega), ud_n (by omega), ud_s]
  | 1, _ =>
    show newH w (nI a) (nI b) (nI c) (57 + zh w) = nI b
    unfold newH
    rw [ud_n (by omega), ud_n (by omega), ud_n (by omega), ud_n (by omega), ud_n (by omega), ud_s]
  | 2, _ =>
    show newH w (nI a) (nI b) (nI c) (69 + zh w) = nI c
    unfold newH
    rw [ud_n (by omega), ud_n (by omega), ud_n (by omega), ud_n (by omega), ud_s]
  | 3, _ =>
    show b2i ((zt (newH w (nI a) (nI b) (nI c))).testBit (zh w)) = 1
    rw [z2, Nat.testBit_or, Nat.testBit_two_pow, decide_eq_true rfl, Bool.or_true]
    rfl
  | 4, _ =>
    show b2i ((zv (newH w (nI a) (nI b) (nI c))).testBit (zh w)) = 0
    rw [z3, Nat.testBit_lt_two_pow W0.h8.2]
    rfl
  | 5, _ =>
    show newH w (nI a) (nI b) (nI c) (9 + zh w) = 0
    unfold newH
    rw [ud_n (by omega), ud_n (by omega), ud_n (by omega), ud_s]
    rfl
  | j + 6, hj => exact absurd hj (by omega)
theorem heaV_old (W0 : WFc w) (h12 : zh w < 12) (ha : a ≤ 9) (hb : b ≤ 9) (hc : c ≤ 9) (hi : i < zh w) {j : Nat} (hj : j < 6) : heaV (newH w (nI a) (nI b) (nI c)) i j = heaV w i j := by
  obtain ⟨-, z1, z2, z3⟩ := newH_wf W0 h12 ha hb hc
  match j, hj with
  | 0, _ => exact newH_o (i := 45 + i) (by omega)
  | 1, _ => exact newH_o (i := 57 + i) (by omega)
  | 2, _ => exact newH_o (i := 69 + i) (by omega)
  | 3, _ =>
    show b2i ((zt (newH w (nI a) (nI b) (nI c))).testBit i) = b2i ((zt w).testBit i)
    rw [z2, Nat.testBit_or, Nat.testBit_two_pow, decide_eq_false (by omega), Bool.or_false]
  | 4, _ =>
    show b2i ((zv (newH w (nI a) (nI b) (nI c))).testBit i) = b2i ((zv w).testBit i)
    rw [z3]
  | 5, _ => exact newH_o (i := 9 + i) (by omega)
  | j + 6, hj => exact absurd hj (by omega)
/-- the House with one hearer more -/
theorem hs_hear (H : HS lb h t p w dl) (bp : PB p) (W0 : WFc w) (h12 : zh w < 12) (ha : a ≤ 9) (hb : b ≤ 9) (hc : c ≤ 9) (kl' : lk h') (q123 : 123 ≤ q)
    (hS : ∀ c, c < h.2.1.length → c ≠ p.1.1 → h'.2.1[c]? = h.2.1[c]?) (hM : ∀ c, c < h.2.1.length → 123 ≤ c → c ≠ t → h'.2.2 c = h.2.2 c) (ql : h.2.1.length ≤ q)
    (e7 : h'.2.2 t 7 = nI (zh w + 1)) (eo : ∀ j, j ≠ 7 → h'.2.2 t j = h.2.2 t j)
    (RM : RwH h' p.1.1 12 6 (fun j => if j = zh w then q else p.2.1 j) (zh w + 1) (heaV (newH w (nI a) (nI b) (nI c)))) :
    HS (fun x => if x = q then (t, 4, zh w) else lb x) h' t (p.1, (fun j => if j = zh w then q else p.2.1 j), p.2.2) (newH w (nI a) (nI b) (nI c)) dl := by
  obtain ⟨⟨⟨a1, a2⟩, aI, am, ad, al, ah, ap, ⟨⟨rs, ab⟩, ab2⟩, aw⟩, B, kl, h0⟩ := id H
  obtain ⟨b0, b1, b2, b3, b4, b5, b6, b7, b8, b9, b10, b11, b12⟩ := id B
  obtain ⟨W1, z1, z2, z3⟩ := newH_wf W0 h12 ha hb hc
  have ls := W0.lzs
  have lz := W0.lzh
  have l8 := W0.lzd
  have o : ∀ i, (i < 7 ∨ 21 ≤ i ∧ i < 37 ∨ 38 ≤ i ∧ i < 45 ∨ 81 ≤ i) → newH w (nI a) (nI b) (nI c) i = w i := fun i hi => newH_o (by omega)
  have tl := len_of a2
  have e38 : zd (newH w (nI a) (nI b) (nI c)) = zd w := by unfold zd; rw [o 38 (by decide)]
  have e6 : zb (newH w (nI a) (nI b) (nI c)) = zb w := by rw [show zb (newH w (nI a) (nI b) (nI c)) = nv (newH w (nI a) (nI b) (nI c) 6) from rfl, o 6 (by decide)]; rfl
  have ep : zp (newH w (nI a) (nI b) (nI c)) = zp w := by unfold zp; rw [o 42 (by decide)]
  have ez : zs (newH w (nI a) (nI b) (nI c)) = zs w := by unfold zs; rw [o 41 (by decide)]
  have eh : hnL (newH w (nI a) (nI b) (nI c)) = hnL w := hnL_cg (o 41 (by decide)) (fun i h1 h2 => o i (by omega)) ls
  have hr : ∀ i, 105 ≤ i → i < 153 → newH w (nI a) (nI b) (nI c) i = w i := fun i h1 h2 => o i (by omega)
  have lbm := b1
  obtain ⟨⟨rm, em, -⟩, -⟩ := id am
  have t0 : t ≠ 0 := by omega
  have nD : p.1.2.1 ≠ p.1.1 := fun e => by rw [e, b1] at b2; cases b2
  have nL : p.1.2.2.1 ≠ p.1.1 := fun e => by rw [e, b1] at b3; cases b3
  have nH : p.1.2.2.2.1 ≠ p.1.1 := fun e => by rw [e, b1] at b9; exact t0 b9
  have nP : p.1.2.2.2.2.1 ≠ p.1.1 := fun e => by rw [e, b1] at b10; exact t0 b10
  have mv : ∀ {A n k z : Nat} {r : Nat → Nat} {f g : Nat → Nat → Int32}, RwH h A n k r z f → A ≠ p.1.1 → (∀ i, i < z → 123 ≤ r i) → (∀ i, i < z → ∀ c, c < k → g i c = f i c) → RwH h' A n k r z g := fun R hA hr hf => by
    refine R.mv (hS _ R.la hA) (fun i hi e he => ?_) hf
    obtain ⟨⟨rs2, q1⟩, -⟩ := R.2 i hi
    rw [q1] at he
    cases he
    exact ⟨(hS _ (len_of q1) (ne_of_tag q1 em (by decide))).trans q1, hM _ (len_of q1) (hr i hi) (ne_of_tag q1 a2 (by decide))⟩
  have gk : ∀ {A n k z : Nat} {r : Nat → Nat} {f : Nat → Nat → Int32}, RwH h A n k r z f → (k = 4 ∨ k = 2 ∨ k = 6) → ∀ i, i < z → 123 ≤ r i := fun R hk i hi => by
    obtain ⟨⟨rs2, q1⟩, -⟩ := R.2 i hi
    exact ge_of kl q1 hk
  have lbo : ∀ {x : Nat}, x < h.2.1.length → (if x = q then (t, 4, zh w) else lb x) = lb x := fun hx => if_neg (by omega)
  have nb : p.1.2.2.2.2.2.1 ≠ p.1.1 := ne_of_tag ab em (by decide)
  refine ⟨⟨⟨a1, (hS _ tl (ne_of_tag a2 em (by decide))).trans a2⟩, ?_, ?_, ?_, ?_, ?_, ?_, ?_, ?_⟩, ?_, kl', fun x hx => ?_⟩
  · unfold HouI at aI ⊢
    rw [eo 0 (by decide), eo 1 (by decide), eo 2 (by decide), eo 3 (by decide), eo 4 (by decide), eo 5 (by decide), eo 6 (by decide), e7, eo 8 (by decide), eo 9 (by decide), eo 10 (by decide), eo 11 (by decide), eo 12 (by decide), eo 13 (by decide), eo 14 (by decide), ez, lst_cg ls hr, lst_cg ls hr, dbl_cg ls (fun i hi => o i (by omega)), o 5 (by decide), o 0 (by decide), o 1 (by decide), o 2 (by decide), o 3 (by decide), o 4 (by decide), o 39 (by decide), o 38 (by decide), o 6 (by decide), o 41 (by decide), o 43 (by decide), W1.h37, z1]
    obtain ⟨g0, g1, g2, g3, g4, g5, g6, g7, g8⟩ := aI
    exact ⟨g0, g1, g2, g3, g4, g5, g6, rfl, g8⟩
  · rw [z1]; exact RM
  · rw [e38]
    refine mv ad nD (fun i hi => B.ge5 h0 a1 hi) (fun i hi c hc => ?_)
    unfold deeV
    rw [o (81 + i) (by omega), o (89 + i) (by omega), o (97 + i) (by omega), o (21 + i) (by omega), o (29 + i) (by omega)]
  · rw [e6]
    exact mv al nL (gk al (by decide)) (fun i hi c hc => o _ (by omega))
  · rw [eh]
    refine mv ah nH (gk ah (by decide)) (fun i hi c hc => ?_)
    exact o _ (by omega)
  · rw [ep]
    exact mv ap nP (gk ap (by decide)) (fun i hi c hc => o _ (by omega))
  · have lb' := len_of ab
    exact ⟨⟨rs, (hS _ lb' nb).trans ab⟩, fun k hk => by
      rw [o (185 + k) (by omega)]
      exact (congrFun (hM _ lb' bp.1 (ne_of_tag ab a2 (by decide))) k).trans (ab2 k hk)⟩
  · show lwR h' p.1.2.2.2.2.2.2 dl
    cases e : p.1.2.2.2.2.2.2 with
    | none =>
      rw [e] at aw
      cases dl with
      | none => trivial
      | some dv => exact aw.elim
    | some r =>
      rw [e] at aw
      cases dl with
      | none => exact aw.elim
      | some dv =>
        obtain ⟨⟨rs3, l1⟩, l2⟩ := aw
        have ll := len_of l1
        exact ⟨⟨rs3, (hS _ ll (ne_of_tag l1 em (by decide))).trans l1⟩, fun j hj => (congrFun (hM _ ll (bp.2 r e) (ne_of_tag l1 a2 (by decide))) j).trans (l2 j hj)⟩
  · unfold HLb
    rw [z1, e38, e6, ep, eh]
    refine ⟨(lbo tl).trans b0, (lbo am.la).trans b1, (lbo ad.la).trans b2, (lbo al.la).trans b3, fun i hi => ?_, fun i hi => (lbo (H.1.dee.lt hi)).trans (b5 i hi), fun i hi => ?_, fun i hi => ?_, fun i hi => ?_, ?_, ?_, ?_, fun r hr => ?_⟩
    · by_cases e : i = zh w
      · subst e
        show (if (if zh w = zh w then q else p.2.1 (zh w)) = q then (t, 4, zh w) else lb (if zh w = zh w then q else p.2.1 (zh w))) = _
        rw [if_pos rfl, if_pos rfl]
      · show (if (if i = zh w then q else p.2.1 i) = q then (t, 4, zh w) else lb (if i = zh w then q else p.2.1 i)) = _
        rw [if_neg e, lbo (H.1.man.lt (by omega))]
        exact b4 i (by omega)
    · exact (congrArg Prod.fst (lbo (H.1.lin.lt hi))).trans (b6 i hi)
    · exact (congrArg Prod.fst (lbo (H.1.han.lt hi))).trans (b7 i hi)
    · exact (congrArg Prod.fst (lbo (H.1.pro.lt hi))).trans (b8 i hi)
    · exact (congrArg Prod.fst (lbo ah.la)).trans (b9)
    · exact (congrArg Prod.fst (lbo ap.la)).trans (b10)
    · exact (congrArg Prod.fst (lbo (len_of ab))).trans (b11)
    · exact (congrArg Prod.fst (lbo (lwR.lt H.1 hr))).trans (b12 r hr)
  · dsimp only
    rw [if_neg (by omega)]
    exact h0 x hx
end HEARS
