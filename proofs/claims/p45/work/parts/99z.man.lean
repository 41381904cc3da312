/-! a HEARER's number written; COUGHS written -/
section MANW
variable {h h' h2 : DS} {t N d hh b c o : Nat} {p : Plc} {w w' : Arr} {dl : Option (Nat → Int32)} {LN : List Lin} {v x : Int32} {lb : Nat → Nat × Nat × Nat}
def manI (i : Nat) : Prop := i = 7 ∨ i = 8 ∨ (9 ≤ i ∧ i < 21) ∨ (45 ≤ i ∧ i < 81)
theorem h_wM (H : HS lb h t p w dl) (W0 : WFc w) (hd : d < zh w) (hc : c < 6) (hw : ∀ i, ¬ manI i → w' i = w i) (hV : heaV w' d c = x) (hV2 : ∀ i, i < zh w → ∀ c', c' < 6 → (i ≠ d ∨ c' ≠ c) → heaV w' i c' = heaV w i c') :
    ∃ h1, sA h 100 (p.2.1 d) (nI c) x = some h1 ∧ HS lb h1 t p w' dl ∧ KpH lb t h h1 ∧ h1.2.1 = h.2.1 := by
  obtain ⟨HR, B, hl, hlb⟩ := H
  have hz := W0.lzs
  have l8 := W0.lzd
  have lzp := W0.lzp
  have l12 := W0.lzh
  have hw' : ∀ i, i < 7 ∨ (21 ≤ i ∧ i < 45) ∨ 81 ≤ i → w' i = w i := fun i hi => hw i (by unfold manI; omega)
  obtain ⟨⟨rs1, r1⟩, r2⟩ := HR.man.2 d hd
  have hge : 123 ≤ p.2.1 d := ge_of hl r1 (by decide)
  have z : ∀ {a : Nat}, lb a ≠ (t, 4, d) → mset h.2.2 (p.2.1 d) c x a = h.2.2 a := fun hn => mset_ne (fun e => hn (by rw [e]; exact B.2.2.2.2.1 d hd))
  have z0 : ∀ {a : Nat}, (lb a).1 = 0 → lb a ≠ (t, 4, d) := fun e f => by
    rw [f] at e
    exact absurd (show t = 0 from e) (by have := HR.1.1; omega)
  have e37 : zh w' = zh w := by unfold zh; rw [hw' 37 (by omega)]
  have e38 : zd w' = zd w := by unfold zd; rw [hw' 38 (by omega)]
  have e6 : zb w' = zb w := by unfold zb; rw [hw' 6 (by omega)]
  have e42 : zp w' = zp w := by unfold zp; rw [hw' 42 (by omega)]
  have eh : hnL w' = hnL w := hnL_cg (hw' 41 (by omega)) (fun i h1 h2 => hw' i (by omega)) hz
  refine ⟨(h.1, h.2.1, mset h.2.2 (p.2.1 d) c x), by rw [e_sA r1 (inb_nI hc (by decide)) hge, nI_clamp (by omega)], ⟨?_, ?_, lk_mset hl hge, hlb⟩, ⟨rfl, Nat.le_refl _, fun a ha hn => ⟨rfl, z (fun e => hn (by rw [e]))⟩⟩, rfl⟩
  · obtain ⟨⟨a1, a2⟩, aI, am, ad, al, ah, ap, ⟨⟨rs, ab⟩, ab2⟩, aw⟩ := HR
    obtain ⟨b0, b1, b2, b3, b4, b5, b6, b7, b8, b9, b10, b11, b12⟩ := B
    refine ⟨⟨a1, a2⟩, ?_, ?_, ?_, ?_, ?_, ?_, ?_, ?_⟩
    · exact aI.cg (z (by rw [b0]; intro e; cases e)) hz (fun i hi => hw' i (by unfold isFld at hi; omega))
    · rw [e37]
      refine ⟨am.1, fun i hi => ⟨(am.2 i hi).1, fun c2 hc2 => ?_⟩⟩
      by_cases e1 : i = d
      · subst e1
        by_cases e2 : c2 = c
        · subst e2
          exact (mset_at _ _ _ _).trans hV.symm
        · exact (mset_j e2).trans (((am.2 i hi).2 c2 hc2).trans (hV2 i hi c2 hc2 (Or.inr e2)).symm)
      · have hne : lb (p.2.1 i) ≠ (t, 4, d) := by
          rw [b4 i hi]
          intro e
          cases e
          exact e1 rfl
        exact (congrFun (z hne) c2).trans (((am.2 i hi).2 c2 hc2).trans (hV2 i hi c2 hc2 (Or.inl e1)).symm)
    · rw [e38]
      refine ad.mv rfl (fun i hi e he => ⟨he, z (by rw [b5 i hi]; intro e; cases e)⟩) (fun i hi c2 _ => ?_)
      unfold deeV
      rw [hw' (81 + i) (by omega), hw' (89 + i) (by omega), hw' (97 + i) (by omega), hw' (21 + i) (by omega), hw' (29 + i) (by omega)]
    · rw [e6]
      exact al.mv rfl (fun i hi e he => ⟨he, z (z0 (b6 i hi))⟩) (fun i hi c2 _ => hw' _ (by omega))
    · rw [eh]
      exact ah.mv rfl (fun i hi e he => ⟨he, z (z0 (b7 i hi))⟩) (fun i hi c2 _ => hw' _ (by omega))
    · rw [e42]
      exact ap.mv rfl (fun i hi e he => ⟨he, z (z0 (b8 i hi))⟩) (fun i hi c2 _ => hw' _ (by omega))
    · exact ⟨⟨rs, ab⟩, fun k hk => by rw [hw' (185 + k) (by omega)]; exact (congrFun (z (z0 b11)) k).trans (ab2 k hk)⟩
    · cases e : p.1.2.2.2.2.2.2 with
      | none =>
        rw [e] at aw
        cases dl with
        | none => trivial
        | some dv => exact aw.elim
      | some r =>
        rw [e] at aw
        cases dl with
        | none => exact aw.elim
        | some dv =>
          obtain ⟨⟨rs, l1⟩, l2⟩ := aw
          exact ⟨⟨rs, l1⟩, fun j hj => (congrFun (z (z0 (b12 r e))) j).trans (l2 j hj)⟩
  · unfold HLb at B ⊢
    rw [e37, e38, e6, e42, eh]
    exact B
/-- COUGHS -/
theorem h_wC (H : HS lb h t p w dl) (W0 : WFc w) : ∃ h1, wI h t 12 6 x = some h1 ∧ HS lb h1 t p (upd w 39 x) dl ∧ KpH lb t h h1 ∧ h1.2.1 = h.2.1 := by
  obtain ⟨HR, B, hl, hlb⟩ := id H
  have hz := W0.lzs
  have hw : ∀ i, i ≠ 39 → upd w 39 x i = w i := fun i hi => ud_n hi
  have e37 : zh (upd w 39 x) = zh w := by unfold zh; rw [hw 37 (by decide)]
  have e38 : zd (upd w 39 x) = zd w := by unfold zd; rw [hw 38 (by decide)]
  have e6 : zb (upd w 39 x) = zb w := by unfold zb; rw [hw 6 (by decide)]
  have e42 : zp (upd w 39 x) = zp w := by unfold zp; rw [hw 42 (by decide)]
  have ez : zs (upd w 39 x) = zs w := by unfold zs; rw [hw 41 (by decide)]
  have eh : hnL (upd w 39 x) = hnL w := hnL_cg (hw 41 (by decide)) (fun i h1 h2 => hw i (by omega)) hz
  have tl := HR.ob
  have z : ∀ {c n k : Nat} {r : List (Option Nat)}, h.2.1[c]? = some (n, k, r) → n ≠ 12 → mset h.2.2 t 6 x c = h.2.2 c := fun q hne => mset_ne (ne_of_tag q tl hne)
  have zR : ∀ {i : Nat} {k : Nat} {r : Nat → Nat} {a zz n : Nat} {f : Nat → Nat → Int32}, RwH h a n k r zz f → i < zz → ∀ e, h.2.1[r i]? = some e → h.2.1[r i]? = some e ∧ mset h.2.2 t 6 x (r i) = h.2.2 (r i) := fun R hi e he => by
    obtain ⟨⟨rs, q⟩, -⟩ := R.2 _ hi
    exact ⟨he, z q (by decide)⟩
  refine ⟨_, hs_wI HR (by decide) (by decide), ⟨?_, ?_, lk_mset hl HR.1.1, hlb⟩, kp_set B.1, rfl⟩
  · obtain ⟨⟨a1, a2⟩, aI, am, ad, al, ah, ap, ⟨⟨rs, ab⟩, ab2⟩, aw⟩ := HR
    have l12 := W0.lzh
    have l8 := W0.lzd
    refine ⟨⟨a1, a2⟩, ?_, ?_, ?_, ?_, ?_, ?_, ?_, ?_⟩
    · have m1 : ∀ j, j ≠ 6 → mset h.2.2 t 6 x t j = h.2.2 t j := fun j hj => mset_j hj
      have hr : ∀ i, 105 ≤ i → i < 153 → upd w 39 x i = w i := fun i h1 h2 => hw i (by omega)
      unfold HouI at aI ⊢
      dsimp only
      rw [m1 0 (by decide), m1 1 (by decide), m1 2 (by decide), m1 3 (by decide), m1 4 (by decide), m1 5 (by decide), m1 7 (by decide), m1 8 (by decide), m1 9 (by decide), m1 10 (by decide), m1 11 (by decide), m1 12 (by decide), m1 13 (by decide), m1 14 (by decide), mset_at, ez, lst_cg hz hr, lst_cg hz hr, dbl_cg hz (fun i hi => hw i (by omega)), hw 5 (by decide), hw 0 (by decide), hw 1 (by decide), hw 2 (by decide), hw 3 (by decide), hw 4 (by decide), ud_s, hw 37 (by decide), hw 38 (by decide), hw 6 (by decide), hw 41 (by decide), hw 43 (by decide)]
      obtain ⟨g0, g1, g2, g3, g4, g5, g6, g7⟩ := aI
      exact ⟨g0, g1, g2, g3, g4, g5, rfl, g7⟩
    · rw [e37]
      refine am.mv rfl (fun i hi e he => zR am hi e he) (fun i hi c2 _ => ?_)
      have ec : cnt (upd w 39 x) i = cnt w i := cnt_cg (fun j hj => hw j (by omega)) hz i
      unfold heaV
      rw [hw (45 + i) (by omega), hw (57 + i) (by omega), hw (69 + i) (by omega), hw (9 + i) (by omega), hw (185 + i) (by omega), ec, (show zt (upd w 39 x) = zt w from by unfold zt; rw [hw 7 (by omega)]), (show zv (upd w 39 x) = zv w from by unfold zv; rw [hw 8 (by omega)])]
    · rw [e38]
      refine ad.mv rfl (fun i hi e he => zR ad hi e he) (fun i hi c2 _ => ?_)
      unfold deeV
      rw [hw (81 + i) (by omega), hw (89 + i) (by omega), hw (97 + i) (by omega), hw (21 + i) (by omega), hw (29 + i) (by omega)]
    · rw [e6]
      exact al.mv rfl (fun i hi e he => zR al hi e he) (fun i hi c2 _ => hw _ (by omega))
    · rw [eh]
      exact ah.mv rfl (fun i hi e he => zR ah hi e he) (fun i hi c2 _ => hw _ (by omega))
    · rw [e42]
      exact ap.mv rfl (fun i hi e he => zR ap hi e he) (fun i hi c2 _ => hw _ (by omega))
    · exact ⟨⟨rs, ab⟩, fun k hk => by rw [hw (185 + k) (by omega)]; exact (congrFun (z ab (by decide)) k).trans (ab2 k hk)⟩
    · cases e : p.1.2.2.2.2.2.2 with
      | none =>
        rw [e] at aw
        cases dl with
        | none => trivial
        | some dv => exact aw.elim
      | some r =>
        rw [e] at aw
        cases dl with
        | none => exact aw.elim
        | some dv =>
          obtain ⟨⟨rs, l1⟩, l2⟩ := aw
          exact ⟨⟨rs, l1⟩, fun j hj => (congrFun (z l1 (by decide)) j).trans (l2 j hj)⟩
  · unfold HLb at B ⊢
    rw [e37, e38, e6, e42, eh]
    exact B
end MANW
