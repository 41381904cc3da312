/-! numbers of a House written: its own, those of a deed -/
section OWN2
variable {h h' h2 : DS} {t N d hh b c : Nat} {p : Plc} {w w' : Arr} {dl : Option (Nat → Int32)} {LN : List Lin} {v x : Int32} {lb : Nat → Nat × Nat × Nat}
theorem hi_0 (hI : HouI h t w) (hz : zs w ≤ 16) : HouI (h.1, h.2.1, mset h.2.2 t 0 x) t (upd w 5 x) := by
  have hr : ∀ i, 105 ≤ i → i < 153 → upd w 5 x i = w i := fun i h1 h2 => ud_n (by omega)
  have ez : zs (upd w 5 x) = zs w := by unfold zs; rw [ud_n (by decide)]
  obtain ⟨i0, i1, i2, i3, i4, i5, i6, i7, i8, i9, i10, i11, i12, i13, i14⟩ := hI
  unfold HouI
  dsimp only
  exact ⟨(mset_at _ _ _ _).trans ud_s.symm, (mset_j (by decide)).trans (i1.trans (ud_n (by decide)).symm), (mset_j (by decide)).trans (i2.trans (ud_n (by decide)).symm), (mset_j (by decide)).trans (i3.trans (ud_n (by decide)).symm), (mset_j (by decide)).trans (i4.trans (ud_n (by decide)).symm), (mset_j (by decide)).trans (i5.trans (ud_n (by decide)).symm), (mset_j (by decide)).trans (i6.trans (ud_n (by decide)).symm), (mset_j (by decide)).trans (i7.trans (ud_n (by decide)).symm), (mset_j (by decide)).trans (i8.trans (ud_n (by decide)).symm), (mset_j (by decide)).trans (i9.trans (ud_n (by decide)).symm), (mset_j (by decide)).trans (i10.trans (by rw [ez, lst_cg hz hr])), (mset_j (by decide)).trans (i11.trans (by rw [ez, lst_cg hz hr])), (mset_j (by decide)).trans (i12.trans (by rw [dbl_cg hz (fun i hi => ud_n (by omega))])), (mset_j (by decide)).trans (i13.trans (ud_n (by decide)).symm), (mset_j (by decide)).trans (i14.trans (ud_n (by decide)).symm)⟩
theorem hi_1 (hI : HouI h t w) (hz : zs w ≤ 16) : HouI (h.1, h.2.1, mset h.2.2 t 1 x) t (upd w 0 x) := by
  have hr : ∀ i, 105 ≤ i → i < 153 → upd w 0 x i = w i := fun i h1 h2 => ud_n (by omega)
  have ez : zs (upd w 0 x) = zs w := by unfold zs; rw [ud_n (by decide)]
  obtain ⟨i0, i1, i2, i3, i4, i5, i6, i7, i8, i9, i10, i11, i12, i13, i14⟩ := hI
  unfold HouI
  dsimp only
  exact ⟨(mset_j (by decide)).trans (i0.trans (ud_n (by decide)).symm), (mset_at _ _ _ _).trans ud_s.symm, (mset_j (by decide)).trans (i2.trans (ud_n (by decide)).symm), (mset_j (by decide)).trans (i3.trans (ud_n (by decide)).symm), (mset_j (by decide)).trans (i4.trans (ud_n (by decide)).symm), (mset_j (by decide)).trans (i5.trans (ud_n (by decide)).symm), (mset_j (by decide)).trans (i6.trans (ud_n (by decide)).symm), (mset_j (by decide)).trans (i7.trans (ud_n (by decide)).symm), (mset_j (by decide)).trans (i8.trans (ud_n (by decide)).symm), (mset_j (by decide)).trans (i9.trans (ud_n (by decide)).symm), (mset_j (by decide)).trans (i10.trans (by rw [ez, lst_cg hz hr])), (mset_j (by decide)).trans (i11.trans (by rw [ez, lst_cg hz hr])), (mset_j (by decide)).trans (i12.trans (by rw [dbl_cg hz (fun i hi => ud_n (by omega))])), (mset_j (by decide)).trans (i13.trans (ud_n (by decide)).symm), (mset_j (by decide)).trans (i14.trans (ud_n (by decide)).symm)⟩
theorem hi_2 (hI : HouI h t w) (hz : zs w ≤ 16) : HouI (h.1, h.2.1, mset h.2.2 t 2 x) t (upd w 1 x) := by
  have hr : ∀ i, 105 ≤ i → i < 153 → upd w 1 x i = w i := fun i h1 h2 => ud_n (by omega)
  have ez : zs (upd w 1 x) = zs w := by unfold zs; rw [ud_n (by decide)]
  obtain ⟨i0, i1, i2, i3, i4, i5, i6, i7, i8, i9, i10, i11, i12, i13, i14⟩ := hI
  unfold HouI
  dsimp only
  exact ⟨(mset_j (by decide)).trans (i0.trans (ud_n (by decide)).symm), (mset_j (by decide)).trans (i1.trans (ud_n (by decide)).symm), (mset_at _ _ _ _).trans ud_s.symm, (mset_j (by decide)).trans (i3.trans (ud_n (by decide)).symm), (mset_j (by decide)).trans (i4.trans (ud_n (by decide)).symm), (mset_j (by decide)).trans (i5.trans (ud_n (by decide)).symm), (mset_j (by decide)).trans (i6.trans (ud_n (by decide)).symm), (mset_j (by decide)).trans (i7.trans (ud_n (by decide)).symm), (mset_j (by decide)).trans (i8.trans (ud_n (by decide)).symm), (mset_j (by decide)).trans (i9.trans (ud_n (by decide)).symm), (mset_j (by decide)).trans (i10.trans (by rw [ez, lst_cg hz hr])), (mset_j (by decide)).trans (i11.trans (by rw [ez, lst_cg hz hr])), (mset_j (by decide)).trans (i12.trans (by rw [dbl_cg hz (fun i hi => ud_n (by omega))])), (mset_j (by decide)).trans (i13.trans (ud_n (by decide)).symm), (mset_j (by decide)).trans (i14.trans (ud_n (by decide)).symm)⟩
theorem hi_3 (hI : HouI h t w) (hz : zs w ≤ 16) : HouI (h.1, h.2.1, mset h.2.2 t 3 x) t (upd w 2 x) := by
  have hr : ∀ i, 105 ≤ i → i < 153 → upd w 2 x i = w i := fun i h1 h2 => ud_n (by omega)
  have ez : zs (upd w 2 x) = zs w := by unfold zs; rw [ud_n (by decide)]
  obtain ⟨i0, i1, i2, i3, i4, i5, i6, i7, i8, i9, i10, i11, i12, i13, i14⟩ := hI
  unfold HouI
  dsimp only
  exact ⟨(mset_j (by decide)).trans (i0.trans (ud_n (by decide)).symm), (mset_j (by decide)).trans (i1.trans (ud_n (by decide)).symm), (mset_j (by decide)).trans (i2.trans (ud_n (by decide)).symm), (mset_at _ _ _ _).trans ud_s.symm, (mset_j (by decide)).trans (i4.trans (ud_n (by decide)).symm), (mset_j (by decide)).trans (i5.trans (ud_n (by decide)).symm), (mset_j (by decide)).trans (i6.trans (ud_n (by decide)).symm), (mset_j (by decide)).trans (i7.trans (ud_n (by decide)).symm), (mset_j (by decide)).trans (i8.trans (ud_n (by decide)).symm), (mset_j (by decide)).trans (i9.trans (ud_n (by decide)).symm), (mset_j (by decide)).trans (i10.trans (by rw [ez, lst_cg hz hr])), (mset_j (by decide)).trans (i11.trans (by rw [ez, lst_cg hz hr])), (mset_j (by decide)).trans (i12.trans (by rw [dbl_cg hz (fun i hi => ud_n (by omega))])), (mset_j (by decide)).trans (i13.trans (ud_n (by decide)).symm), (mset_j (by decide)).trans (i14.trans (ud_n (by decide)).symm)⟩
theorem hi_4 (hI : HouI h t w) (hz : zs w ≤ 16) : HouI (h.1, h.2.1, mset h.2.2 t 4 x) t (upd w 3 x) := by
  have hr : ∀ i, 105 ≤ i → i < 153 → upd w 3 x i = w i := fun i h1 h2 => ud_n (by omega)
  have ez : zs (upd w 3 x) = zs w := by unfold zs; rw [ud_n (by decide)]
  obtain ⟨i0, i1, i2, i3, i4, i5, i6, i7, i8, i9, i10, i11, i12, i13, i14⟩ := hI
  unfold HouI
  dsimp only
  exact ⟨(mset_j (by decide)).trans (i0.trans (ud_n (by decide)).symm), (mset_j (by decide)).trans (i1.trans (ud_n (by decide)).symm), (mset_j (by decide)).trans (i2.trans (ud_n (by decide)).symm), (mset_j (by decide)).trans (i3.trans (ud_n (by decide)).symm), (mset_at _ _ _ _).trans ud_s.symm, (mset_j (by decide)).trans (i5.trans (ud_n (by decide)).symm), (mset_j (by decide)).trans (i6.trans (ud_n (by decide)).symm), (mset_j (by decide)).trans (i7.trans (ud_n (by decide)).symm), (mset_j (by decide)).trans (i8.trans (ud_n (by decide)).symm), (mset_j (by decide)).trans (i9.trans (ud_n (by decide)).symm), (mset_j (by decide)).trans (i10.trans (by rw [ez, lst_cg hz hr])), (mset_j (by decide)).trans (i11.trans (by rw [ez, lst_cg hz hr])), (mset_j (by decide)).trans (i12.trans (by rw [dbl_cg hz (fun i hi => ud_n (by omega))])), (mset_j (by decide)).trans (i13.trans (ud_n (by decide)).symm), (mset_j (by decide)).trans (i14.trans (ud_n (by decide)).symm)⟩
theorem hi_5 (hI : HouI h t w) (hz : zs w ≤ 16) : HouI (h.1, h.2.1, mset h.2.2 t 5 x) t (upd w 4 x) := by
  have hr : ∀ i, 105 ≤ i → i < 153 → upd w 4 x i = w i := fun i h1 h2 => ud_n (by omega)
  have ez : zs (upd w 4 x) = zs w := by unfold zs; rw [ud_n (by decide)]
  obtain ⟨i0, i1, i2, i3, i4, i5, i6, i7, i8, i9, i10, i11, i12, i13, i14⟩ := hI
  unfold HouI
  dsimp only
  exact ⟨(mset_j (by decide)).trans (i0.trans (ud_n (by decide)).symm), (mset_j (by decide)).trans (i1.trans (ud_n (by decide)).symm), (mset_j (by decide)).trans (i2.trans (ud_n (by decide)).symm), (mset_j (by decide)).trans (i3.trans (ud_n (by decide)).symm), (mset_j (by decide)).trans (i4.trans (ud_n (by decide)).symm), (mset_at _ _ _ _).trans ud_s.symm, (mset_j (by decide)).trans (i6.trans (ud_n (by decide)).symm), (mset_j (by decide)).trans (i7.trans (ud_n (by decide)).symm), (mset_j (by decide)).trans (i8.trans (ud_n (by decide)).symm), (mset_j (by decide)).trans (i9.trans (ud_n (by decide)).symm), (mset_j (by decide)).trans (i10.trans (by rw [ez, lst_cg hz hr])), (mset_j (by decide)).trans (i11.trans (by rw [ez, lst_cg hz hr])), (mset_j (by decide)).trans (i12.trans (by rw [dbl_cg hz (fun i hi => ud_n (by omega))])), (mset_j (by decide)).trans (i13.trans (ud_n (by decide)).symm), (mset_j (by decide)).trans (i14.trans (ud_n (by decide)).symm)⟩
theorem hi_s {j : Nat} (hj : 22 ≤ j) (hI : HouI h t w) : HouI (h.1, h.2.1, mset h.2.2 t j x) t w := by
  obtain ⟨i0, i1, i2, i3, i4, i5, i6, i7, i8, i9, i10, i11, i12, i13, i14⟩ := hI
  exact ⟨(mset_j (by omega)).trans i0, (mset_j (by omega)).trans i1, (mset_j (by omega)).trans i2, (mset_j (by omega)).trans i3, (mset_j (by omega)).trans i4, (mset_j (by omega)).trans i5, (mset_j (by omega)).trans i6, (mset_j (by omega)).trans i7, (mset_j (by omega)).trans i8, (mset_j (by omega)).trans i9, (mset_j (by omega)).trans i10, (mset_j (by omega)).trans i11, (mset_j (by omega)).trans i12, (mset_j (by omega)).trans i13, (mset_j (by omega)).trans i14⟩
theorem HLb.low (B : HLb lb t p w) (hw : ∀ i, 6 ≤ i → w' i = w i) (hz : zs w ≤ 16) : HLb lb t p w' := by
  have e37 : zh w' = zh w := by unfold zh; rw [hw 37 (by decide)]
  have e38 : zd w' = zd w := by unfold zd; rw [hw 38 (by decide)]
  have e6 : zb w' = zb w := by unfold zb; rw [hw 6 (by decide)]
  have e42 : zp w' = zp w := by unfold zp; rw [hw 42 (by decide)]
  have eh : hnL w' = hnL w := hnL_cg (hw 41 (by decide)) (fun i h1 h2 => hw i (by omega)) hz
  unfold HLb at B ⊢
  rw [e37, e38, e6, e42, eh]
  exact B
/-- a field of the House written -/
theorem h_wI {j k : Nat} (H : HS lb h t p w dl) (hj : j < 25) (hr : isR 12 j = false) (hz : zs w ≤ 16) (hk : k < 6) (hI : HouI (h.1, h.2.1, mset h.2.2 t j x) t (upd w k x)) : wI h t 12 j x = some (h.1, h.2.1, mset h.2.2 t j x) ∧ HS lb (h.1, h.2.1, mset h.2.2 t j x) t p (upd w k x) dl ∧ KpH lb t h (h.1, h.2.1, mset h.2.2 t j x) := by
  obtain ⟨HR, B, hl, hlb⟩ := H
  exact ⟨hs_wI HR hj hr, ⟨HR.low rfl (fun c hc => mset_ne hc) (fun i hi => ud_n (by omega)) hz hI, B.low (fun i hi => ud_n (by omega)) hz, lk_mset hl HR.1.1, hlb⟩, kp_set B.1⟩
theorem h_wS {j : Nat} (H : HS lb h t p w dl) (hj : j < 25) (hj2 : 22 ≤ j) (hr : isR 12 j = false) (hz : zs w ≤ 16) : wI h t 12 j x = some (h.1, h.2.1, mset h.2.2 t j x) ∧ HS lb (h.1, h.2.1, mset h.2.2 t j x) t p w dl ∧ KpH lb t h (h.1, h.2.1, mset h.2.2 t j x) := by
  obtain ⟨HR, B, hl, hlb⟩ := H
  exact ⟨hs_wI HR hj hr, ⟨HR.low rfl (fun c hc => mset_ne hc) (fun i hi => rfl) hz (hi_s hj2 HR.int), B, lk_mset hl HR.1.1, hlb⟩, kp_set B.1⟩
/-- a deed's number written -/
theorem h_wD (H : HS lb h t p w dl) (W0 : WFc w) (hd : d < zd w) (hc : c < 5) : sA h 100 (p.2.2.1 d) (nI c) x = some (h.1, h.2.1, mset h.2.2 (p.2.2.1 d) c x) ∧ HS lb (h.1, h.2.1, mset h.2.2 (p.2.2.1 d) c x) t p (upd w (deeI c + d) x) dl ∧ KpH lb t h (h.1, h.2.1, mset h.2.2 (p.2.2.1 d) c x) := by
  obtain ⟨HR, B, hl, hlb⟩ := H
  have hz := W0.lzs
  have l8 := W0.lzd
  have lzp := W0.lzp
  have l12 := W0.lzh
  have q : ∀ c, c < 5 → 21 ≤ deeI c ∧ deeI c ≤ 97 ∧ (deeI c + 8 ≤ 37 ∨ 81 ≤ deeI c) := by decide
  obtain ⟨q1, q2, q3⟩ := q c hc
  have hw : ∀ i, i < 21 ∨ (37 ≤ i ∧ i < 81) ∨ 105 ≤ i → upd w (deeI c + d) x i = w i := fun i hi => ud_n (by omega)
  obtain ⟨⟨rs1, r1⟩, r2⟩ := HR.dee.2 d hd
  have hge : 123 ≤ p.2.2.1 d := by
    rcases Nat.lt_or_ge (p.2.2.1 d) 123 with z | z
    · have h1 := hlb _ z
      rw [B.2.2.2.2.2.1 d hd] at h1
      exact absurd (show t = 0 from h1) (by have := HR.1.1; omega)
    · exact z
  have z : ∀ {a : Nat}, lb a ≠ (t, 5, d) → mset h.2.2 (p.2.2.1 d) c x a = h.2.2 a := fun hn => mset_ne (fun e => hn (by rw [e]; exact B.2.2.2.2.2.1 d hd))
  have z0 : ∀ {a : Nat}, (lb a).1 = 0 → lb a ≠ (t, 5, d) := fun e f => by
    rw [f] at e
    exact absurd (show t = 0 from e) (by have := HR.1.1; omega)
  refine ⟨by rw [e_sA r1 (inb_nI hc (by decide)) hge, nI_clamp (by omega)], ⟨?_, ?_, lk_mset hl hge, hlb⟩, rfl, Nat.le_refl _, fun a ha hn => ⟨rfl, z (fun e => hn (by rw [e]))⟩⟩
  · obtain ⟨⟨a1, a2⟩, aI, am, ad, al, ah, ap, ⟨⟨rs, ab⟩, ab2⟩, aw⟩ := HR
    obtain ⟨b0, b1, b2, b3, b4, b5, b6, b7, b8, b9, b10, b11, b12⟩ := B
    have e37 : zh (upd w (deeI c + d) x) = zh w := by unfold zh; rw [hw 37 (by omega)]
    have e38 : zd (upd w (deeI c + d) x) = zd w := by unfold zd; rw [hw 38 (by omega)]
    have e6 : zb (upd w (deeI c + d) x) = zb w := by unfold zb; rw [hw 6 (by omega)]
    have e42 : zp (upd w (deeI c + d) x) = zp w := by unfold zp; rw [hw 42 (by omega)]
    have eh : hnL (upd w (deeI c + d) x) = hnL w := hnL_cg (hw 41 (by omega)) (fun i h1 h2 => hw i (by omega)) hz
    have eV : ∀ i, i < 12 → ∀ k, heaV (upd w (deeI c + d) x) i k = heaV w i k := by
      intro i hi k
      have ec : cnt (upd w (deeI c + d) x) i = cnt w i := cnt_cg (fun j hj => hw j (by omega)) hz i
      unfold heaV
      rw [hw (45 + i) (by omega), hw (57 + i) (by omega), hw (69 + i) (by omega), hw (9 + i) (by omega), hw (185 + i) (by omega), ec, (show zt (upd w (deeI c + d) x) = zt w from by unfold zt; rw [hw 7 (by omega)]), (show zv (upd w (deeI c + d) x) = zv w from by unfold zv; rw [hw 8 (by omega)])]
    refine ⟨⟨a1, a2⟩, ?_, ?_, ?_, ?_, ?_, ?_, ?_, ?_⟩
    · exact aI.cg (z (by rw [b0]; intro e; cases e)) hz (fun i hi => hw i (by unfold isFld at hi; omega))
    · rw [e37]
      exact am.mv rfl (fun i hi e he => ⟨he, z (by rw [b4 i hi]; intro e; cases e)⟩) (fun i hi c2 _ => eV i (by omega) c2)
    · rw [e38]
      refine ⟨ad.1, fun i hi => ⟨(ad.2 i hi).1, fun c2 hc2 => ?_⟩⟩
      have ev2 : ∀ (w : Arr) d c, deeV w d c = w (deeI c + d) := by
        intro w d c
        unfold deeV deeI
        split
        · rfl
        · split
          · rfl
          · split
            · rfl
            · split <;> rfl
      rw [ev2]
      by_cases e1 : i = d
      · subst e1
        by_cases e2 : c2 = c
        · subst e2
          exact (mset_at _ _ _ _).trans ud_s.symm
        · have t : ∀ c, c < 5 → ∀ c', c' < 5 → c' ≠ c → deeI c' + 8 ≤ deeI c ∨ deeI c + 8 ≤ deeI c' := by decide
          have := t c hc c2 hc2 e2
          exact (mset_j e2).trans (((ad.2 i hi).2 c2 hc2).trans ((ev2 w i c2).trans (ud_n (by omega)).symm))
      · have hne : lb (p.2.2.1 i) ≠ (t, 5, d) := by
          rw [b5 i hi]
          intro e
          cases e
          exact e1 rfl
        have t : ∀ c, c < 5 → ∀ c', c' < 5 → c' = c ∨ deeI c' + 8 ≤ deeI c ∨ deeI c + 8 ≤ deeI c' := by decide
        have := t c hc c2 hc2
        exact (congrFun (z hne) c2).trans (((ad.2 i hi).2 c2 hc2).trans ((ev2 w i c2).trans (ud_n (by
          rcases this with rfl | q | q <;> omega)).symm))
    · rw [e6]
      exact al.mv rfl (fun i hi e he => ⟨he, z (z0 (b6 i hi))⟩) (fun i hi c2 _ => hw _ (by omega))
    · rw [eh]
      exact ah.mv rfl (fun i hi e he => ⟨he, z (z0 (b7 i hi))⟩) (fun i hi c2 _ => hw _ (by omega))
    · rw [e42]
      exact ap.mv rfl (fun i hi e he => ⟨he, z (z0 (b8 i hi))⟩) (fun i hi c2 _ => hw _ (by omega))
    · exact ⟨⟨rs, ab⟩, fun k hk => by rw [hw (185 + k) (by omega)]; exact (congrFun (z (z0 b11)) k).trans (ab2 k hk)⟩
    · cases e : p.1.2.2.2.2.2.2 with
      | none =>
        rw [e] at aw
        cases dl with
        | none => trivial
        | some dv => exact aw.elim
      | some r =>
        rw [e] at aw
        cases dl with
        | none => exact aw.elim
        | some dv =>
          obtain ⟨⟨rs, l1⟩, l2⟩ := aw
          exact ⟨⟨rs, l1⟩, fun j hj => (congrFun (z (z0 (b12 r e))) j).trans (l2 j hj)⟩
  · have e37 : zh (upd w (deeI c + d) x) = zh w := by unfold zh; rw [hw 37 (by omega)]
    have e38 : zd (upd w (deeI c + d) x) = zd w := by unfold zd; rw [hw 38 (by omega)]
    have e6 : zb (upd w (deeI c + d) x) = zb w := by unfold zb; rw [hw 6 (by omega)]
    have e42 : zp (upd w (deeI c + d) x) = zp w := by unfold zp; rw [hw 42 (by omega)]
    have eh : hnL (upd w (deeI c + d) x) = hnL w := hnL_cg (hw 41 (by omega)) (fun i h1 h2 => hw i (by omega)) hz
    unfold HLb at B ⊢
    rw [e37, e38, e6, e42, eh]
    exact B
end OWN2
