/-! what is kept to be undone, on the law's side -/
section PASTH
variable {h h' h2 : DS} {t N d hh b c o u i k A : Nat} {p pb : Plc} {w w' a w2 : Arr} {dl : Option (Nat → Int32)} {LN : List Lin} {v x : Int32} {lb lb' : Nat → Nat × Nat × Nat} {T : Nat → Nat} {Pp : Nat → Plc} {f : Nat → Arr} {Q : Int32 → DS → Prop} {K : DS → DA} {tru : Bool}
/-- a's lines of THE BOOK stand in w -/
def bk (a w : Arr) : Prop := zb a ≤ zb w ∧ ∀ j, j < 4 * zb a → a (223 + j) = w (223 + j)
theorem bk.rf : bk w w := ⟨Nat.le_refl _, fun _ _ => rfl⟩
theorem bk.tr (h1 : bk a w) (h2 : bk w w') : bk a w' := ⟨Nat.le_trans h1.1 h2.1, fun j hj => (h1.2 j hj).trans (h2.2 j (by have := h1.1; omega))⟩
theorem bk.same (hw : ∀ i, i = 6 ∨ 223 ≤ i → w' i = w i) : bk w w' := by
  have e : zb w' = zb w := by unfold zb; rw [hw 6 (Or.inl rfl)]
  exact ⟨by rw [e]; exact Nat.le_refl _, fun j _ => (hw _ (Or.inr (by omega))).symm⟩
theorem bk.up (h6 : i ≠ 6) (hi : i < 223) : bk w (upd w i v) := bk.same (fun j hj => ud_n (by omega))
theorem bk.nte {c0 c1 c2 : Int32} (W0 : WFc w) : bk w (nteS w c0 c1 c2) := by
  have l := W0.lzb
  unfold nteS
  by_cases q : w 6 = nI 150
  · rw [if_pos q]
    exact bk.rf
  · rw [if_neg q]
    refine ⟨?_, fun j hj => ?_⟩
    · unfold zb
      rw [ud_s, nv_nI (by show nv (w 6) + 1 < _; have : nv (w 6) ≤ 150 := l; omega)]
      exact Nat.le_succ _
    · rw [ud_n (by omega), ud_n (by omega), ud_n (by omega), ud_n (by omega), ud_n (by omega)]
theorem bk.one (W0 : WFc w) (hd : d < zd w) : bk w (oneS LN tru w d) := by
  have l := W0.lzd
  have h1 : bk w (begS LN w d) := bk.same (fun i hi => begS_o (by omega))
  have h2 : ∀ w, bk w (dwS tru w) := fun w => by
    unfold dwS
    split
    · exact bk.up (by decide) (by decide)
    · exact bk.rf
  have h3 : ∀ w, bk w (cghW tru w) := fun w => by
    unfold cghW
    split
    · exact bk.up (by decide) (by decide)
    · exact bk.rf
  have h4 : bk w (w4S LN tru w d) := by
    unfold w4S
    have W3 := W0.w3 (LN := LN) (tru := tru) hd
    have h5 : bk w (w3S LN tru w d) := (h1.tr (h2 _)).tr (h3 _)
    split
    · exact h5.tr (bk.nte W3)
    · exact h5
  unfold oneS
  split
  · exact h4.tr (bk.nte (W0.w4 hd))
  · exact h4
theorem bk.dos : ∀ (k : Nat) (w : Arr) (n : Nat), WFc w → d < zd w → bk w (dosS LN tru d k w n).1
  | 0, w, n, W0, hd => bk.rf
  | k + 1, w, n, W0, hd => by
    have e := zd_one (LN := LN) (tru := tru) (w := w) (d := d) (by have := W0.lzd; omega)
    unfold dosS
    split
    · exact (bk.one W0 hd).tr (bk.dos k _ _ (W0.one hd) (by rw [e]; exact hd))
    · exact bk.one W0 hd
theorem bk.evl (W0 : WFc w) (hw : lawW w LN) : ∀ n, n ≤ zp w → bk w (evlS LN tru w n).1
  | 0, _ => by
    show bk w (ev0S w)
    unfold ev0S
    exact ((bk.up (by decide) (by decide)).tr (bk.up (by decide) (by decide))).tr (bk.up (by decide) (by decide))
  | n + 1, hn => by
    have ih := bk.evl W0 hw n (by omega)
    obtain ⟨W4, -, -⟩ := evlS_wf (LN := LN) (tru := tru) W0 hw n (by omega)
    obtain ⟨-, d, hd, ed⟩ := W0.pro (i := n) (by omega)
    have ld := W0.lzd
    have en : nv (w (153 + 2 * n + 1)) = d := by rw [ed, nv_nI (by omega)]
    have u : bk w (upd (evlS LN tru w n).1 0 (maxS ((evlS LN tru w n).1 0) (w (153 + 2 * n)))) := ih.tr (bk.up (by decide) (by decide))
    have W5 : WFc (upd (evlS LN tru w n).1 0 (maxS ((evlS LN tru w n).1 0) (w (153 + 2 * n)))) := W4.up (by decide)
    have z5 : zd (upd (evlS LN tru w n).1 0 (maxS ((evlS LN tru w n).1 0) (w (153 + 2 * n)))) = zd w := by
      unfold zd
      rw [ud_n (by decide), evlS_o W0 (by omega) n (by omega)]
    show bk w (if upd (evlS LN tru w n).1 0 (maxS ((evlS LN tru w n).1 0) (w (153 + 2 * n))) 0 < lstS w 10 (nI 300) (zs w) then ((dosS LN tru (nv (w (153 + 2 * n + 1))) 21 (upd (evlS LN tru w n).1 0 (maxS ((evlS LN tru w n).1 0) (w (153 + 2 * n)))) 0).1, (evlS LN tru w n).2 + (dosS LN tru (nv (w (153 + 2 * n + 1))) 21 (upd (evlS LN tru w n).1 0 (maxS ((evlS LN tru w n).1 0) (w (153 + 2 * n)))) 0).2) else (upd (evlS LN tru w n).1 0 (maxS ((evlS LN tru w n).1 0) (w (153 + 2 * n))), (evlS LN tru w n).2)).1
    split
    · rw [en]
      exact u.tr (bk.dos 21 _ 0 W5 (by rw [z5]; exact hd))
    · exact u
theorem bk.eve (W0 : WFc w) (hw : lawW w LN) : bk w (eveS LN tru w) := by
  unfold eveS
  exact (bk.evl W0 hw _ (Nat.le_refl _)).tr (bk.up (by decide) (by decide))
/-- the places that stay while things can be undone -/
def exI (j : Nat) : Prop := (37 ≤ j ∧ j < 40) ∨ (41 ≤ j ∧ j < 44) ∨ (45 ≤ j ∧ j < 197)
def exH (a w : Arr) : Prop := (∀ j, exI j → a j = w j) ∧ bk a w
theorem exH.rf : exH w w := ⟨fun _ _ => rfl, bk.rf⟩
theorem exH.tr (h1 : exH a w) (h2 : exH w w') : exH a w' := ⟨fun j hj => (h1.1 j hj).trans (h2.1 j hj), h1.2.tr h2.2⟩
theorem exH.up (h6 : i ≠ 6) (hi : i < 37) : exH w (upd w i v) := ⟨fun j hj => (ud_n (by unfold exI at hj; omega)).symm, bk.up h6 (by omega)⟩
theorem exH.nte {c0 c1 c2 : Int32} (W0 : WFc w) : exH w (nteS w c0 c1 c2) := ⟨fun j hj => (nteS_o (by unfold exI at hj; omega) (by unfold exI at hj; omega)).symm, bk.nte W0⟩
theorem exH.dos (W0 : WFc w) (hd : d < zd w) : exH w (dosS LN tru d 21 w 0).1 := ⟨fun j hj => (dosS_o 21 _ _ (by
  have := W0.lzd
  unfold exI at hj
  omega) (by unfold exI at hj; omega) (by unfold exI at hj; omega) (by unfold exI at hj; omega)).symm, bk.dos 21 _ 0 W0 hd⟩
theorem exH.eve (W0 : WFc w) (hw : lawW w LN) : exH w (eveS LN tru w) := ⟨fun j hj => (eveS_o W0 (by unfold exI at hj; omega)).symm, bk.eve W0 hw⟩
/-- another row that reads alike -/
theorem HouR.ex (H : HouR h t p a dl) (lo : ∀ j, j < 37 → w' j = a j) (ex : exH a w') (hs : sml a) : HouR h t p w' dl := by
  obtain ⟨s1, s2, s3, s4, s5, s6⟩ := hs
  obtain ⟨ex1, ex2, ex3⟩ := ex
  have hw : ∀ j, j < 40 ∨ (41 ≤ j ∧ j < 44) ∨ (45 ≤ j ∧ j < 197) → w' j = a j := fun j hj => by
    by_cases q : j < 37
    · exact lo j q
    · exact (ex1 j (by unfold exI; omega)).symm
  have e37 : zh w' = zh a := by unfold zh; rw [hw 37 (by decide)]
  have e38 : zd w' = zd a := by unfold zd; rw [hw 38 (by decide)]
  have e6 : zb w' = zb a := by unfold zb; rw [hw 6 (by decide)]
  have e42 : zp w' = zp a := by unfold zp; rw [hw 42 (by decide)]
  have eh : hnL w' = hnL a := hnL_cg (hw 41 (by decide)) (fun i h1 h2 => hw i (by omega)) s4
  have ez : zs w' = zs a := by unfold zs; rw [hw 41 (by decide)]
  obtain ⟨aO, aI, am, ad, al, ah, ap, ⟨aB, ab2⟩, aw⟩ := H
  refine ⟨aO, ?_, ?_, ?_, ?_, ?_, ?_, ⟨aB, fun k hk => by rw [hw (185 + k) (by omega)]; exact ab2 k hk⟩, aw⟩
  · have hr : ∀ i, 105 ≤ i → i < 153 → w' i = a i := fun i h1 h2 => hw i (by omega)
    unfold HouI at aI ⊢
    rw [ez, lst_cg s4 hr, lst_cg s4 hr, dbl_cg s4 (fun i hi => hw i (by omega)), hw 5 (by decide), hw 0 (by decide), hw 1 (by decide), hw 2 (by decide), hw 3 (by decide), hw 4 (by decide), hw 39 (by decide), hw 37 (by decide), hw 38 (by decide), hw 6 (by decide), hw 41 (by decide), hw 43 (by decide)]
    exact aI
  · rw [e37]
    refine am.mv rfl (fun i hi e he => ⟨he, rfl⟩) (fun i hi c2 _ => ?_)
    have ec : cnt w' i = cnt a i := cnt_cg (fun j hj => hw j (by omega)) s4 i
    unfold heaV
    rw [hw (45 + i) (by omega), hw (57 + i) (by omega), hw (69 + i) (by omega), hw (9 + i) (by omega), hw (185 + i) (by omega), ec, (show zt w' = zt a from by unfold zt; rw [hw 7 (by omega)]), (show zv w' = zv a from by unfold zv; rw [hw 8 (by omega)])]
  · rw [e38]
    refine ad.mv rfl (fun i hi e he => ⟨he, rfl⟩) (fun i hi c2 _ => ?_)
    unfold deeV
    rw [hw (81 + i) (by omega), hw (89 + i) (by omega), hw (97 + i) (by omega), hw (21 + i) (by omega), hw (29 + i) (by omega)]
  · rw [e6]
    exact al.mv rfl (fun i hi e he => ⟨he, rfl⟩) (fun i hi c2 hc => by
      have := ex3 (4 * i + c2) (by omega)
      rw [show 223 + 4 * i + c2 = 223 + (4 * i + c2) by omega]
      exact this.symm)
  · rw [eh]
    exact ah.mv rfl (fun i hi e he => ⟨he, rfl⟩) (fun i hi c2 _ => hw _ (by
      have := hnL_mem hi
      omega))
  · rw [e42]
    exact ap.mv rfl (fun i hi e he => ⟨he, rfl⟩) (fun i hi c2 _ => hw _ (by omega))
theorem HLb.ex (B : HLb lb t p a) (lo : ∀ j, j < 37 → w' j = a j) (ex : exH a w') (hs : sml a) : HLb lb t p w' := by
  obtain ⟨s1, s2, s3, s4, s5, s6⟩ := hs
  have hw : ∀ j, j < 40 ∨ (41 ≤ j ∧ j < 44) ∨ (45 ≤ j ∧ j < 197) → w' j = a j := fun j hj => by
    by_cases q : j < 37
    · exact lo j q
    · exact (ex.1 j (by unfold exI; omega)).symm
  have e37 : zh w' = zh a := by unfold zh; rw [hw 37 (by decide)]
  have e38 : zd w' = zd a := by unfold zd; rw [hw 38 (by decide)]
  have e6 : zb w' = zb a := by unfold zb; rw [hw 6 (by decide)]
  have e42 : zp w' = zp a := by unfold zp; rw [hw 42 (by decide)]
  have eh : hnL w' = hnL a := hnL_cg (hw 41 (by decide)) (fun i h1 h2 => hw i (by omega)) s4
  unfold HLb at B ⊢
  rw [e37, e38, e6, e42, eh]
  exact B
/-- k Houses are kept in the array A -/
def PsH (lb : Nat → Nat × Nat × Nat) (h : DS) (t A : Nat) (w : Arr) (dl : Option (Nat → Int32)) (k : Nat) (T : Nat → Nat) (Pp : Nat → Plc) (f : Nat → Arr) : Prop :=
  (∃ rs, h.2.1[A]? = some (104, 6, rs) ∧ rs.length = 6 ∧ ∀ i, i < k → rs.getD i none = some (T i)) ∧ 123 ≤ A ∧ (lb A).1 = 0 ∧
  ∀ i, i < k → (HouR h (T i) (Pp i) (f i) dl ∧ HLb lb (T i) (Pp i) (f i) ∧ PB (Pp i) ∧ exH (f i) w ∧ T i ≠ t) ∧ ∀ j, j < i → T j ≠ T i ∧ exH (f j) (f i)
theorem PsH.zero (P : PsH lb h t A w dl k T Pp f) : PsH lb h u A w' dl 0 T Pp f := by
  obtain ⟨⟨rs, e, l, -⟩, hA, lA, -⟩ := P
  exact ⟨⟨rs, e, l, fun i hi => absurd hi (by omega)⟩, hA, lA, fun i hi => absurd hi (by omega)⟩
theorem PsH.kp (P : PsH lb h t A w dl k T Pp f) (Kp : KpH lb u h h') (hu0 : u ≠ 0) (hu : ∀ i, i < k → u ≠ T i) (hl : ∀ c, c < h.2.1.length → lb' c = lb c) : PsH lb' h' t A w dl k T Pp f := by
  obtain ⟨⟨rs, e, l, q⟩, hA, lA, P⟩ := P
  refine ⟨⟨rs, ((Kp.2.2 A (len_of e) (by rw [lA]; exact fun z => hu0 z.symm)).1).trans e, l, q⟩, hA, by rw [hl A (len_of e)]; exact lA, fun i hi => ?_⟩
  obtain ⟨⟨H, B, b, ex, ne⟩, dj⟩ := P i hi
  exact ⟨⟨H.keep B Kp (hu i hi) hu0, B.re H hl, b, ex, ne⟩, dj⟩
theorem PsH.frl (P : PsH lb h t A w dl k T Pp f) (kl : lk h) (h0 : ∀ c, c < 123 → (lb c).1 = 0) (F : FrL h h') : PsH lb h' t A w dl k T Pp f := by
  obtain ⟨⟨rs, e, l, q⟩, hA, lA, P⟩ := P
  refine ⟨⟨rs, ((F.2 A (len_of e)).1).trans e, l, q⟩, hA, lA, fun i hi => ?_⟩
  obtain ⟨⟨H, B, b, ex, ne⟩, dj⟩ := P i hi
  exact ⟨⟨H.frl B b kl h0 F, B, b, ex, ne⟩, dj⟩
theorem PsH.re (P : PsH lb h t A w dl k T Pp f) (hl : ∀ c, c < h.2.1.length → lb' c = lb c) : PsH lb' h t A w dl k T Pp f := by
  obtain ⟨⟨rs, e, l, q⟩, hA, lA, P⟩ := P
  refine ⟨⟨rs, e, l, q⟩, hA, by rw [hl A (len_of e)]; exact lA, fun i hi => ?_⟩
  obtain ⟨⟨H, B, b, ex, ne⟩, dj⟩ := P i hi
  exact ⟨⟨H, B.re H hl, b, ex, ne⟩, dj⟩
theorem PsH.ex (P : PsH lb h t A w dl k T Pp f) (e : exH w w') : PsH lb h t A w' dl k T Pp f := by
  obtain ⟨p1, hA, lA, P⟩ := P
  refine ⟨p1, hA, lA, fun i hi => ?_⟩
  obtain ⟨⟨H, B, b, ex, ne⟩, dj⟩ := P i hi
  exact ⟨⟨H, B, b, ex.tr e, ne⟩, dj⟩
theorem PsH.lt (P : PsH lb h t A w dl k T Pp f) (hi : i < k) : T i < h.2.1.length := len_of (P.2.2.2 i hi).1.1.ob
end PASTH
