/-! an operation on a House's own cells -/
section OWN
variable {h h' h2 : DS} {t N d hh b c : Nat} {p : Plc} {w w' : Arr} {dl : Option (Nat → Int32)} {LN : List Lin} {v x : Int32} {lb : Nat → Nat × Nat × Nat}
theorem lst_cg {k : Nat} {wo : Int32} : ∀ {n : Nat}, n ≤ 16 → (∀ i, 105 ≤ i → i < 153 → w' i = w i) → lstS w' k wo n = lstS w k wo n
  | 0, _, _ => rfl
  | n + 1, hn, hw => by
    unfold lstS
    rw [hw (105 + 3 * n) (by omega) (by omega), hw (105 + 3 * n + 1) (by omega) (by omega), lst_cg (by omega) hw]
theorem dbl_cg (hz : zs w ≤ 16) (hw : ∀ i, i = 41 ∨ (105 ≤ i ∧ i < 153) → w' i = w i) : ∀ n, dblS w' n = dblS w n
  | 0 => rfl
  | n + 1 => by
    unfold dblS
    rw [dbl_cg hz hw n, cnt_cg hw hz n]
/-- the numbers of the row that a House's own fields and its texts hold -/
def isFld (i : Nat) : Prop := i < 7 ∨ (37 ≤ i ∧ i < 45) ∨ (105 ≤ i ∧ i < 197)
theorem HouI.cg (I : HouI h t w) (hm : h'.2.2 t = h.2.2 t) (hz : zs w ≤ 16) (hw : ∀ i, isFld i → w' i = w i) : HouI h' t w' := by
  have e41 : w' 41 = w 41 := hw 41 (Or.inr (Or.inl ⟨by decide, by decide⟩))
  have ez : zs w' = zs w := by unfold zs; rw [e41]
  have hr : ∀ i, 105 ≤ i → i < 153 → w' i = w i := fun i h1 h2 => hw i (Or.inr (Or.inr ⟨h1, by omega⟩))
  unfold HouI at I ⊢
  rw [hm, ez, lst_cg hz hr, lst_cg hz hr, dbl_cg hz (fun i hi => by
    rcases hi with rfl | ⟨a, b⟩
    · exact e41
    · exact hr i a b), hw 5 (Or.inl (by decide)), hw 0 (Or.inl (by decide)), hw 1 (Or.inl (by decide)), hw 2 (Or.inl (by decide)), hw 3 (Or.inl (by decide)), hw 4 (Or.inl (by decide)), hw 39 (Or.inr (Or.inl ⟨by decide, by decide⟩)), hw 37 (Or.inr (Or.inl ⟨by decide, by decide⟩)), hw 38 (Or.inr (Or.inl ⟨by decide, by decide⟩)), hw 6 (Or.inl (by decide)), e41, hw 43 (Or.inr (Or.inl ⟨by decide, by decide⟩))]
  exact I
theorem ne_of_tag {a c t1 t2 n1 n2 : Nat} {r1 r2 : List (Option Nat)} (h1 : h.2.1[a]? = some (t1, n1, r1)) (h2 : h.2.1[c]? = some (t2, n2, r2)) (hne : t1 ≠ t2) : a ≠ c := by
  intro e
  subst e
  rw [h1] at h2
  cases h2
  exact hne rfl
/-- the House's own numbers alone changed -/
theorem HouR.low (H : HouR h t p w dl) (hs : h'.2.1 = h.2.1) (hm : ∀ c, c ≠ t → h'.2.2 c = h.2.2 c) (hw : ∀ i, 6 ≤ i → w' i = w i) (hz : zs w ≤ 16) (hI : HouI h' t w') : HouR h' t p w' dl := by
  obtain ⟨⟨a1, a2⟩, -, am, ad, al, ah, ap, ⟨⟨rs, ab⟩, ab2⟩, aw⟩ := H
  have z : ∀ {c n k : Nat} {r : List (Option Nat)}, h.2.1[c]? = some (n, k, r) → n ≠ 12 → h'.2.1[c]? = some (n, k, r) ∧ h'.2.2 c = h.2.2 c := fun q hne => ⟨by rw [hs]; exact q, hm _ (ne_of_tag q a2 hne)⟩
  have zR : ∀ {i : Nat} {n k : Nat} {r : Nat → Nat} {a zz : Nat} {f : Nat → Nat → Int32}, RwH h a n k r zz f → i < zz → ∀ e, h.2.1[r i]? = some e → h'.2.1[r i]? = some e ∧ h'.2.2 (r i) = h.2.2 (r i) := fun R hi e he => by
    obtain ⟨⟨rs, q⟩, -⟩ := R.2 _ hi
    rw [q] at he
    cases he
    exact z q (by decide)
  have ha : ∀ a : Nat, h'.2.1[a]? = h.2.1[a]? := fun a => by rw [hs]
  have e37 : zh w' = zh w := by unfold zh; rw [hw 37 (by decide)]
  have e38 : zd w' = zd w := by unfold zd; rw [hw 38 (by decide)]
  have e6 : zb w' = zb w := by unfold zb; rw [hw 6 (by decide)]
  have e42 : zp w' = zp w := by unfold zp; rw [hw 42 (by decide)]
  have eh : hnL w' = hnL w := hnL_cg (hw 41 (by decide)) (fun i h1 h2 => hw i (by omega)) hz
  have eV : heaV w' = heaV w := by
    funext i k
    have ec : cnt w' i = cnt w i := cnt_cg (fun j hj => hw j (by omega)) hz i
    unfold heaV
    rw [hw (45 + i) (by omega), hw (57 + i) (by omega), hw (69 + i) (by omega), hw (9 + i) (by omega), hw (185 + i) (by omega), ec, (show zt w' = zt w from by unfold zt; rw [hw 7 (by decide)]), (show zv w' = zv w from by unfold zv; rw [hw 8 (by decide)])]
  have eD : deeV w' = deeV w := by
    funext i k
    unfold deeV
    rw [hw (81 + i) (by omega), hw (89 + i) (by omega), hw (97 + i) (by omega), hw (21 + i) (by omega), hw (29 + i) (by omega)]
  refine ⟨⟨a1, by rw [hs]; exact a2⟩, hI, ?_, ?_, ?_, ?_, ?_, ?_, ?_⟩
  · rw [e37, eV]
    exact am.mv (ha _) (fun i hi e he => zR am hi e he) (fun _ _ _ _ => rfl)
  · rw [e38, eD]
    exact ad.mv (ha _) (fun i hi e he => zR ad hi e he) (fun _ _ _ _ => rfl)
  · rw [e6]
    exact al.mv (ha _) (fun i hi e he => zR al hi e he) (fun i _ c _ => hw _ (by omega))
  · rw [eh]
    exact ah.mv (ha _) (fun i hi e he => zR ah hi e he) (fun i _ c _ => hw _ (by omega))
  · rw [e42]
    exact ap.mv (ha _) (fun i hi e he => zR ap hi e he) (fun i _ c _ => hw _ (by omega))
  · obtain ⟨g1, g2⟩ := z ab (by decide)
    exact ⟨⟨rs, g1⟩, fun k hk => by rw [g2, hw (185 + k) (by omega)]; exact ab2 k hk⟩
  · cases e : p.1.2.2.2.2.2.2 with
    | none =>
      rw [e] at aw
      cases dl with
      | none => trivial
      | some dv => exact aw.elim
    | some r =>
      rw [e] at aw
      cases dl with
      | none => exact aw.elim
      | some dv =>
        obtain ⟨⟨rs, l1⟩, l2⟩ := aw
        obtain ⟨g1, g2⟩ := z l1 (by decide)
        exact ⟨⟨rs, g1⟩, fun j hj => by rw [g2]; exact l2 j hj⟩
theorem hs_wI (H : HouR h t p w dl) {j : Nat} (hj : j < 25) (hr : isR 12 j = false) : wI h t 12 j v = some (h.1, h.2.1, mset h.2.2 t j v) := e_wI H.ob hj hr H.1.1
theorem kp_set {j : Nat} (hl : lb t = (t, 0, 0)) : KpH lb t h (h.1, h.2.1, mset h.2.2 t j v) := ⟨rfl, Nat.le_refl _, fun c hc hn => ⟨rfl, mset_ne (fun e => hn (by rw [e, hl]))⟩⟩
/-- a drawn number -/
theorem h_draw (H : HouR h t p w dl) (B : lb t = (t, 0, 0)) (hz : zs w ≤ 16) : Wd (g_X12_draw N t (nI 1000) h) (fun v h' => v = valS (drwS (w 5)) ∧ HouR h' t p (upd w 5 (drwS (w 5))) dl ∧ KpH lb t h h' ∧ h'.2.1 = h.2.1 ∧ (∀ c, c ≠ t → h'.2.2 c = h.2.2 c) ∧ ∀ j, j ≠ 0 → h'.2.2 t j = h.2.2 t j) := by
  have hI := H.int
  unfold g_X12_draw
  refine wd_bo (hs_I H (by decide) (by decide)) (wd_bo (hs_wI H (by decide) (by decide)) ?_)
  have e0 : (1664525 : Int32) * h.2.2 t 0 + (1013904223 : Int32) = drwS (w 5) := by
    rw [hI.1, Int32.mul_comm]
    rfl
  rw [e0]
  have H1 : HouR (h.1, h.2.1, mset h.2.2 t 0 (drwS (w 5))) t p (upd w 5 (drwS (w 5))) dl := by
    refine H.low rfl (fun c hc => mset_ne hc) (fun i hi => ud_n (by omega)) hz ?_
    have hr : ∀ i, 105 ≤ i → i < 153 → upd w 5 (drwS (w 5)) i = w i := fun i h1 h2 => ud_n (by omega)
    have ez : zs (upd w 5 (drwS (w 5))) = zs w := by unfold zs; rw [ud_n (by decide)]
    have m1 : ∀ j, j ≠ 0 → mset h.2.2 t 0 (drwS (w 5)) t j = h.2.2 t j := fun j hj => mset_j hj
    unfold HouI at hI ⊢
    refine ⟨(mset_at _ _ _ _).trans ud_s.symm, ?_⟩
    dsimp only
    rw [m1 1 (by decide), m1 2 (by decide), m1 3 (by decide), m1 4 (by decide), m1 5 (by decide), m1 6 (by decide), m1 7 (by decide), m1 8 (by decide), m1 9 (by decide), m1 10 (by decide), m1 11 (by decide), m1 12 (by decide), m1 13 (by decide), m1 14 (by decide), ez, lst_cg hz hr, lst_cg hz hr, dbl_cg hz (fun i hi => ud_n (by omega)), ud_n (by decide), ud_n (by decide), ud_n (by decide), ud_n (by decide), ud_n (by decide), ud_n (by decide), ud_n (by decide), ud_n (by decide), ud_n (by decide), ud_n (by decide), ud_n (by decide)]
    exact hI.2
  refine wd_bo (hs_I H1 (by decide) (by decide)) (wd_chk (by decide) (wd_ret ⟨?_, H1, kp_set B, rfl, fun c hc => mset_ne hc, fun j hj => mset_j hj⟩))
  show irm (ushr (mset h.2.2 t 0 (drwS (w 5)) t 0) 8) (nI 1000) = _
  rw [mset_at]
  rfl
end OWN
