/-! what an operation on one House leaves alone -/
section KEEP
variable {h h' h2 : DS} {t t' N d hh b : Nat} {p : Plc} {w w' : Arr} {dl : Option (Nat → Int32)} {LN : List Lin} {v : Int32} {lb : Nat → Nat × Nat × Nat}
def HLb (lb : Nat → Nat × Nat × Nat) (t : Nat) (p : Plc) (w : Arr) : Prop := lb t = (t, 0, 0) ∧ lb p.1.1 = (t, 1, 0) ∧ lb p.1.2.1 = (t, 2, 0) ∧ lb p.1.2.2.1 = (t, 3, 0) ∧ (∀ i, i < zh w → lb (p.2.1 i) = (t, 4, i)) ∧ (∀ i, i < zd w → lb (p.2.2.1 i) = (t, 5, i)) ∧
  (∀ i, i < zb w → (lb (p.2.2.2.1 i)).1 = 0) ∧ (∀ i, i < (hnL w).length → (lb (p.2.2.2.2.1 i)).1 = 0) ∧ (∀ i, i < zp w → (lb (p.2.2.2.2.2 i)).1 = 0) ∧ (lb p.1.2.2.2.1).1 = 0 ∧ (lb p.1.2.2.2.2.1).1 = 0 ∧ (lb p.1.2.2.2.2.2.1).1 = 0 ∧ ∀ r, p.1.2.2.2.2.2.2 = some r → (lb r).1 = 0
def KpH (lb : Nat → Nat × Nat × Nat) (t : Nat) (h h' : DS) : Prop := h'.1 = h.1 ∧ h.2.1.length ≤ h'.2.1.length ∧ ∀ c, c < h.2.1.length → (lb c).1 ≠ t → h'.2.1[c]? = h.2.1[c]? ∧ h'.2.2 c = h.2.2 c
theorem KpH.rf : KpH lb t h h := ⟨rfl, Nat.le_refl _, fun _ _ _ => ⟨rfl, rfl⟩⟩
theorem KpH.tr {lb' : Nat → Nat × Nat × Nat} (a : KpH lb t h h') (hl : ∀ c, c < h.2.1.length → lb' c = lb c) (q : KpH lb' t h' h2) : KpH lb t h h2 := by
  refine ⟨q.1.trans a.1, Nat.le_trans a.2.1 q.2.1, fun c hc hn => ?_⟩
  obtain ⟨a1, a2⟩ := a.2.2 c hc hn
  obtain ⟨b1, b2⟩ := q.2.2 c (Nat.lt_of_lt_of_le hc a.2.1) (by rw [hl c hc]; exact hn)
  exact ⟨b1.trans a1, b2.trans a2⟩
theorem len_of {c : Nat} {e : SE} (hs : h.2.1[c]? = some e) : c < h.2.1.length := (List.getElem?_eq_some_iff.mp hs).1
theorem RwH.mv {a n k z : Nat} {r : Nat → Nat} {f g : Nat → Nat → Int32} (R : RwH h a n k r z f) (ha : h'.2.1[a]? = h.2.1[a]?) (hr : ∀ i, i < z → ∀ e, h.2.1[r i]? = some e → h'.2.1[r i]? = some e ∧ h'.2.2 (r i) = h.2.2 (r i)) (hf : ∀ i, i < z → ∀ c, c < k → g i c = f i c) : RwH h' a n k r z g := by
  obtain ⟨⟨rs, e1, e2, e3, e4⟩, R⟩ := R
  refine ⟨⟨rs, ha.trans e1, e2, e3, e4⟩, fun i hi => ?_⟩
  obtain ⟨⟨rs2, q1⟩, q2⟩ := R i hi
  obtain ⟨g1, g2⟩ := hr i hi _ q1
  exact ⟨⟨rs2, g1⟩, fun c hc => by rw [g2, hf i hi c hc]; exact q2 c hc⟩
/-- another House stays as it was -/
theorem HouR.keep (H : HouR h t' p w dl) (B : HLb lb t' p w) (K : KpH lb t h h') (hne : t ≠ t') (h0 : t ≠ 0) : HouR h' t' p w dl := by
  obtain ⟨⟨a1, a2⟩, aI, am, ad, al, ah, ap, ⟨⟨rs, ab⟩, ab2⟩, aw⟩ := H
  obtain ⟨b0, b1, b2, b3, b4, b5, b6, b7, b8, b9, b10, b11, b12⟩ := B
  have z : ∀ {c : Nat} {e : SE}, h.2.1[c]? = some e → (lb c).1 ≠ t → h'.2.1[c]? = some e ∧ h'.2.2 c = h.2.2 c := fun hs hn => by
    obtain ⟨g1, g2⟩ := K.2.2 _ (len_of hs) hn
    exact ⟨g1.trans hs, g2⟩
  have zt : (lb t').1 ≠ t := by rw [b0]; exact fun e => hne e.symm
  have z2 : ∀ {c : Nat} {x : Nat × Nat}, lb c = (t', x) → (lb c).1 ≠ t := fun e => by rw [e]; exact fun e => hne e.symm
  have z0 : ∀ {c : Nat}, (lb c).1 = 0 → (lb c).1 ≠ t := fun e => by rw [e]; exact fun e => h0 e.symm
  obtain ⟨t1, t2⟩ := z a2 zt
  refine ⟨⟨a1, t1⟩, ?_, ?_, ?_, ?_, ?_, ?_, ?_, ?_⟩
  · unfold HouI at aI ⊢
    rw [t2]
    exact aI
  · obtain ⟨⟨rs, e1, -⟩, -⟩ := id am
    exact am.mv ((z e1 (z2 b1)).1.trans e1.symm) (fun i hi e he => z he (z2 (b4 i hi))) (fun _ _ _ _ => rfl)
  · obtain ⟨⟨rs, e1, -⟩, -⟩ := id ad
    exact ad.mv ((z e1 (z2 b2)).1.trans e1.symm) (fun i hi e he => z he (z2 (b5 i hi))) (fun _ _ _ _ => rfl)
  · obtain ⟨⟨rs, e1, -⟩, -⟩ := id al
    exact al.mv ((z e1 (z2 b3)).1.trans e1.symm) (fun i hi e he => z he (z0 (b6 i hi))) (fun _ _ _ _ => rfl)
  · obtain ⟨⟨rs, e1, -⟩, -⟩ := id ah
    exact ah.mv ((z e1 (z0 b9)).1.trans e1.symm) (fun i hi e he => z he (z0 (b7 i hi))) (fun _ _ _ _ => rfl)
  · obtain ⟨⟨rs, e1, -⟩, -⟩ := id ap
    exact ap.mv ((z e1 (z0 b10)).1.trans e1.symm) (fun i hi e he => z he (z0 (b8 i hi))) (fun _ _ _ _ => rfl)
  · obtain ⟨g1, g2⟩ := z ab (z0 b11)
    exact ⟨⟨rs, g1⟩, fun k hk => by rw [g2]; exact ab2 k hk⟩
  · cases e : p.1.2.2.2.2.2.2 with
    | none =>
      rw [e] at aw
      cases dl with
      | none => trivial
      | some dv => exact aw.elim
    | some r =>
      rw [e] at aw
      cases dl with
      | none => exact aw.elim
      | some dv =>
        obtain ⟨⟨rs, l1⟩, l2⟩ := aw
        obtain ⟨g1, g2⟩ := z l1 (z0 (b12 r e))
        exact ⟨⟨rs, g1⟩, fun j hj => by rw [g2]; exact l2 j hj⟩
theorem hnL_cg (h41 : w' 41 = w 41) (hw : ∀ i, 105 ≤ i → i < 153 → w' i = w i) (hz : zs w ≤ 16) : hnL w' = hnL w := by
  unfold hnL
  have e : zs w' = zs w := by unfold zs; rw [h41]
  rw [e]
  refine List.filter_congr fun i hi => ?_
  have := List.mem_range.mp hi
  rw [hw (105 + 3 * i) (by omega) (by omega)]
theorem hnL_mem {i : Nat} (hi : i < (hnL w).length) : (hnL w).getD i 0 < zs w := by
  have h1 : (hnL w).getD i 0 ∈ hnL w := by
    rw [List.getD_eq_getElem?_getD, List.getElem?_eq_getElem hi]
    exact List.getElem_mem hi
  exact List.mem_range.mp (List.mem_filter.mp h1).1
end KEEP
