/-! a House copied -/
section COPYH
variable {h h' h2 h0 : DS} {t N d hh b c o u a1 : Nat} {p : Plc} {w w' : Arr} {dl : Option (Nat → Int32)} {x a : Int32} {rs : List (Option Nat)} {lb lb' : Nat → Nat × Nat × Nat} {Q : Int32 → DS → Prop}
/-- what was there is as it was -/
def FrA (h h' : DS) : Prop := h'.1 = h.1 ∧ h.2.1.length ≤ h'.2.1.length ∧ ∀ c, c < h.2.1.length → h'.2.1[c]? = h.2.1[c]? ∧ h'.2.2 c = h.2.2 c
theorem FrA.rf : FrA h h := ⟨rfl, Nat.le_refl _, fun _ _ => ⟨rfl, rfl⟩⟩
theorem FrA.tr (a : FrA h h') (q : FrA h' h2) : FrA h h2 := ⟨q.1.trans a.1, Nat.le_trans a.2.1 q.2.1, fun c hc => ⟨(q.2.2 c (Nat.lt_of_lt_of_le hc a.2.1)).1.trans (a.2.2 c hc).1, (q.2.2 c (Nat.lt_of_lt_of_le hc a.2.1)).2.trans (a.2.2 c hc).2⟩⟩
theorem FrA.kp (a : FrA h h') : KpH lb t h h' := ⟨a.1, a.2.1, fun c hc _ => a.2.2 c hc⟩
theorem HouR.fra (H : HouR h t p w dl) (B : HLb lb t p w) (a : FrA h h') : HouR h' t p w dl := by
  have l := len_of H.ob
  refine HouR.keep (lb := lb) (t := t + 1 + 0) H B ?_ ?_ ?_
  · exact a.kp
  · omega
  · omega
theorem RwH.lt {a n k i z : Nat} {r : Nat → Nat} {f : Nat → Nat → Int32} (R : RwH h a n k r z f) (hi : i < z) : r i < h.2.1.length := by
  obtain ⟨⟨rs, q⟩, -⟩ := R.2 _ hi
  exact len_of q
theorem RwH.la {a n k z : Nat} {r : Nat → Nat} {f : Nat → Nat → Int32} (R : RwH h a n k r z f) : a < h.2.1.length := by
  obtain ⟨⟨rs, q, -⟩, -⟩ := R
  exact len_of q
theorem lwR.lt {r : Nat} (H : HouR h t p w dl) (hr : p.1.2.2.2.2.2.2 = some r) : r < h.2.1.length := by
  have hlw := H.law
  rw [hr] at hlw
  cases dl with
  | none => exact hlw.elim
  | some dv =>
    obtain ⟨⟨rs, q⟩, -⟩ := hlw
    exact len_of q
/-- labels that agree where something lies -/
theorem HLb.re (H : HouR h t p w dl) (B : HLb lb t p w) (hl : ∀ c, c < h.2.1.length → lb' c = lb c) : HLb lb' t p w := by
  obtain ⟨b0, b1, b2, b3, b4, b5, b6, b7, b8, b9, b10, b11, b12⟩ := B
  obtain ⟨⟨rs, q⟩, -⟩ := H.bes
  refine ⟨(hl _ (len_of H.ob)).trans b0, (hl _ H.man.la).trans b1, (hl _ H.dee.la).trans b2, (hl _ H.lin.la).trans b3, fun i hi => (hl _ (H.man.lt hi)).trans (b4 i hi), fun i hi => (hl _ (H.dee.lt hi)).trans (b5 i hi), fun i hi => ?_, fun i hi => ?_, fun i hi => ?_, ?_, ?_, ?_, fun r hr => ?_⟩
  · rw [hl _ (H.lin.lt hi)]; exact b6 i hi
  · rw [hl _ (H.han.lt hi)]; exact b7 i hi
  · rw [hl _ (H.pro.lt hi)]; exact b8 i hi
  · rw [hl _ H.han.la]; exact b9
  · rw [hl _ H.pro.la]; exact b10
  · rw [hl _ (len_of q)]; exact b11
  · rw [hl _ (lwR.lt H hr)]; exact b12 r hr
theorem HS.re (H : HS lb h t p w dl) (hl : ∀ c, c < h.2.1.length → lb' c = lb c) : HS lb' h t p w dl := ⟨H.1, H.2.1.re H.1 hl, H.2.2.1, fun c hc => by
  rw [hl c (by
    have := len_of H.1.ob
    have := H.1.1.1
    omega)]
  exact H.2.2.2 c hc⟩
/-- k numbers are copied -/
def CpI (lb : Nat → Nat × Nat × Nat) (h0 : DS) (t u : Nat) (p : Plc) (w : Arr) (dl : Option (Nat → Int32)) (k : Nat) (h : DS) : Prop := HS lb h t p w dl ∧ h.2.1 = h0.2.1 ∧ h.1 = h0.1 ∧ (∀ c, c ≠ u → h.2.2 c = h0.2.2 c) ∧ ∀ i, i < k → h.2.2 u i = h0.2.2 t i
theorem cp_nx {f : DS → DA} (I : CpI lb h0 t u p w dl d h) (hu : h0.2.1[u]? = some (12, 25, rs)) (hut : u ≠ t) (hu0 : u ≠ 0) (h123 : 123 ≤ u) (hlu : (lb u).1 = u) (hd : d < 15) (hr : isR 12 d = false) (k : ∀ h1, CpI lb h0 t u p w dl (d + 1) h1 → Wd (f h1) Q) : Wd (bo (dI h t 12 d) fun a => bo (wI h u 12 d a) f) Q := by
  obtain ⟨I1, I2, I3, I4, I5⟩ := I
  refine c_wI (rs := rs) I1 (by rw [I2]; exact hu) hut hu0 h123 hlu (by omega) hr (fun h1 g1 _ g3 g4 g5 g6 g7 => k h1 ⟨g1, g3.trans I2, g4.trans I3, fun c hc => (g5 c hc).trans (I4 c hc), fun i hi => ?_⟩)
  by_cases e : i = d
  · subst e
    rw [g6, I4 t (fun z => hut z.symm)]
  · rw [g7 i e]
    exact I5 i (by omega)
end COPYH
