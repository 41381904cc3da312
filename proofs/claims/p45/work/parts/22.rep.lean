/-! the state: the reference's row of numbers, and how the class's tables hold it -/
def zh (w : Arr) : Nat := nv (w 37)
def zd (w : Arr) : Nat := nv (w 38)
def zb (w : Arr) : Nat := nv (w 6)
def zs (w : Arr) : Nat := nv (w 41)
def zp (w : Arr) : Nat := nv (w 42)
def zq (w : Arr) : Nat := nv (w 44)
def zt (w : Arr) : Nat := nv (w 7)
def zv (w : Arr) : Nat := nv (w 8)
def cnt (w : Arr) (h : Nat) : Nat := if (List.range (zs w)).any (fun i => decide (w (105 + 3 * i) = nI 9) && decide (w (105 + 3 * i + 1) = nI h)) = true then 2 else 1
def heaV (w : Arr) (h c : Nat) : Int32 := if c = 0 then w (45 + h) else if c = 1 then w (57 + h) else if c = 2 then w (69 + h) else if c = 3 then b2i ((zt w).testBit h) else if c = 4 then b2i ((zv w).testBit h) else if c = 5 then w (9 + h) else if c = 6 then w (185 + h) else nI (cnt w h)
def deeV (w : Arr) (d c : Nat) : Int32 := if c = 0 then w (81 + d) else if c = 1 then w (89 + d) else if c = 2 then w (97 + d) else if c = 3 then w (21 + d) else w (29 + d)
def houI (c : Nat) : Nat := if c < 3 then c else if c = 3 then 39 else c - 1
def staK (x : Int32) : Int32 := if x = nI 7 then nI 264 else if x = nI 8 then nI 274 else if x = nI 9 then nI 275 else nI 276
def Cmp (j t : Nat) (w : Arr) (m : Mem) : Prop :=
  if j = 1 then m t 3 = w 37 ∧ ∀ h, h < zh w → ∀ c, c < 8 → m (t + 1) (h * 8 + c) = heaV w h c
  else if j = 3 then m t 3 = w 38 ∧ ∀ d, d < zd w → ∀ c, c < 5 → m (t + 1) (d * 5 + c) = deeV w d c
  else if j = 5 then m t 3 = nI 1 ∧ ∀ c, c < 7 → m (t + 1) c = w (houI c)
  else if j = 7 then m t 3 = w 6 ∧ ∀ i, i < 150 → ∀ c, c < 4 → m (t + 1) (i * 4 + c) = w (223 + 4 * i + c)
  else if j = 13 then m t 3 = w 41 ∧ ∀ i, i < zs w → m (t + 1) (i * 4 + 0) = staK (w (105 + 3 * i)) ∧ m (t + 1) (i * 4 + 1) = w (105 + 3 * i + 1) ∧ m (t + 1) (i * 4 + 2) = w (105 + 3 * i + 2)
  else if j = 15 then m t 3 = w 42 ∧ ∀ i, i < zp w → m (t + 1) (i * 4 + 1) = w (153 + 2 * i) ∧ m (t + 1) (i * 4 + 2) = w (153 + 2 * i + 1)
  else if j = 17 then m t 3 = w 43
  else if j = 19 then m t 3 = w 44 ∧ ∀ i, i < zq w → ∀ c, c < 2 → m (t + 1) (i * 2 + c) = w (197 + 2 * i + c)
  else if j = 21 then m t 3 = nI 10 ∧ ∀ v, v < 10 → m (t + 1) v = w (213 + v)
  else True
/-- the places that a component reads -/
def own (j i : Nat) : Bool :=
  if j = 1 then i = 37 || i = 7 || i = 8 || (9 ≤ i && i < 21) || (45 ≤ i && i < 81) || (185 ≤ i && i < 197) || i = 41 || (105 ≤ i && i < 153)
  else if j = 3 then i = 38 || (21 ≤ i && i < 37) || (81 ≤ i && i < 105)
  else if j = 5 then i < 6 || i = 39
  else if j = 7 then i = 6 || (223 ≤ i && i < 823)
  else if j = 13 then i = 41 || (105 ≤ i && i < 153)
  else if j = 15 then i = 42 || (153 ≤ i && i < 185)
  else if j = 17 then i = 43
  else if j = 19 then i = 44 || (197 ≤ i && i < 213)
  else 213 ≤ i && i < 223
def cmps : List Nat := [1, 3, 5, 7, 13, 15, 17, 19, 21]
/-- the fixed bounds of a state -/
def WFc (w : Arr) : Prop :=
  isn (w 37) 12 ∧ isn (w 38) 8 ∧ isn (w 6) 150 ∧ isn (w 41) 16 ∧ isn (w 42) 16 ∧ isn (w 43) 16 ∧ isn (w 44) 8 ∧ isn (w 7) (2 ^ zh w - 1) ∧ isn (w 8) (2 ^ zh w - 1) ∧
  (∀ h, h < zh w → isn (w (45 + h)) 9 ∧ isn (w (57 + h)) 9 ∧ isn (w (69 + h)) 9 ∧ isn (w (9 + h)) 99 ∧ isn (w (185 + h)) (2 ^ zh w - 1)) ∧
  (∀ h, h < 12 → zh w ≤ h → w (185 + h) = nI 0) ∧
  (∀ d, d < zd w → isn (w (81 + d)) 9 ∧ (∃ k, 1 ≤ k ∧ k ≤ 60 ∧ w (89 + d) = nI k)) ∧
  (∀ i, i < zs w → (∃ k, 7 ≤ k ∧ k ≤ 10 ∧ w (105 + 3 * i) = nI k ∧ (k = 7 → ∃ a, 1 ≤ a ∧ a ≤ 99 ∧ w (105 + 3 * i + 1) = nI a) ∧ (k = 8 → isn (w (105 + 3 * i + 1)) 20) ∧ (k = 9 → ∃ a, a < zh w ∧ w (105 + 3 * i + 1) = nI a) ∧ (k = 10 → isn (w (105 + 3 * i + 1)) 9999)) ∧ isn (w (105 + 3 * i + 2)) 9999) ∧
  (∀ i, i < zp w → isn (w (153 + 2 * i)) 9999 ∧ ∃ d, d < zd w ∧ w (153 + 2 * i + 1) = nI d) ∧
  (∀ v, v < 10 → isn (w (213 + v)) 9) ∧
  (∀ i, i < zq w → isn (w (197 + 2 * i)) (2 ^ zh w - 1) ∧ isn (w (197 + 2 * i + 1)) 12)
/-- MINUTE is at most B, AGAINS not above it -/
def WFm (B : Nat) (w : Arr) : Prop := ∃ a b, w 0 = nI a ∧ w 4 = nI b ∧ b ≤ a ∧ a ≤ B
/-- a house at b holds w and THE LAW -/
def HRep (b : Nat) (LN : List Lin) (w : Arr) (m : Mem) : Prop := Fx m ∧ (∀ j ∈ cmps, Cmp j (b + j) w m) ∧ lawC (b + 9) m LN ∧ lawOk LN
section HR
variable {b : Nat} {LN : List Lin} {w w' : Arr} {m m' : Mem}
theorem HRep.fx (h : HRep b LN w m) : Fx m := h.1
theorem HRep.hea (h : HRep b LN w m) : m (b + 1) 3 = w 37 ∧ ∀ h, h < zh w → ∀ c, c < 8 → m (b + 1 + 1) (h * 8 + c) = heaV w h c := h.2.1 1 (by decide)
theorem HRep.dee (h : HRep b LN w m) : m (b + 3) 3 = w 38 ∧ ∀ d, d < zd w → ∀ c, c < 5 → m (b + 3 + 1) (d * 5 + c) = deeV w d c := h.2.1 3 (by decide)
theorem HRep.hou (h : HRep b LN w m) : m (b + 5) 3 = nI 1 ∧ ∀ c, c < 7 → m (b + 5 + 1) c = w (houI c) := h.2.1 5 (by decide)
theorem HRep.boo (h : HRep b LN w m) : m (b + 7) 3 = w 6 ∧ ∀ i, i < 150 → ∀ c, c < 4 → m (b + 7 + 1) (i * 4 + c) = w (223 + 4 * i + c) := h.2.1 7 (by decide)
theorem HRep.sta (h : HRep b LN w m) : m (b + 13) 3 = w 41 ∧ ∀ i, i < zs w → m (b + 13 + 1) (i * 4 + 0) = staK (w (105 + 3 * i)) ∧ m (b + 13 + 1) (i * 4 + 1) = w (105 + 3 * i + 1) ∧ m (b + 13 + 1) (i * 4 + 2) = w (105 + 3 * i + 2) := h.2.1 13 (by decide)
theorem HRep.pro (h : HRep b LN w m) : m (b + 15) 3 = w 42 ∧ ∀ i, i < zp w → m (b + 15 + 1) (i * 4 + 1) = w (153 + 2 * i) ∧ m (b + 15 + 1) (i * 4 + 2) = w (153 + 2 * i + 1) := h.2.1 15 (by decide)
theorem HRep.gal (h : HRep b LN w m) : m (b + 17) 3 = w 43 := h.2.1 17 (by decide)
theorem HRep.cla (h : HRep b LN w m) : m (b + 19) 3 = w 44 ∧ ∀ i, i < zq w → ∀ c, c < 2 → m (b + 19 + 1) (i * 2 + c) = w (197 + 2 * i + c) := h.2.1 19 (by decide)
theorem HRep.mea (h : HRep b LN w m) : m (b + 21) 3 = nI 10 ∧ ∀ v, v < 10 → m (b + 21 + 1) v = w (213 + v) := h.2.1 21 (by decide)
theorem HRep.lawc (h : HRep b LN w m) : lawC (b + 9) m LN := h.2.2.1
theorem HRep.lawk (h : HRep b LN w m) : lawOk LN := h.2.2.2
theorem cnt_cg (hw : ∀ i, i = 41 ∨ (105 ≤ i ∧ i < 153) → w' i = w i) (h41 : zs w ≤ 16) (h : Nat) : cnt w' h = cnt w h := by
  have e : zs w' = zs w := by unfold zs; rw [hw 41 (Or.inl rfl)]
  unfold cnt
  rw [e]
  have : (List.range (zs w)).any (fun i => decide (w' (105 + 3 * i) = nI 9) && decide (w' (105 + 3 * i + 1) = nI h)) = (List.range (zs w)).any (fun i => decide (w (105 + 3 * i) = nI 9) && decide (w (105 + 3 * i + 1) = nI h)) := by
    rw [Bool.eq_iff_iff, List.any_eq_true, List.any_eq_true]
    constructor
    · rintro ⟨i, hi, hq⟩
      have := List.mem_range.mp hi
      rw [hw _ (Or.inr (by omega)), hw _ (Or.inr (by omega))] at hq
      exact ⟨i, hi, hq⟩
    · rintro ⟨i, hi, hq⟩
      have := List.mem_range.mp hi
      refine ⟨i, hi, ?_⟩
      rw [hw _ (Or.inr (by omega)), hw _ (Or.inr (by omega))]
      exact hq
  rw [this]
/-- the size of a component's table -/
def csize (j : Nat) : Nat := if j = 1 then 96 else if j = 3 then 40 else if j = 5 then 7 else if j = 7 then 600 else if j = 19 then 16 else if j = 21 then 10 else 64
/-- counts that must be small for a component to read what it owns alone -/
def sml (w : Arr) : Prop := zh w ≤ 12 ∧ zd w ≤ 8 ∧ zb w ≤ 150 ∧ zs w ≤ 16 ∧ zp w ≤ 16 ∧ zq w ≤ 8
theorem WFc.sml (h : WFc w) : sml w := ⟨h.1.le (by decide), h.2.1.le (by decide), h.2.2.1.le (by decide), h.2.2.2.1.le (by decide), h.2.2.2.2.1.le (by decide), h.2.2.2.2.2.2.1.le (by decide)⟩
theorem Cmp.cg {j t : Nat} (hj : j ∈ cmps) (hs : sml w) (h : Cmp j t w m) (h3 : m' t 3 = m t 3) (ha : m' (t + 1) = m (t + 1)) (hw : ∀ i, own j i = true → w' i = w i) : Cmp j t w' m' := by
  obtain ⟨s1, s2, s3, s4, s5, s6⟩ := hs
  have hj' : j = 1 ∨ j = 3 ∨ j = 5 ∨ j = 7 ∨ j = 13 ∨ j = 15 ∨ j = 17 ∨ j = 19 ∨ j = 21 := by simpa [cmps] using hj
  rcases hj' with rfl | rfl | rfl | rfl | rfl | rfl | rfl | rfl | rfl
  · obtain ⟨h1, h2⟩ := h
    have e37 := hw 37 (by decide)
    have e7 : zt w' = zt w := by unfold zt; rw [hw 7 (by decide)]
    have e8 : zv w' = zv w := by unfold zv; rw [hw 8 (by decide)]
    have ez : zh w' = zh w := by unfold zh; rw [e37]
    have ec := fun h => cnt_cg (w := w) (w' := w') (fun i hi => hw i (by simp [own]; omega)) s4 h
    refine ⟨by rw [h3, h1, e37], fun h hh c hc => ?_⟩
    rw [ez] at hh
    rw [ha, h2 h hh c hc]
    unfold heaV
    rw [hw (45 + h) (by simp [own]; omega), hw (57 + h) (by simp [own]; omega), hw (69 + h) (by simp [own]; omega), hw (9 + h) (by simp [own]; omega), hw (185 + h) (by simp [own]; omega), e7, e8, ec h]
  · obtain ⟨h1, h2⟩ := h
    have e38 := hw 38 (by decide)
    have ez : zd w' = zd w := by unfold zd; rw [e38]
    refine ⟨by rw [h3, h1, e38], fun h hh c hc => ?_⟩
    rw [ez] at hh
    rw [ha, h2 h hh c hc]
    unfold deeV
    rw [hw (81 + h) (by simp [own]; omega), hw (89 + h) (by simp [own]; omega), hw (97 + h) (by simp [own]; omega), hw (21 + h) (by simp [own]; omega), hw (29 + h) (by simp [own]; omega)]
  · obtain ⟨h1, h2⟩ := h
    refine ⟨by rw [h3, h1], fun c hc => ?_⟩
    rw [ha, h2 c hc, hw (houI c) ?_]
    have : ∀ c, c < 7 → own 5 (houI c) = true := by decide
    exact this c hc
  · obtain ⟨h1, h2⟩ := h
    have e := hw 6 (by decide)
    refine ⟨by rw [h3, h1, e], fun i hi c hc => ?_⟩
    rw [ha, h2 i hi c hc, hw _ (by simp [own]; omega)]
  · obtain ⟨h1, h2⟩ := h
    have e := hw 41 (by decide)
    have ez : zs w' = zs w := by unfold zs; rw [e]
    refine ⟨by rw [h3, h1, e], fun i hi => ?_⟩
    rw [ez] at hi
    rw [ha, hw (105 + 3 * i) (by simp [own]; omega), hw (105 + 3 * i + 1) (by simp [own]; omega), hw (105 + 3 * i + 2) (by simp [own]; omega)]
    exact h2 i hi
  · obtain ⟨h1, h2⟩ := h
    have e := hw 42 (by decide)
    have ez : zp w' = zp w := by unfold zp; rw [e]
    refine ⟨by rw [h3, h1, e], fun i hi => ?_⟩
    rw [ez] at hi
    rw [ha, hw (153 + 2 * i) (by simp [own]; omega), hw (153 + 2 * i + 1) (by simp [own]; omega)]
    exact h2 i hi
  · have h : m t 3 = w 43 := h
    show m' t 3 = w' 43
    rw [h3, h, hw 43 (by decide)]
  · obtain ⟨h1, h2⟩ := h
    have e := hw 44 (by decide)
    have ez : zq w' = zq w := by unfold zq; rw [e]
    refine ⟨by rw [h3, h1, e], fun i hi c hc => ?_⟩
    rw [ez] at hi
    rw [ha, h2 i hi c hc, hw _ (by simp [own]; omega)]
  · obtain ⟨h1, h2⟩ := h
    refine ⟨by rw [h3, h1], fun v hv => ?_⟩
    rw [ha, h2 v hv, hw _ (by simp [own]; omega)]
theorem Cmp.cp {j t s : Nat} (hj : j ∈ cmps) (hs : sml w) (h : Cmp j s w m) : Cmp j t w (tcp m t s (csize j)) := by
  obtain ⟨s1, s2, s3, s4, s5, s6⟩ := hs
  have hj' : j = 1 ∨ j = 3 ∨ j = 5 ∨ j = 7 ∨ j = 13 ∨ j = 15 ∨ j = 17 ∨ j = 19 ∨ j = 21 := by simpa [cmps] using hj
  have e3 : ∀ z, tcp m t s z t 3 = m s 3 := fun z => tcp_n
  have ei : ∀ z i, i < z → tcp m t s z (t + 1) i = m (s + 1) i := fun z i hi => tcp_in hi (by omega)
  rcases hj' with rfl | rfl | rfl | rfl | rfl | rfl | rfl | rfl | rfl
  · obtain ⟨h1, h2⟩ := h
    exact ⟨(e3 _).trans h1, fun h hh c hc => (ei _ _ (show _ < 96 by omega)).trans (h2 h hh c hc)⟩
  · obtain ⟨h1, h2⟩ := h
    exact ⟨(e3 _).trans h1, fun h hh c hc => (ei _ _ (show _ < 40 by omega)).trans (h2 h hh c hc)⟩
  · obtain ⟨h1, h2⟩ := h
    exact ⟨(e3 _).trans h1, fun c hc => (ei _ _ (show _ < 7 by omega)).trans (h2 c hc)⟩
  · obtain ⟨h1, h2⟩ := h
    exact ⟨(e3 _).trans h1, fun h hh c hc => (ei _ _ (show _ < 600 by omega)).trans (h2 h hh c hc)⟩
  · obtain ⟨h1, h2⟩ := h
    refine ⟨(e3 _).trans h1, fun i hi => ?_⟩
    rw [show csize 13 = 64 from rfl, ei _ _ (show i * 4 + 0 < 64 by omega), ei _ _ (show i * 4 + 1 < 64 by omega), ei _ _ (show i * 4 + 2 < 64 by omega)]
    exact h2 i hi
  · obtain ⟨h1, h2⟩ := h
    refine ⟨(e3 _).trans h1, fun i hi => ?_⟩
    rw [show csize 15 = 64 from rfl, ei _ _ (show i * 4 + 1 < 64 by omega), ei _ _ (show i * 4 + 2 < 64 by omega)]
    exact h2 i hi
  · exact (e3 _).trans h
  · obtain ⟨h1, h2⟩ := h
    exact ⟨(e3 _).trans h1, fun h hh c hc => (ei _ _ (show _ < 16 by omega)).trans (h2 h hh c hc)⟩
  · obtain ⟨h1, h2⟩ := h
    exact ⟨(e3 _).trans h1, fun c hc => (ei _ _ (show _ < 10 by omega)).trans (h2 c hc)⟩
theorem lawC.cg {t : Nat} (h : lawC t m LN) (h1 : m' t 3 = m t 3) (h2 : m' (t + 1) = m (t + 1)) (h3 : m' (t + 2) 3 = m (t + 2) 3) (h4 : m' (t + 3) = m (t + 3)) : lawC t m' LN := by
  obtain ⟨a, n, c, d, e⟩ := h
  refine ⟨by rw [h1, a], n, c, by rw [h3, d], fun i l hl => ?_⟩
  obtain ⟨k, hk⟩ := e i l hl
  refine ⟨k, ?_⟩
  unfold lnC at hk ⊢
  rw [h2, h4]
  exact hk
/-- all of the house is as it was -/
theorem HRep.cg (h : HRep b LN w m) (hs : sml w) (hF : Fx m') (hm : ∀ k, b < k → k ≤ b + 22 → m' k = m k) (hw : ∀ j ∈ cmps, ∀ i, own j i = true → w' i = w i) : HRep b LN w' m' := by
  refine ⟨hF, fun j hj => ?_, ?_, h.lawk⟩
  · have : 1 ≤ j ∧ j ≤ 21 := by
      have : ∀ j ∈ cmps, 1 ≤ j ∧ j ≤ 21 := by decide
      exact this j hj
    exact Cmp.cg hj hs (h.2.1 j hj) (by rw [hm _ (by omega) (by omega)]) (hm _ (by omega) (by omega)) (hw j hj)
  · exact h.lawc.cg (by rw [hm _ (by omega) (by omega)]) (hm _ (by omega) (by omega)) (by rw [hm _ (by omega) (by omega)]) (hm _ (by omega) (by omega))
theorem HRep.fr {S : List (Nat × Nat)} (h : HRep b LN w m) (hs : sml w) (hf : Fr S m m') (hS : (tbs.all (fun q => S.all (fun p => decide (q.1 < p.1) || decide (p.2 < q.1))) && S.all (fun p => decide (b + 22 < p.1) || decide (p.2 ≤ b))) = true) : HRep b LN w m' := by
  rw [Bool.and_eq_true] at hS
  refine h.cg hs (h.fx.fr hf hS.1) (fun k h1 h2 => hf k (fun p hp => ?_)) (fun _ _ _ _ => rfl)
  have := List.all_eq_true.mp hS.2 p hp
  simp only [Bool.or_eq_true, decide_eq_true_eq] at this
  omega
/-- one component changed -/
theorem HRep.one {j0 : Nat} (h : HRep b LN w m) (hs : sml w) (hj0 : j0 ∈ cmps) (hF : Fx m') (hm : ∀ k, b < k → k ≤ b + 22 → k ≠ b + j0 → k ≠ b + j0 + 1 → m' k = m k) (hc : Cmp j0 (b + j0) w' m') (hw : ∀ j ∈ cmps, j ≠ j0 → ∀ i, own j i = true → w' i = w i) : HRep b LN w' m' := by
  have hb : ∀ j ∈ cmps, 1 ≤ j ∧ j ≤ 21 ∧ j % 2 = 1 ∧ j ≠ 9 ∧ j ≠ 11 := by decide
  obtain ⟨z1, z2, z3, z4, z5⟩ := hb j0 hj0
  refine ⟨hF, fun j hj => ?_, ?_, h.lawk⟩
  · by_cases e : j = j0
    · subst e; exact hc
    · obtain ⟨y1, y2, y3, y4, y5⟩ := hb j hj
      exact Cmp.cg hj hs (h.2.1 j hj) (by rw [hm _ (by omega) (by omega) (by omega) (by omega)]) (hm _ (by omega) (by omega) (by omega) (by omega)) (hw j hj e)
  · exact h.lawc.cg (by rw [hm _ (by omega) (by omega) (by omega) (by omega)]) (hm _ (by omega) (by omega) (by omega) (by omega)) (by rw [hm _ (by omega) (by omega) (by omega) (by omega)]) (hm _ (by omega) (by omega) (by omega) (by omega))
end HR
