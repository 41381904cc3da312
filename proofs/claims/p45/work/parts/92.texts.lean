/-! the state behind a text -/
section TEXTS
variable {N : Nat} {m m1 m' m2 m3 m5 : Mem} {w w' : Arr} {LN LN0 : List Lin} {C : Cod} {R : List Rw4} {b z : Nat} {hD : Int32}
theorem cdAt_of {a : Arr} : ∀ {L : List (Int32 × Int32)} {x : Nat}, (∀ i p, L[i]? = some p → a ((x + i) * 2 + 0) = p.1 ∧ a ((x + i) * 2 + 1) = p.2) → cdAt a x L
  | [], _, _ => trivial
  | p :: r, x, h => by
    obtain ⟨h1, h2⟩ := h 0 p rfl
    refine ⟨h1, h2, cdAt_of (L := r) (fun i q hq => ?_)⟩
    have := h (i + 1) q hq
    rw [show x + (i + 1) = x + 1 + i by omega] at this
    exact this
theorem lawC_of (hr : rwT 11 m R) (hc : m 13 3 = nI C.length) (hC : C.length ≤ 400) (hcd : cdR (m 14) C) (hl : R.length = LN.length) (h : ∀ i l, LN[i]? = some l → rowC C R i l) : lawC 11 m LN := by
  refine ⟨by rw [hr.1, hl], C.length, hC, hc, fun i l hl => ?_⟩
  obtain ⟨c, h1, h2, h3⟩ := h i l hl
  obtain ⟨r1, r2, r3, r4⟩ := hr.2 i _ h1
  refine ⟨c, r1, r2, r3, r4, h2, cdAt_of (fun x p hp => hcd _ p (h3 x p (app_at hp))), cdAt_of (fun x p hp => ?_)⟩
  have := hcd _ p (h3 _ p (app_in (L1 := flt l.2.1) hp))
  rw [show c + ((flt l.2.1).length + x) = c + (flt l.2.1).length + x by omega] at this
  exact this
/-- THE LAW alone changed -/
theorem HRep.law (H : HRep 2 LN0 w m) (hs : sml w) (hF : Fx m') (hm : ∀ x, 2 < x → x ≤ 24 → x ≠ 11 → x ≠ 12 → x ≠ 13 → x ≠ 14 → m' x = m x) (hw : ∀ i, i ≠ 40 → i < 823 → w' i = w i) (hc : lawC 11 m' LN) (ho : lawOk LN) : HRep 2 LN w' m' := by
  have hb : ∀ j ∈ cmps, 1 ≤ j ∧ j ≤ 21 ∧ j % 2 = 1 ∧ j ≠ 9 ∧ j ≠ 11 := by decide
  refine ⟨hF, fun j hj => ?_, hc, ho⟩
  obtain ⟨y1, y2, y3, y4, y5⟩ := hb j hj
  refine Cmp.cg hj hs (H.2.1 j hj) (by rw [hm _ (by omega) (by omega) (by omega) (by omega) (by omega) (by omega)]) (hm _ (by omega) (by omega) (by omega) (by omega) (by omega) (by omega)) (fun i hi => ?_)
  have hj' : j = 1 ∨ j = 3 ∨ j = 5 ∨ j = 7 ∨ j = 13 ∨ j = 15 ∨ j = 17 ∨ j = 19 ∨ j = 21 := by simpa [cmps] using hj
  have : i ≠ 40 ∧ i < 823 := by
    rcases hj' with rfl | rfl | rfl | rfl | rfl | rfl | rfl | rfl | rfl
    all_goals simp [own] at hi
    all_goals omega
  exact hw i this.1 this.2
/-- two components changed -/
theorem HRep.two {j0 j1 : Nat} (h : HRep b LN w m) (hs : sml w) (hj0 : j0 ∈ cmps) (hj1 : j1 ∈ cmps) (hF : Fx m') (hm : ∀ k, b < k → k ≤ b + 22 → k ≠ b + j0 → k ≠ b + j0 + 1 → k ≠ b + j1 → k ≠ b + j1 + 1 → m' k = m k) (hc0 : Cmp j0 (b + j0) w' m') (hc1 : Cmp j1 (b + j1) w' m') (hw : ∀ j ∈ cmps, j ≠ j0 → j ≠ j1 → ∀ i, own j i = true → w' i = w i) : HRep b LN w' m' := by
  have hb : ∀ j ∈ cmps, 1 ≤ j ∧ j ≤ 21 ∧ j % 2 = 1 ∧ j ≠ 9 ∧ j ≠ 11 := by decide
  obtain ⟨z1, z2, z3, z4, z5⟩ := hb j0 hj0
  obtain ⟨x1, x2, x3, x4, x5⟩ := hb j1 hj1
  refine ⟨hF, fun j hj => ?_, ?_, h.lawk⟩
  · by_cases e : j = j0
    · subst e; exact hc0
    · by_cases e1 : j = j1
      · subst e1; exact hc1
      · obtain ⟨y1, y2, y3, y4, y5⟩ := hb j hj
        exact Cmp.cg hj hs (h.2.1 j hj) (by rw [hm _ (by omega) (by omega) (by omega) (by omega) (by omega) (by omega)]) (hm _ (by omega) (by omega) (by omega) (by omega) (by omega) (by omega)) (hw j hj e e1)
  · exact h.lawc.cg (by rw [hm _ (by omega) (by omega) (by omega) (by omega) (by omega) (by omega)]) (hm _ (by omega) (by omega) (by omega) (by omega) (by omega) (by omega)) (by rw [hm _ (by omega) (by omega) (by omega) (by omega) (by omega) (by omega)]) (hm _ (by omega) (by omega) (by omega) (by omega) (by omega) (by omega))
/-- a statute's row on both sides -/
theorem sta_row {q : Rw4} (h : vR 1 (nI z - nI 1) hD q) (hz : z ≤ 12) : nI q.1 = staK (nI (trK 1 q.1)) ∧ (nI (trK 1 q.1) = nI 9 ↔ q.1 = 275) ∧ (∃ k, 7 ≤ k ∧ k ≤ 10 ∧ nI (trK 1 q.1) = nI k ∧ (k = 7 → ∃ a, 1 ≤ a ∧ a ≤ 99 ∧ q.2.1 = nI a) ∧ (k = 8 → isn q.2.1 20) ∧ (k = 9 → ∃ a, a < z ∧ q.2.1 = nI a) ∧ (k = 10 → isn q.2.1 9999)) ∧ isn q.2.2.1 9999 := by
  have h9 := fun z5 => vR1 h hz z5
  obtain ⟨hb, -, h1, -, -⟩ := h
  obtain ⟨a1, a2, a3, -, a5⟩ := h1 rfl
  have hk0 : q.1 = 264 ∨ q.1 = 274 ∨ q.1 = 275 ∨ q.1 = 276 := by
    have : q.1 = 264 ∨ (274 ≤ q.1 ∧ q.1 ≤ 276) := of_decide_eq_true hb
    omega
  have rng : ∀ {a : Int32} {l h : Nat}, l < 2 ^ 31 → h < 2 ^ 31 → nI l ≤ a ∧ a ≤ nI h → ∃ k, l ≤ k ∧ k ≤ h ∧ a = nI k := fun hl hh hq => rng_of hl hh (decide_eq_true hq)
  rcases hk0 with e | e | e | e
  · obtain ⟨c1, c2⟩ := a1 e
    obtain ⟨x, x1, x2, x3⟩ := rng (by decide) (by decide) c1
    obtain ⟨y, y1, y2, y3⟩ := rng (by decide) (by decide) c2
    rw [e]
    exact ⟨by decide, by decide, ⟨7, by decide, by decide, by decide, fun _ => ⟨x, x1, x2, x3⟩, fun z => absurd z (by decide), fun z => absurd z (by decide), fun z => absurd z (by decide)⟩, ⟨y, y2, y3⟩⟩
  · obtain ⟨x, x1, x2, x3⟩ := rng (by decide) (by decide) (a3 e)
    rw [a2 (by omega), e]
    exact ⟨by decide, by decide, ⟨8, by decide, by decide, by decide, fun z => absurd z (by decide), fun _ => ⟨x, x2, x3⟩, fun z => absurd z (by decide), fun z => absurd z (by decide)⟩, isn.nI (by decide)⟩
  · have h9 := h9 e
    rw [a2 (by omega), e]
    exact ⟨by decide, by decide, ⟨9, by decide, by decide, by decide, fun z => absurd z (by decide), fun z => absurd z (by decide), fun _ => h9, fun z => absurd z (by decide)⟩, isn.nI (by decide)⟩
  · obtain ⟨x, x1, x2, x3⟩ := rng (by decide) (by decide) (a5 e)
    rw [a2 (by omega), e]
    exact ⟨by decide, by decide, ⟨10, by decide, by decide, by decide, fun z => absurd z (by decide), fun z => absurd z (by decide), fun z => absurd z (by decide), fun _ => ⟨x, x2, x3⟩⟩, isn.nI (by decide)⟩
theorem own_1 {j i : Nat} (hj : j ∈ cmps) (h1 : j ≠ 1) (h2 : j ≠ 13) (hi : own j i = true) : i ≠ 41 ∧ (i < 105 ∨ 153 ≤ i) := by
  have hj' : j = 1 ∨ j = 3 ∨ j = 5 ∨ j = 7 ∨ j = 13 ∨ j = 15 ∨ j = 17 ∨ j = 19 ∨ j = 21 := by simpa [cmps] using hj
  rcases hj' with rfl | rfl | rfl | rfl | rfl | rfl | rfl | rfl | rfl
  all_goals simp [own] at hi
  all_goals omega
theorem own_2 {j i : Nat} (hj : j ∈ cmps) (h1 : j ≠ 15) (hi : own j i = true) : i ≠ 42 ∧ (i < 153 ∨ 185 ≤ i) := by
  have hj' : j = 1 ∨ j = 3 ∨ j = 5 ∨ j = 7 ∨ j = 13 ∨ j = 15 ∨ j = 17 ∨ j = 19 ∨ j = 21 := by simpa [cmps] using hj
  rcases hj' with rfl | rfl | rfl | rfl | rfl | rfl | rfl | rfl | rfl
  all_goals simp [own] at hi
  all_goals omega
theorem own_3 {j i : Nat} (hj : j ∈ cmps) (h1 : j ≠ 1) (h2 : j ≠ 17) (hi : own j i = true) : i ≠ 43 ∧ (i < 185 ∨ 197 ≤ i) := by
  have hj' : j = 1 ∨ j = 3 ∨ j = 5 ∨ j = 7 ∨ j = 13 ∨ j = 15 ∨ j = 17 ∨ j = 19 ∨ j = 21 := by simpa [cmps] using hj
  rcases hj' with rfl | rfl | rfl | rfl | rfl | rfl | rfl | rfl | rfl
  all_goals simp [own] at hi
  all_goals omega
theorem heaV_7 {h : Nat} : heaV w h 7 = nI (cnt w h) := by
  unfold heaV
  rw [if_neg (by decide), if_neg (by decide), if_neg (by decide), if_neg (by decide), if_neg (by decide), if_neg (by decide), if_neg (by decide)]
/-- THE STATUTE -/
theorem tx_sta (H : HRep 2 LN w m) (W0 : WFc w) (hz : z = zh w) (hF : Fx m') (hm : ∀ x, 2 < x → x < 99 → x ≠ 4 → x ≠ 15 → x ≠ 16 → x ≠ 48 → m' x = m x) (hr : rwT 15 m' R) (hr16 : R.length ≤ 16)
    (h7 : ∀ h, h < z → m' 4 (h * 8 + 7) = nI (if anR (rK R) (rX R) h R.length = true then 2 else 1)) (h6 : ∀ h c, h < z → c < 7 → m' 4 (h * 8 + c) = m 4 (h * 8 + c)) (hv : ∀ q ∈ R, ∃ hD, vR 1 (nI z - nI 1) hD q)
    (w41 : w' 41 = nI R.length) (hw : ∀ i, i ≠ 41 → (i < 105 ∨ 153 ≤ i) → w' i = w i) (hwr : ∀ i q, R[i]? = some q → w' (105 + 3 * i) = nI (trK 1 q.1) ∧ w' (105 + 3 * i + 1) = q.2.1 ∧ w' (105 + 3 * i + 2) = q.2.2.1) : HRep 2 LN w' m' ∧ WFc w' := by
  subst hz
  obtain ⟨a1, a2, a3, a4, a5, a6, a7, a8, a9, b1, b2, b3, b4, b5, b6, b7⟩ := id W0
  obtain ⟨s1, s2, s3, s4, s5, s6⟩ := W0.sml
  have ezh : zh w' = zh w := by unfold zh; rw [hw 37 (by omega) (by omega)]
  have ezd : zd w' = zd w := by unfold zd; rw [hw 38 (by omega) (by omega)]
  have ezs : zs w' = R.length := by unfold zs; rw [w41, nv_nI (by omega)]
  have ezp : zp w' = zp w := by unfold zp; rw [hw 42 (by omega) (by omega)]
  have ezq : zq w' = zq w := by unfold zq; rw [hw 44 (by omega) (by omega)]
  have ezt : zt w' = zt w := by unfold zt; rw [hw 7 (by omega) (by omega)]
  have ezv : zv w' = zv w := by unfold zv; rw [hw 8 (by omega) (by omega)]
  have hcnt : ∀ h, cnt w' h = if anR (rK R) (rX R) h R.length = true then 2 else 1 := by
    intro h
    unfold cnt anR
    rw [ezs]
    have : (List.range R.length).any (fun i => decide (w' (105 + 3 * i) = nI 9) && decide (w' (105 + 3 * i + 1) = nI h)) = (List.range R.length).any (fun l => decide (rK R l = 275) && decide (rX R l = nI h)) := by
      have pt : ∀ i, i < R.length → (decide (w' (105 + 3 * i) = nI 9) && decide (w' (105 + 3 * i + 1) = nI h)) = (decide (rK R i = 275) && decide (rX R i = nI h)) := by
        intro i hi
        obtain ⟨q, hq⟩ := get_lt hi
        obtain ⟨c1, c2, -⟩ := hwr i q hq
        obtain ⟨k1, k2⟩ := rK_at hq
        obtain ⟨hD, vq⟩ := hv q (List.mem_of_getElem? hq)
        rw [c1, c2, k1, k2, decide_eq_decide.mpr (sta_row vq s1).2.1]
      rw [Bool.eq_iff_iff, List.any_eq_true, List.any_eq_true]
      constructor
      · rintro ⟨i, hi, hq⟩
        exact ⟨i, hi, by rw [← pt i (List.mem_range.mp hi)]; exact hq⟩
      · rintro ⟨i, hi, hq⟩
        exact ⟨i, hi, by rw [pt i (List.mem_range.mp hi)]; exact hq⟩
    rw [this]
  refine ⟨H.two (j0 := 1) (j1 := 13) W0.sml (by decide) (by decide) hF (fun x x1 x2 x3 x4 x5 x6 => hm x (by omega) (by omega) (by omega) (by omega) (by omega) (by omega)) ⟨?_, fun h hh c hc => ?_⟩ ⟨?_, fun i hi => ?_⟩ (fun j hj j1 j2 i hi => ?_), ?_⟩
  · rw [hm 3 (by decide) (by decide) (by decide) (by decide) (by decide) (by decide), hw 37 (by omega) (by omega)]
    exact H.hea.1
  · rw [ezh] at hh
    show m' 4 (h * 8 + c) = heaV w' h c
    by_cases e7 : c = 7
    · subst e7
      rw [h7 h hh, heaV_7, hcnt]
    · rw [h6 h c hh (by omega), show m 4 (h * 8 + c) = heaV w h c from H.hea.2 h hh c hc]
      unfold heaV
      rw [ezt, ezv, hw (45 + h) (by omega) (by omega), hw (57 + h) (by omega) (by omega), hw (69 + h) (by omega) (by omega), hw (9 + h) (by omega) (by omega), hw (185 + h) (by omega) (by omega)]
      have : c = 0 ∨ c = 1 ∨ c = 2 ∨ c = 3 ∨ c = 4 ∨ c = 5 ∨ c = 6 := by omega
      rcases this with rfl | rfl | rfl | rfl | rfl | rfl | rfl <;> simp
  · rw [w41]; exact hr.1
  · rw [ezs] at hi
    obtain ⟨q, hq⟩ := get_lt hi
    obtain ⟨c1, c2, c3⟩ := hwr i q hq
    obtain ⟨r1, r2, r3, r4⟩ := hr.2 i q hq
    obtain ⟨hD, vq⟩ := hv q (List.mem_of_getElem? hq)
    rw [c1, c2, c3, ← (sta_row vq s1).1]
    exact ⟨r1, r2, r3⟩
  · have := own_1 hj j1 j2 hi
    exact hw i this.1 this.2
  · unfold WFc
    rw [ezh, ezd, ezs, ezp, ezq, w41, hw 37 (by omega) (by omega), hw 38 (by omega) (by omega), hw 6 (by omega) (by omega), hw 42 (by omega) (by omega), hw 43 (by omega) (by omega), hw 44 (by omega) (by omega), hw 7 (by omega) (by omega), hw 8 (by omega) (by omega)]
    refine ⟨a1, a2, a3, isn.nI hr16, a5, a6, a7, a8, a9, fun h hh => ?_, fun h hh h2 => ?_, fun d hd => ?_, fun i hi => ?_, fun i hi => ?_, fun v hv => ?_, fun i hi => ?_⟩
    · rw [hw (45 + h) (by omega) (by omega), hw (57 + h) (by omega) (by omega), hw (69 + h) (by omega) (by omega), hw (9 + h) (by omega) (by omega), hw (185 + h) (by omega) (by omega)]
      exact b1 h hh
    · rw [hw (185 + h) (by omega) (by omega)]
      exact b2 h hh h2
    · rw [hw (81 + d) (by omega) (by omega), hw (89 + d) (by omega) (by omega)]
      exact b3 d hd
    · obtain ⟨q, hq⟩ := get_lt hi
      obtain ⟨c1, c2, c3⟩ := hwr i q hq
      obtain ⟨hD, vq⟩ := hv q (List.mem_of_getElem? hq)
      rw [c1, c2, c3]
      exact (sta_row vq s1).2.2
    · rw [hw (153 + 2 * i) (by omega) (by omega), hw (153 + 2 * i + 1) (by omega) (by omega)]
      exact b5 i hi
    · rw [hw (213 + v) (by omega) (by omega)]
      exact b6 v hv
    · rw [hw (197 + 2 * i) (by omega) (by omega), hw (197 + 2 * i + 1) (by omega) (by omega)]
      exact b7 i hi
/-- THE PROGRAMME -/
theorem tx_pro {d0 : Nat} (H : HRep 2 LN w m) (W0 : WFc w) (hd0 : d0 = zd w) (hF : Fx m') (hm : ∀ x, 2 < x → x < 99 → x ≠ 17 → x ≠ 18 → x ≠ 48 → m' x = m x) (hr : rwT 17 m' R) (hr16 : R.length ≤ 16) (hv : ∀ q ∈ R, ∃ hH, vR 2 hH (nI d0 - nI 1) q)
    (w42 : w' 42 = nI R.length) (hw : ∀ i, i ≠ 42 → (i < 153 ∨ 185 ≤ i) → w' i = w i) (hwr : ∀ i q, R[i]? = some q → w' (153 + 2 * i) = q.2.1 ∧ w' (153 + 2 * i + 1) = q.2.2.1) : HRep 2 LN w' m' ∧ WFc w' := by
  subst hd0
  obtain ⟨a1, a2, a3, a4, a5, a6, a7, a8, a9, b1, b2, b3, b4, b5, b6, b7⟩ := id W0
  obtain ⟨s1, s2, s3, s4, s5, s6⟩ := W0.sml
  have ezh : zh w' = zh w := by unfold zh; rw [hw 37 (by omega) (by omega)]
  have ezd : zd w' = zd w := by unfold zd; rw [hw 38 (by omega) (by omega)]
  have ezs : zs w' = zs w := by unfold zs; rw [hw 41 (by omega) (by omega)]
  have ezp : zp w' = R.length := by unfold zp; rw [w42, nv_nI (by omega)]
  have ezq : zq w' = zq w := by unfold zq; rw [hw 44 (by omega) (by omega)]
  refine ⟨H.one (j0 := 15) W0.sml (by decide) hF (fun x x1 x2 x3 x4 => hm x (by omega) (by omega) (by omega) (by omega) (by omega)) ⟨?_, fun i hi => ?_⟩ (fun j hj j1 i hi => ?_), ?_⟩
  · rw [w42]; exact hr.1
  · rw [ezp] at hi
    obtain ⟨q, hq⟩ := get_lt hi
    obtain ⟨c1, c2⟩ := hwr i q hq
    obtain ⟨r1, r2, r3, r4⟩ := hr.2 i q hq
    rw [c1, c2]
    exact ⟨r2, r3⟩
  · have := own_2 hj j1 hi
    exact hw i this.1 this.2
  · unfold WFc
    rw [ezh, ezd, ezs, ezp, ezq, w42, hw 37 (by omega) (by omega), hw 38 (by omega) (by omega), hw 6 (by omega) (by omega), hw 41 (by omega) (by omega), hw 43 (by omega) (by omega), hw 44 (by omega) (by omega), hw 7 (by omega) (by omega), hw 8 (by omega) (by omega)]
    refine ⟨a1, a2, a3, a4, isn.nI hr16, a6, a7, a8, a9, fun h hh => ?_, fun h hh h2 => ?_, fun d hd => ?_, fun i hi => ?_, fun i hi => ?_, fun v hv => ?_, fun i hi => ?_⟩
    · rw [hw (45 + h) (by omega) (by omega), hw (57 + h) (by omega) (by omega), hw (69 + h) (by omega) (by omega), hw (9 + h) (by omega) (by omega), hw (185 + h) (by omega) (by omega)]
      exact b1 h hh
    · rw [hw (185 + h) (by omega) (by omega)]
      exact b2 h hh h2
    · rw [hw (81 + d) (by omega) (by omega), hw (89 + d) (by omega) (by omega)]
      exact b3 d hd
    · rw [hw (105 + 3 * i) (by omega) (by omega), hw (105 + 3 * i + 1) (by omega) (by omega), hw (105 + 3 * i + 2) (by omega) (by omega)]
      exact b4 i hi
    · obtain ⟨q, hq⟩ := get_lt hi
      obtain ⟨c1, c2⟩ := hwr i q hq
      obtain ⟨hH, vq⟩ := hv q (List.mem_of_getElem? hq)
      obtain ⟨-, -, -, v2, -⟩ := vq
      obtain ⟨e1, e2⟩ := v2 rfl
      rw [c1, c2]
      obtain ⟨x, x1, x2, x3⟩ := rng_of (by decide) (by decide) (decide_eq_true e1)
      have f2 := rng_inb (a := q.2.2.1) (n := zd w) (by omega)
      rw [decide_eq_true e2] at f2
      exact ⟨⟨x, x2, x3⟩, inb_of f2.symm (by omega)⟩
    · rw [hw (213 + v) (by omega) (by omega)]
      exact b6 v hv
    · rw [hw (197 + 2 * i) (by omega) (by omega), hw (197 + 2 * i + 1) (by omega) (by omega)]
      exact b7 i hi
/-- THE GALLERY -/
theorem tx_gal (H : HRep 2 LN w m) (W0 : WFc w) (hz : z = zh w) (hF : Fx m') (hm : ∀ x, 2 < x → x < 99 → x ≠ 4 → x ≠ 19 → x ≠ 20 → x ≠ 48 → m' x = m x) (hr : rwT 19 m' R) (hr16 : R.length ≤ 16)
    (h7 : ∀ h, h < z → m' 4 (h * 8 + 6) = nI (gvR (rA R) (rD R) h R.length)) (h6 : ∀ h c, h < z → c < 8 → c ≠ 6 → m' 4 (h * 8 + c) = m 4 (h * 8 + c)) (hv : ∀ q ∈ R, vR 3 (nI z - nI 1) hD q)
    (w43 : w' 43 = nI R.length) (hw : ∀ i, i ≠ 43 → (i < 185 ∨ 197 ≤ i) → w' i = w i) (hwr : ∀ h, h < 12 → w' (185 + h) = nI (gvR (rA R) (rD R) h R.length)) : HRep 2 LN w' m' ∧ WFc w' := by
  subst hz
  obtain ⟨a1, a2, a3, a4, a5, a6, a7, a8, a9, b1, b2, b3, b4, b5, b6, b7⟩ := id W0
  obtain ⟨s1, s2, s3, s4, s5, s6⟩ := W0.sml
  have ezh : zh w' = zh w := by unfold zh; rw [hw 37 (by omega) (by omega)]
  have ezd : zd w' = zd w := by unfold zd; rw [hw 38 (by omega) (by omega)]
  have ezs : zs w' = zs w := by unfold zs; rw [hw 41 (by omega) (by omega)]
  have ezp : zp w' = zp w := by unfold zp; rw [hw 42 (by omega) (by omega)]
  have ezq : zq w' = zq w := by unfold zq; rw [hw 44 (by omega) (by omega)]
  have ezt : zt w' = zt w := by unfold zt; rw [hw 7 (by omega) (by omega)]
  have ezv : zv w' = zv w := by unfold zv; rw [hw 8 (by omega) (by omega)]
  have hcnt : ∀ h, cnt w' h = cnt w h := cnt_cg (fun i hi => hw i (by omega) (by omega)) s4
  have hAD : ∀ l, l < R.length → rA R l < zh w ∧ rD R l < zh w := by
    intro l hl
    obtain ⟨q, hq⟩ := get_lt hl
    obtain ⟨-, -, k3, k4⟩ := galRows hv rfl s1 hq
    exact ⟨k3, k4⟩
  refine ⟨H.two (j0 := 1) (j1 := 17) W0.sml (by decide) (by decide) hF (fun x x1 x2 x3 x4 x5 x6 => hm x (by omega) (by omega) (by omega) (by omega) (by omega) (by omega)) ⟨?_, fun h hh c hc => ?_⟩ ?_ (fun j hj j1 j2 i hi => ?_), ?_⟩
  · rw [hm 3 (by decide) (by decide) (by decide) (by decide) (by decide) (by decide), hw 37 (by omega) (by omega)]
    exact H.hea.1
  · rw [ezh] at hh
    show m' 4 (h * 8 + c) = heaV w' h c
    by_cases e7 : c = 6
    · subst e7
      rw [h7 h hh]
      exact (hwr h (by omega)).symm
    · rw [h6 h c hh hc e7, show m 4 (h * 8 + c) = heaV w h c from H.hea.2 h hh c hc]
      unfold heaV
      rw [ezt, ezv, hcnt, hw (45 + h) (by omega) (by omega), hw (57 + h) (by omega) (by omega), hw (69 + h) (by omega) (by omega), hw (9 + h) (by omega) (by omega)]
      have : c = 0 ∨ c = 1 ∨ c = 2 ∨ c = 3 ∨ c = 4 ∨ c = 5 ∨ c = 7 := by omega
      rcases this with rfl | rfl | rfl | rfl | rfl | rfl | rfl <;> simp
  · show m' 19 3 = w' 43
    rw [w43]; exact hr.1
  · have := own_3 hj j1 j2 hi
    exact hw i this.1 this.2
  · unfold WFc
    rw [ezh, ezd, ezs, ezp, ezq, w43, hw 37 (by omega) (by omega), hw 38 (by omega) (by omega), hw 6 (by omega) (by omega), hw 41 (by omega) (by omega), hw 42 (by omega) (by omega), hw 44 (by omega) (by omega), hw 7 (by omega) (by omega), hw 8 (by omega) (by omega)]
    refine ⟨a1, a2, a3, a4, a5, isn.nI hr16, a7, a8, a9, fun h hh => ?_, fun h hh h2 => ?_, fun d hd => ?_, fun i hi => ?_, fun i hi => ?_, fun v hv => ?_, fun i hi => ?_⟩
    · rw [hw (45 + h) (by omega) (by omega), hw (57 + h) (by omega) (by omega), hw (69 + h) (by omega) (by omega), hw (9 + h) (by omega) (by omega), hwr h (by omega)]
      obtain ⟨c1, c2, c3, c4, -⟩ := b1 h hh
      have := gvR_lt (z := zh w) (A := rA R) (D := rD R) (h := h) R.length hAD
      exact ⟨c1, c2, c3, c4, isn.nI (by omega)⟩
    · rw [hwr h hh, gvR_0 R.length hAD h2]
    · rw [hw (81 + d) (by omega) (by omega), hw (89 + d) (by omega) (by omega)]
      exact b3 d hd
    · rw [hw (105 + 3 * i) (by omega) (by omega), hw (105 + 3 * i + 1) (by omega) (by omega), hw (105 + 3 * i + 2) (by omega) (by omega)]
      exact b4 i hi
    · rw [hw (153 + 2 * i) (by omega) (by omega), hw (153 + 2 * i + 1) (by omega) (by omega)]
      exact b5 i hi
    · rw [hw (213 + v) (by omega) (by omega)]
      exact b6 v hv
    · rw [hw (197 + 2 * i) (by omega) (by omega), hw (197 + 2 * i + 1) (by omega) (by omega)]
      exact b7 i hi
end TEXTS
