/-! what holds between calls; Moments, what can be undone -/
def moms : List Nat := [50, 57, 64, 71, 78, 85, 92]
theorem moms_ok : ∀ M ∈ moms, rq M 0 = M + 1 ∧ rq M 1 = M + 3 ∧ rq M 2 = M + 5 ∧ (M + 1, 12, 8) ∈ tbs ∧ (M + 3, 8, 5) ∈ tbs ∧ (M + 5, 1, 7) ∈ tbs ∧ 50 ≤ M ∧ M ≤ 92 := by decide +kernel
def MomR (M : Nat) (w : Arr) (m : Mem) : Prop := Cmp 1 (M + 1) w m ∧ Cmp 3 (M + 3) w m ∧ Cmp 5 (M + 5) w m ∧ m M 3 = w 6
section MOM
variable {w w' : Arr} {LN : List Lin} {m m' : Mem} {N M : Nat}
theorem MomR.cg (hs : sml w) (h : MomR M w m) (hm : ∀ k, M ≤ k → k ≤ M + 6 → m' k = m k) (hw : ∀ i, own 1 i = true ∨ own 3 i = true ∨ own 5 i = true ∨ i = 6 → w' i = w i) : MomR M w' m' := by
  obtain ⟨h1, h2, h3, h4⟩ := h
  refine ⟨Cmp.cg (by decide) hs h1 (by rw [hm _ (by omega) (by omega)]) (hm _ (by omega) (by omega)) (fun i hi => hw i (Or.inl hi)), Cmp.cg (by decide) hs h2 (by rw [hm _ (by omega) (by omega)]) (hm _ (by omega) (by omega)) (fun i hi => hw i (Or.inr (Or.inl hi))),
    Cmp.cg (by decide) hs h3 (by rw [hm _ (by omega) (by omega)]) (hm _ (by omega) (by omega)) (fun i hi => hw i (Or.inr (Or.inr (Or.inl hi)))), ?_⟩
  rw [hm _ (by omega) (by omega), h4, hw 6 (by simp)]
theorem tcp_fr {t s z k : Nat} (h1 : k ≠ t) (h2 : k ≠ t + 1) : tcp m t s z k = m k := tcp_o h1 h2
theorem w_mkeep (H : HRep 2 LN w m) (W0 : WFc w) (hM : M ∈ moms) : Wp (f_X3_keep N M m) (fun _ m' => MomR M w m' ∧ Fx m' ∧ ∀ k, k < M ∨ M + 6 < k → m' k = m k) := by
  obtain ⟨r0, r1, r2, t0, t1, t2, lo, hi⟩ := moms_ok M hM
  have s := W0.sml
  unfold f_X3_keep
  rw [r0, r1, r2, e_copy t0 (show (3, 12, 8) ∈ tbs by decide) (by omega), bd_s, e_copy t1 (show (5, 8, 5) ∈ tbs by decide) (by omega), bd_s, e_copy t2 (show (7, 1, 7) ∈ tbs by decide) (by omega), bd_s, bnd_s]
  generalize h1 : tcp m (M + 1) 3 (12 * 8) = m1
  generalize h2 : tcp m1 (M + 3) 5 (8 * 5) = m2
  generalize h3 : tcp m2 (M + 5) 7 (1 * 7) = m3
  have e1 : ∀ k, k ≠ M + 1 → k ≠ M + 2 → m1 k = m k := fun k a b => by rw [← h1]; exact tcp_o a b
  have e2 : ∀ k, k ≠ M + 3 → k ≠ M + 4 → m2 k = m1 k := fun k a b => by rw [← h2]; exact tcp_o a b
  have e3 : ∀ k, k ≠ M + 5 → k ≠ M + 6 → m3 k = m2 k := fun k a b => by rw [← h3]; exact tcp_o a b
  have c1 : Cmp 1 (M + 1) w m1 := by rw [← h1]; exact Cmp.cp (by decide) s H.hea
  have c2 : Cmp 3 (M + 3) w m2 := by
    rw [← h2]
    refine Cmp.cp (by decide) s ?_
    exact Cmp.cg (by decide) s (H.2.1 3 (by decide)) (by rw [e1 _ (by omega) (by omega)]) (e1 _ (by omega) (by omega)) (fun _ _ => rfl)
  have c3 : Cmp 5 (M + 5) w m3 := by
    rw [← h3]
    refine Cmp.cp (by decide) s ?_
    exact Cmp.cg (by decide) s (H.2.1 5 (by decide)) (by rw [e2 _ (by omega) (by omega), e1 _ (by omega) (by omega)]) (by rw [e2 _ (by omega) (by omega), e1 _ (by omega) (by omega)]) (fun _ _ => rfl)
  have x3 : Fx m3 := by rw [← h3, ← h2, ← h1]; exact ((H.fx.cp t0).cp t1).cp t2
  have b3 : m3 9 3 = w 6 := by rw [e3 _ (by omega) (by omega), e2 _ (by omega) (by omega), e1 _ (by omega) (by omega)]; exact H.boo.1
  refine wp_ret ⟨⟨?_, ?_, ?_, ?_⟩, ?_, fun k hk => ?_⟩
  · refine Cmp.cg (by decide) s c1 ?_ ?_ (fun _ _ => rfl)
    · rw [mset_ne (by omega), e3 _ (by omega) (by omega), e2 _ (by omega) (by omega)]
    · rw [mset_ne (by omega), e3 _ (by omega) (by omega), e2 _ (by omega) (by omega)]
  · refine Cmp.cg (by decide) s c2 ?_ ?_ (fun _ _ => rfl)
    · rw [mset_ne (by omega), e3 _ (by omega) (by omega)]
    · rw [mset_ne (by omega), e3 _ (by omega) (by omega)]
  · refine Cmp.cg (by decide) s c3 ?_ ?_ (fun _ _ => rfl)
    · rw [mset_ne (by omega)]
    · rw [mset_ne (by omega)]
  · rw [mset_at, b3]
  · exact x3.set (by rw [show decide (3 ≠ 1 ∧ 3 ≠ 2) = true by decide, Bool.or_true])
  · rw [mset_ne (by omega), e3 _ (by omega) (by omega), e2 _ (by omega) (by omega), e1 _ (by omega) (by omega)]
/-- the house is w', as a Moment has it; the rest of it as w has it -/
theorem w_mback (H : HRep 2 LN w m) (W' : WFc w') (hR : MomR M w' m) (hM : M ∈ moms) (hw : ∀ i, 37 ≤ i → w' i = w i) (hs : sml w) : Wp (f_X3_back N M m) (fun _ m' => HRep 2 LN w' m' ∧ Fr [(3, 9)] m m') := by
  obtain ⟨r0, r1, r2, t0, t1, t2, lo, hi⟩ := moms_ok M hM
  have s := W'.sml
  obtain ⟨c1, c2, c3, c4⟩ := hR
  unfold f_X3_back
  rw [r0, r1, r2, e_copy (show (3, 12, 8) ∈ tbs by decide) t0 (by omega), bd_s, e_copy (show (5, 8, 5) ∈ tbs by decide) t1 (by omega), bd_s, e_copy (show (7, 1, 7) ∈ tbs by decide) t2 (by omega), bd_s, bnd_s]
  generalize h1 : tcp m 3 (M + 1) (12 * 8) = m1
  generalize h2 : tcp m1 5 (M + 3) (8 * 5) = m2
  generalize h3 : tcp m2 7 (M + 5) (1 * 7) = m3
  have e1 : ∀ k, k ≠ 3 → k ≠ 4 → m1 k = m k := fun k a b => by rw [← h1]; exact tcp_o a b
  have e2 : ∀ k, k ≠ 5 → k ≠ 6 → m2 k = m1 k := fun k a b => by rw [← h2]; exact tcp_o a b
  have e3 : ∀ k, k ≠ 7 → k ≠ 8 → m3 k = m2 k := fun k a b => by rw [← h3]; exact tcp_o a b
  have d1 : Cmp 1 3 w' m1 := by rw [← h1]; exact Cmp.cp (by decide) s c1
  have d2 : Cmp 3 5 w' m2 := by
    rw [← h2]
    refine Cmp.cp (by decide) s ?_
    exact Cmp.cg (by decide) s c2 (by rw [e1 _ (by omega) (by omega)]) (e1 _ (by omega) (by omega)) (fun _ _ => rfl)
  have d3 : Cmp 5 7 w' m3 := by
    rw [← h3]
    refine Cmp.cp (by decide) s ?_
    exact Cmp.cg (by decide) s c3 (by rw [e2 _ (by omega) (by omega), e1 _ (by omega) (by omega)]) (by rw [e2 _ (by omega) (by omega), e1 _ (by omega) (by omega)]) (fun _ _ => rfl)
  have x3 : Fx m3 := by rw [← h3, ← h2, ← h1]; exact ((H.fx.cp (show (3, 12, 8) ∈ tbs by decide)).cp (show (5, 8, 5) ∈ tbs by decide)).cp (show (7, 1, 7) ∈ tbs by decide)
  have eM : m3 M 3 = w' 6 := by rw [e3 _ (by omega) (by omega), e2 _ (by omega) (by omega), e1 _ (by omega) (by omega)]; exact c4
  rw [eM]
  have rest : ∀ k, (k < 3 ∨ 9 < k) → mset m3 9 3 (w' 6) k = m k := fun k hk => by rw [mset_ne (by omega), e3 _ (by omega) (by omega), e2 _ (by omega) (by omega), e1 _ (by omega) (by omega)]
  refine wp_ret ⟨⟨x3.set (by decide), fun j hj => ?_, ?_, H.lawk⟩, fun k hk => ?_⟩
  · have hj' : j = 1 ∨ j = 3 ∨ j = 5 ∨ j = 7 ∨ j = 13 ∨ j = 15 ∨ j = 17 ∨ j = 19 ∨ j = 21 := by simpa [cmps] using hj
    have keep : ∀ j ∈ cmps, 13 ≤ j → Cmp j (2 + j) w' (mset m3 9 3 (w' 6)) := by
      intro j hj h13
      refine Cmp.cg hj hs (H.2.1 j hj) (by rw [rest _ (by omega)]) (rest _ (by omega)) (fun i hi => hw i ?_)
      have hj' : j = 13 ∨ j = 15 ∨ j = 17 ∨ j = 19 ∨ j = 21 := by
        have : j = 1 ∨ j = 3 ∨ j = 5 ∨ j = 7 ∨ j = 13 ∨ j = 15 ∨ j = 17 ∨ j = 19 ∨ j = 21 := by simpa [cmps] using hj
        omega
      rcases hj' with rfl | rfl | rfl | rfl | rfl
      all_goals simp [own] at hi
      all_goals omega
    rcases hj' with rfl | rfl | rfl | rfl | rfl | rfl | rfl | rfl | rfl
    · exact Cmp.cg (by decide) s d1 (by rw [mset_ne (by decide), e3 _ (by decide) (by decide), e2 _ (by decide) (by decide)]) (by rw [mset_ne (by decide), e3 _ (by decide) (by decide), e2 _ (by decide) (by decide)]) (fun _ _ => rfl)
    · exact Cmp.cg (by decide) s d2 (by rw [mset_ne (by decide), e3 _ (by decide) (by decide)]) (by rw [mset_ne (by decide), e3 _ (by decide) (by decide)]) (fun _ _ => rfl)
    · exact Cmp.cg (by decide) s d3 (by rw [mset_ne (by decide)]) (by rw [mset_ne (by decide)]) (fun _ _ => rfl)
    · refine ⟨mset_at _ _ _ _, fun i hi c hc => ?_⟩
      show mset m3 9 3 (w' 6) 10 (i * 4 + c) = _
      rw [rest 10 (by omega), hw _ (by omega)]
      exact H.boo.2 i hi c hc
    · exact keep 13 (by decide) (by decide)
    · exact keep 15 (by decide) (by decide)
    · exact keep 17 (by decide) (by decide)
    · exact keep 19 (by decide) (by decide)
    · exact keep 21 (by decide) (by decide)
  · exact H.lawc.cg (by rw [rest _ (by decide)]) (rest _ (by decide)) (by rw [rest _ (by decide)]) (rest _ (by decide))
  · have := hk (3, 9) List.mem_cons_self
    exact rest k this
/-! what can be undone -/
def ovl (w : Arr) (a : Arr) (i : Nat) : Arr := fun j => if j < 37 then a (37 * i + j) else w j
def lowW (w : Arr) : Prop := isn (w 6) 150 ∧ isn (w 7) (2 ^ zh w - 1) ∧ isn (w 8) (2 ^ zh w - 1) ∧ (∀ h, h < zh w → isn (w (9 + h)) 99) ∧ WFm 11258 w
theorem zh_ovl {a : Arr} {i : Nat} : zh (ovl w a i) = zh w := by
  unfold zh ovl
  rw [if_neg (by decide)]
theorem ovl_hi {a : Arr} {i j : Nat} (h : 37 ≤ j) : ovl w a i j = w j := by
  unfold ovl
  rw [if_neg (by omega)]
theorem ovl_lo {a : Arr} {i j : Nat} (h : j < 37) : ovl w a i j = a (37 * i + j) := by
  unfold ovl
  rw [if_pos h]
theorem WFc.lowW (W0 : WFc w) (h : WFm 11258 w) : lowW w := ⟨W0.2.2.1, W0.2.2.2.2.2.2.2.1, W0.2.2.2.2.2.2.2.2.1, fun h hh => (W0.hea hh).2.2.2.1, h⟩
/-- a state whose low places are as some other good state's -/
theorem WFc.low (W0 : WFc w) (hl : Jvm.Pilot.CEncoresLaw_law_r7064_45588f.lowW w') (hw : ∀ i, 37 ≤ i → w' i = w i) : WFc w' := by
  obtain ⟨l1, l2, l3, l4, l5⟩ := hl
  obtain ⟨a1, a2, a3, a4, a5, a6, a7, a8, a9, b1, b2, b3, b4, b5, b6, b7⟩ := id W0
  have ezh : zh w' = zh w := by unfold zh; rw [hw 37 (by omega)]
  have ezd : zd w' = zd w := by unfold zd; rw [hw 38 (by omega)]
  have ezs : zs w' = zs w := by unfold zs; rw [hw 41 (by omega)]
  have ezp : zp w' = zp w := by unfold zp; rw [hw 42 (by omega)]
  have ezq : zq w' = zq w := by unfold zq; rw [hw 44 (by omega)]
  rw [ezh] at l2 l3 l4
  unfold WFc
  rw [ezh, ezd, ezs, ezp, ezq, hw 37 (by omega), hw 38 (by omega), hw 41 (by omega), hw 42 (by omega), hw 43 (by omega), hw 44 (by omega)]
  refine ⟨a1, a2, l1, a4, a5, a6, a7, l2, l3, fun h hh => ?_, fun h hh h2 => ?_, fun d hd => ?_, fun i hi => ?_, fun i hi => ?_, fun v hv => ?_, fun i hi => ?_⟩
  · rw [hw (45 + h) (by omega), hw (57 + h) (by omega), hw (69 + h) (by omega), hw (185 + h) (by omega)]
    exact ⟨(b1 h hh).1, (b1 h hh).2.1, (b1 h hh).2.2.1, l4 h hh, (b1 h hh).2.2.2.2⟩
  · rw [hw (185 + h) (by omega)]
    exact b2 h hh h2
  · rw [hw (81 + d) (by omega), hw (89 + d) (by omega)]
    exact b3 d hd
  · rw [hw (105 + 3 * i) (by omega), hw (105 + 3 * i + 1) (by omega), hw (105 + 3 * i + 2) (by omega)]
    exact b4 i hi
  · rw [hw (153 + 2 * i) (by omega), hw (153 + 2 * i + 1) (by omega)]
    exact b5 i hi
  · rw [hw (213 + v) (by omega)]
    exact b6 v hv
  · rw [hw (197 + 2 * i) (by omega), hw (197 + 2 * i + 1) (by omega)]
    exact b7 i hi
/-- k Moments lie, the next one goes to place p -/
def PasR (k p : Nat) (w : Arr) (m : Mem) : Prop := k ≤ 6 ∧ p < 6 ∧ m 48 2 = nI k ∧ m 48 1 = nI p ∧ m 123 4 = nI k ∧ ∀ i, i < k → MomR (50 + 7 * ((p + 6 - k + i) % 6)) (ovl w (m 126) i) m ∧ lowW (ovl w (m 126) i)
def PastR (w : Arr) (m : Mem) : Prop := ∃ k p, PasR k p w m
theorem mom_in {q : Nat} (h : q < 6) : 50 + 7 * q ∈ moms := by
  have : ∀ q, q < 6 → 50 + 7 * q ∈ moms := by decide
  exact this q h
theorem sml_ovl {a : Arr} {i : Nat} (W0 : WFc w) (hl : lowW (ovl w a i)) : sml (ovl w a i) := (W0.low hl (fun j hj => ovl_hi hj)).sml
/-- nothing of it changed: Moments and counts as they are, the high places that a Moment reads as well -/
theorem PastR.cg (h : PastR w m) (W0 : WFc w) (hm : ∀ k, 50 ≤ k → k ≤ 91 → m' k = m k) (h48 : m' 48 1 = m 48 1 ∧ m' 48 2 = m 48 2) (h4 : m' 123 4 = m 123 4) (h126 : m' 126 = m 126)
    (hw : ∀ i, (37 ≤ i ∧ i < 40) ∨ i = 41 ∨ (45 ≤ i ∧ i < 153) ∨ (185 ≤ i ∧ i < 197) → w' i = w i) : PastR w' m' := by
  obtain ⟨k, p, hk, hp, e1, e2, e3, hs⟩ := h
  refine ⟨k, p, hk, hp, by rw [h48.2]; exact e1, by rw [h48.1]; exact e2, by rw [h4]; exact e3, fun i hi => ?_⟩
  obtain ⟨hR, hl⟩ := hs i hi
  rw [h126]
  have hq : (p + 6 - k + i) % 6 < 6 := Nat.mod_lt _ (by decide)
  have eo : ∀ j, j < 37 ∨ (37 ≤ j ∧ j < 40) ∨ j = 41 ∨ (45 ≤ j ∧ j < 153) ∨ (185 ≤ j ∧ j < 197) → ovl w' (m 126) i j = ovl w (m 126) i j := by
    intro j hj
    unfold ovl
    split
    · rfl
    · exact hw j (by omega)
  refine ⟨hR.cg (sml_ovl W0 hl) (fun k h1 h2 => hm k (by omega) (by omega)) (fun j hj => eo j ?_), ?_⟩
  · rcases hj with hj | hj | hj | rfl
    · simp [own] at hj; omega
    · simp [own] at hj; omega
    · simp [own] at hj; omega
    · omega
  · obtain ⟨l1, l2, l3, l4, l5⟩ := hl
    have ez : zh (ovl w' (m 126) i) = zh (ovl w (m 126) i) := by unfold zh; rw [eo 37 (by omega)]
    unfold lowW WFm
    have lh : zh (ovl w (m 126) i) ≤ 12 := by rw [zh_ovl]; exact W0.lzh
    rw [ez, eo 6 (by omega), eo 7 (by omega), eo 8 (by omega), eo 0 (by omega), eo 4 (by omega)]
    exact ⟨l1, l2, l3, fun h hh => by rw [eo (9 + h) (by omega)]; exact l4 h hh, l5⟩
theorem e_forget (m : Mem) : f_X4_forget N m = some (0, mset m 48 2 (nI 0)) := rfl
theorem e_forgets (m : Mem) : f_X12_forgets N m = some (0, mset m 123 4 (nI 0)) := rfl
end MOM
