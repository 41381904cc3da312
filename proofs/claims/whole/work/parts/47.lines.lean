/-! lines: in which order the least is waited -/
section LINES
variable {w w' v0 : Arr} {LN : List Lin} {m m' m2 : Mem} {N d n : Nat} {s t : Nat → Bool} {f g : Nat → Nat}
def clr (s : Nat → Bool) (d : Nat) : Nat → Bool := fun i => s i && decide (i ≠ d)
theorem clr_ne {i : Nat} (h : i ≠ d) : clr s d i = s i := by
  unfold clr
  rw [decide_eq_true h, Bool.and_true]
theorem clr_at : clr s d d = false := by
  unfold clr
  rw [decide_eq_false (fun h => h rfl), Bool.and_false]
theorem clr_of {i : Nat} (h : clr s d i = true) : s i = true ∧ i ≠ d := by
  unfold clr at h
  simp only [Bool.and_eq_true, decide_eq_true_eq] at h
  exact h
theorem sm_cg (h : ∀ i, i < n → s i = t i) : sm f s n = sm f t n := by
  induction n with
  | zero => rfl
  | succ n ih =>
    unfold sm
    rw [h n (by omega), ih (fun i hi => h i (by omega))]
theorem sm_cgf (h : ∀ i, i < n → s i = true → f i = g i) : sm f s n = sm g s n := by
  induction n with
  | zero => rfl
  | succ n ih =>
    unfold sm
    rw [ih (fun i hi => h i (by omega))]
    by_cases hs : s n = true
    · rw [if_pos hs, if_pos hs, h n (by omega) hs]
    · rw [if_neg hs, if_neg hs]
theorem sm_mono (h : ∀ i, i < n → s i = true → f i ≤ g i) : sm f s n ≤ sm g s n := by
  induction n with
  | zero => exact Nat.le_refl _
  | succ n ih =>
    unfold sm
    have h1 := ih (fun i hi => h i (by omega))
    by_cases hs : s n = true
    · have h2 := h n (by omega) hs
      rw [if_pos hs, if_pos hs]
      omega
    · rw [if_neg hs, if_neg hs]
      omega
theorem sm_lt (h : ∀ i, i < n → s i = true → f i ≤ g i) {k : Nat} (hk : k < n) (hs : s k = true) (hl : f k < g k) : sm f s n < sm g s n := by
  induction n with
  | zero => omega
  | succ n ih =>
    unfold sm
    by_cases e : k = n
    · subst e
      have h1 := sm_mono (s := s) (f := f) (g := g) (n := k) (fun i hi => h i (by omega))
      rw [if_pos hs, if_pos hs]
      omega
    · have h1 := ih (fun i hi => h i (by omega)) (by omega)
      by_cases hn : s n = true
      · have h2 := h n (by omega) hn
        rw [if_pos hn, if_pos hn]
        omega
      · rw [if_neg hn, if_neg hn]
        omega
theorem sm_mul {c : Nat} : sm (fun x => c * f x) s n = c * sm f s n := by
  induction n with
  | zero => rfl
  | succ n ih =>
    unfold sm
    rw [ih, Nat.mul_add]
    split <;> rfl
theorem sm_clr (hd : d < n) (hs : s d = true) : sm f s n = sm f (clr s d) n + f d := by
  induction n with
  | zero => omega
  | succ n ih =>
    unfold sm
    by_cases e : d = n
    · subst e
      rw [if_pos hs, clr_at, if_neg (by decide), sm_cg (s := clr s d) (t := s) (fun i hi => clr_ne (by omega))]
      rfl
    · rw [ih (by omega), clr_ne (by omega)]
      omega
def mn (w : Arr) (x d : Nat) : Nat := min (lg w x * vl w d) (lg w d * vl w x)
theorem mn_sy {x d : Nat} : mn w x d = mn w d x := Nat.min_comm _ _
def wai (w : Arr) (s : Nat → Bool) : Nat → Nat
  | 0 => 0
  | n + 1 => wai w s n + if s n = true then vl w n * lg w n + sm (fun x => mn w x n) s n else 0
theorem wai_cg (h : ∀ i, i < n → s i = t i) : wai w s n = wai w t n := by
  induction n with
  | zero => rfl
  | succ n ih =>
    unfold wai
    rw [h n (by omega), ih (fun i hi => h i (by omega)), sm_cg (fun i hi => h i (by omega))]
theorem wai_s : wai w s (n + 1) = wai w s n + if s n = true then vl w n * lg w n + sm (fun x => mn w x n) s n else 0 := rfl
theorem sm_s : sm f s (n + 1) = sm f s n + if s n = true then f n else 0 := rfl
theorem wai_clr (hd : d < n) (hs : s d = true) : wai w s n = wai w (clr s d) n + (vl w d * lg w d + sm (fun x => mn w x d) (clr s d) n) := by
  induction n with
  | zero => omega
  | succ n ih =>
    rw [wai_s, wai_s, sm_s]
    by_cases e : d = n
    · subst e
      rw [if_pos hs, clr_at, if_neg (by decide), if_neg (by decide), wai_cg (s := clr s d) (t := s) (fun i hi => clr_ne (by omega)), sm_cg (s := clr s d) (t := s) (fun i hi => clr_ne (by omega))]
      omega
    · have i1 := ih (by omega)
      have i2 := sm_clr (f := fun x => mn w x n) (n := n) (by omega) hs
      have i3 : mn w d n = mn w n d := mn_sy
      rw [clr_ne (s := s) (d := d) (i := n) (by omega)]
      by_cases hn : s n = true
      · rw [if_pos hn, if_pos hn, if_pos hn]
        omega
      · rw [if_neg hn, if_neg hn, if_neg hn]
        omega
theorem wai_0 (h : ∀ i, i < n → s i = false) : wai w s n = 0 := by
  induction n with
  | zero => rfl
  | succ n ih =>
    unfold wai
    rw [ih (fun i hi => h i (by omega)), h n (by omega), if_neg (by decide)]
theorem sm_0 (h : ∀ i, i < n → s i = false) : sm f s n = 0 := by
  induction n with
  | zero => rfl
  | succ n ih =>
    unfold sm
    rw [ih (fun i hi => h i (by omega)), h n (by omega), if_neg (by decide)]
theorem wai_le (W0 : WFc w) : ∀ n, n ≤ zd w → wai w s n ≤ 4860 * n
  | 0, _ => Nat.le_refl _
  | n + 1, hn => by
    have ih := wai_le W0 n (by omega)
    have l := W0.lzd
    unfold wai
    split
    · obtain ⟨-, h2, -, -, h5⟩ := dee_v W0 (show n < zd w by omega)
      have m1 : vl w n * lg w n ≤ 9 * 60 := Nat.mul_le_mul h2 h5
      have m2 := sm_le (f := fun x => mn w x n) (s := s) (b := 540) (n := n) (fun i hi => by
        obtain ⟨-, h2', -, -, h5'⟩ := dee_v W0 (show i < zd w by omega)
        have : lg w i * vl w n ≤ 60 * 9 := Nat.mul_le_mul h5' h2
        have := Nat.min_le_left (lg w i * vl w n) (lg w n * vl w i)
        unfold mn
        omega)
      omega
    · omega
/-- worth per minute: transitive -/
theorem rat_tr {a b c : Nat} (hb : 1 ≤ lg w b) (h1 : vl w a * lg w b ≤ vl w b * lg w a) (h2 : vl w b * lg w c ≤ vl w c * lg w b) : vl w a * lg w c ≤ vl w c * lg w a := by
  refine Nat.le_of_mul_le_mul_left (c := lg w b) ?_ hb
  calc lg w b * (vl w a * lg w c) = vl w a * lg w b * lg w c := by rw [Nat.mul_comm (vl w a) (lg w b), Nat.mul_assoc]
    _ ≤ vl w b * lg w a * lg w c := Nat.mul_le_mul_right _ h1
    _ = vl w b * lg w c * lg w a := Nat.mul_right_comm _ _ _
    _ ≤ vl w c * lg w b * lg w a := Nat.mul_le_mul_right _ h2
    _ = lg w b * (vl w c * lg w a) := by rw [Nat.mul_comm (vl w c) (lg w b), Nat.mul_assoc]
theorem rat_lt {a b c : Nat} (ha : 1 ≤ lg w a) (hb : 1 ≤ lg w b) (h1 : vl w a * lg w b ≤ vl w b * lg w a) (h2 : vl w b * lg w c < vl w c * lg w b) : vl w a * lg w c < vl w c * lg w a := by
  refine Nat.lt_of_mul_lt_mul_left (a := lg w b) ?_
  calc lg w b * (vl w a * lg w c) = vl w a * lg w b * lg w c := by rw [Nat.mul_comm (vl w a) (lg w b), Nat.mul_assoc]
    _ ≤ vl w b * lg w a * lg w c := Nat.mul_le_mul_right _ h1
    _ = vl w b * lg w c * lg w a := Nat.mul_right_comm _ _ _
    _ < vl w c * lg w b * lg w a := Nat.mul_lt_mul_of_pos_right h2 ha
    _ = lg w b * (vl w c * lg w a) := by rw [Nat.mul_comm (vl w c) (lg w b), Nat.mul_assoc]
theorem fstB_max (W0 : WFc w) {b : Nat} : ∀ {n : Nat}, n ≤ zd w → fstB w s n = some b → (∀ x, x < n → s x = true → vl w x * lg w b ≤ vl w b * lg w x) ∧ ∀ x, x < b → s x = true → vl w x * lg w b < vl w b * lg w x
  | 0, _, h => by cases h
  | n + 1, hn, h => by
    have h0 := h
    unfold fstB at h
    by_cases hs : s n = true
    · rw [if_pos hs] at h
      cases hq : fstB w s n with
      | none =>
        rw [hq] at h
        have e0 := Option.some.inj h
        subst e0
        have no : ∀ n, fstB w s n = none → ∀ x, x < n → s x = false := by
          intro n
          induction n with
          | zero => exact fun _ x hx => absurd hx (by omega)
          | succ n ih =>
            intro hz x hx
            unfold fstB at hz
            by_cases hs : s n = true
            · rw [if_pos hs] at hz
              cases hq : fstB w s n with
              | none => rw [hq] at hz; cases hz
              | some c =>
                rw [hq] at hz
                simp only at hz
                split at hz <;> cases hz
            · rw [if_neg hs] at hz
              by_cases e : x = n
              · subst e
                cases hb : s x with
                | true => exact absurd hb hs
                | false => rfl
              · exact ih hz x (by omega)
        have hno := no n hq
        refine ⟨fun x hx hsx => ?_, fun x hx hsx => ?_⟩
        · by_cases e : x = n
          · subst e; exact Nat.le_refl _
          · rw [hno x (by omega)] at hsx
            cases hsx
        · rw [hno x hx] at hsx
          cases hsx
      | some c =>
        rw [hq] at h
        simp only at h
        obtain ⟨i1, i2⟩ := fstB_max W0 (by omega) hq
        have hc := fstB_lt hq
        have lc := (dee_v W0 (show c < zd w by omega)).2.2.2.1
        by_cases q : vl w n * lg w c ≤ vl w c * lg w n
        · rw [if_pos q] at h
          cases h
          refine ⟨fun x hx hsx => ?_, i2⟩
          by_cases e : x = n
          · subst e; exact q
          · exact i1 x (by omega) hsx
        · rw [if_neg q] at h
          have e0 := Option.some.inj h
          subst e0
          have st : ∀ x, x < n → s x = true → vl w x * lg w n < vl w n * lg w x := fun x hx hsx =>
            rat_lt (dee_v W0 (show x < zd w by omega)).2.2.2.1 lc (i1 x hx hsx) (Nat.lt_of_not_le q)
          refine ⟨fun x hx hsx => ?_, st⟩
          by_cases e : x = n
          · subst e; exact Nat.le_refl _
          · exact Nat.le_of_lt (st x (by omega) hsx)
    · rw [if_neg hs] at h
      obtain ⟨i1, i2⟩ := fstB_max W0 (by omega) h
      refine ⟨fun x hx hsx => ?_, i2⟩
      by_cases e : x = n
      · subst e; exact absurd hsx hs
      · exact i1 x (by omega) hsx
theorem fstB_no : ∀ {n : Nat}, fstB w s n = none → ∀ x, x < n → s x = false
  | 0, _, x, hx => absurd hx (by omega)
  | n + 1, hz, x, hx => by
    unfold fstB at hz
    by_cases hs : s n = true
    · rw [if_pos hs] at hz
      cases hq : fstB w s n with
      | none => rw [hq] at hz; cases hz
      | some c =>
        rw [hq] at hz
        simp only at hz
        split at hz <;> cases hz
    · rw [if_neg hs] at hz
      by_cases e : x = n
      · subst e
        cases hb : s x with
        | true => exact absurd hb hs
        | false => rfl
      · exact fstB_no hz x (by omega)
/-- someone is worth least by the minute -/
theorem min_ex (W0 : WFc w) : ∀ n, n ≤ zd w → (∃ x, x < n ∧ s x = true) → ∃ b, b < n ∧ s b = true ∧ ∀ x, x < n → s x = true → vl w b * lg w x ≤ vl w x * lg w b
  | 0, _, ⟨x, hx, _⟩ => absurd hx (by omega)
  | n + 1, hn, ⟨x, hx, hsx⟩ => by
    by_cases hex : ∃ x, x < n ∧ s x = true
    · obtain ⟨b, hb, hsb, hm⟩ := min_ex W0 n (by omega) hex
      by_cases hs : s n = true
      · have lb := (dee_v W0 (show b < zd w by omega)).2.2.2.1
        by_cases q : vl w b * lg w n ≤ vl w n * lg w b
        · refine ⟨b, by omega, hsb, fun x hx hsx => ?_⟩
          by_cases e : x = n
          · subst e; exact q
          · exact hm x (by omega) hsx
        · refine ⟨n, by omega, hs, fun x hx hsx => ?_⟩
          by_cases e : x = n
          · subst e; exact Nat.le_refl _
          · exact rat_tr lb (Nat.le_of_lt (Nat.lt_of_not_le q)) (hm x (by omega) hsx)
      · refine ⟨b, by omega, hsb, fun x hx hsx => ?_⟩
        by_cases e : x = n
        · subst e; exact absurd hsx hs
        · exact hm x (by omega) hsx
    · have e : x = n := by
        by_cases e : x = n
        · exact e
        · exact absurd ⟨x, by omega, hsx⟩ hex
      subst e
      refine ⟨x, by omega, hsx, fun y hy hsy => ?_⟩
      by_cases e : y = x
      · subst e; exact Nat.le_refl _
      · exact absurd ⟨y, by omega, hsy⟩ hex
/-- d is last, d is first -/
theorem last_ge (hd : d < n) (hs : s d = true) : wai w s n ≤ wai w (clr s d) n + vl w d * sm (lg w) s n := by
  rw [wai_clr hd hs, sm_clr hd hs, Nat.mul_add, ← sm_mul]
  have := sm_mono (s := clr s d) (n := n) (f := fun x => mn w x d) (g := fun x => vl w d * lg w x) (fun i hi hsi => by
    have := Nat.min_le_left (lg w i * vl w d) (lg w d * vl w i)
    unfold mn
    rw [Nat.mul_comm (vl w d)]
    exact this)
  omega
theorem last_eq (hd : d < n) (hs : s d = true) (h : ∀ x, x < n → s x = true → vl w d * lg w x ≤ vl w x * lg w d) : wai w s n = wai w (clr s d) n + vl w d * sm (lg w) s n := by
  rw [wai_clr hd hs, sm_clr (f := lg w) hd hs, Nat.mul_add, ← sm_mul]
  have := sm_cgf (s := clr s d) (n := n) (f := fun x => mn w x d) (g := fun x => vl w d * lg w x) (fun i hi hsi => by
    have := h i hi (clr_of hsi).1
    unfold mn
    rw [Nat.mul_comm (lg w i), Nat.mul_comm (lg w d)]
    exact Nat.min_eq_left this)
  omega
theorem first_eq (hd : d < n) (hs : s d = true) (h : ∀ x, x < n → s x = true → vl w x * lg w d ≤ vl w d * lg w x) : lg w d * sm (vl w) s n + wai w (clr s d) n = wai w s n := by
  rw [wai_clr hd hs, sm_clr (f := vl w) hd hs, Nat.mul_add, ← sm_mul, Nat.mul_comm (vl w d)]
  have := sm_cgf (s := clr s d) (n := n) (f := fun x => mn w x d) (g := fun x => lg w d * vl w x) (fun i hi hsi => by
    have := h i hi (clr_of hsi).1
    unfold mn
    rw [Nat.mul_comm (lg w i), Nat.mul_comm (lg w d)]
    exact Nat.min_eq_right this)
  omega
theorem first_ne (hd : d < n) (hs : s d = true) {k : Nat} (hk : k < n) (hsk : s k = true) (h : vl w d * lg w k < vl w k * lg w d) : wai w s n < lg w d * sm (vl w) s n + wai w (clr s d) n := by
  rw [wai_clr hd hs, sm_clr (f := vl w) hd hs, Nat.mul_add, ← sm_mul, Nat.mul_comm (vl w d)]
  have hkd : k ≠ d := by
    rintro rfl
    omega
  have := sm_lt (s := clr s d) (n := n) (f := fun x => mn w x d) (g := fun x => lg w d * vl w x) (fun i hi hsi => Nat.min_le_right _ _) hk (by rw [clr_ne hkd]; exact hsk) (by
    unfold mn
    have := Nat.min_le_left (lg w k * vl w d) (lg w d * vl w k)
    rw [Nat.mul_comm (lg w k)] at this
    rw [Nat.mul_comm (lg w k)]
    rw [Nat.mul_comm (vl w k)] at h
    omega)
  omega
theorem sdf_clr {S d : Nat} : (sdf S (2 ^ d)).testBit = clr S.testBit d := by
  funext i
  rw [sdf_bit, Nat.testBit_two_pow]
  unfold clr
  by_cases e : i = d
  · subst e
    rw [decide_eq_true rfl, decide_eq_false (fun h => h rfl)]
    rfl
  · rw [decide_eq_false (fun h => e h.symm), decide_eq_true e]
    rfl
theorem sdf_lt {S d : Nat} (h : S.testBit d = true) : sdf S (2 ^ d) < S := by
  refine Nat.lt_of_le_of_ne (sdf_le _ _) (fun e => ?_)
  have e2 : (sdf S (2 ^ d)).testBit d = S.testBit d := by rw [e]
  rw [sdf_clr, clr_at, h] at e2
  cases e2
end LINES
