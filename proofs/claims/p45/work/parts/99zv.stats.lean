/-! texts told line after line; what the statutes told are in the row of the state -/
section STATT
variable {α : Type} {P : α → List Pc} {R : α → Rw4} {T : List α} {N k z i j n c : Nat} {m m5 : Mem} {hD hH : Int32} {w w' : Arr}
theorem pTx_app {L M : List Pc} : pTx (L ++ M) = pTx L ++ pTx M := List.flatMap_append
theorem pTk_app {L M : List Pc} : pTk (L ++ M) = pTk L ++ pTk M := List.filterMap_append
theorem adj_all : ∀ T : List α, (∀ x, x ∈ T → ∀ r, adj r = true → adj (P x ++ r) = true) → adj (T.flatMap P) = true
  | [], _ => rfl
  | x :: r, h => h x (List.mem_cons_self ..) _ (adj_all r fun y hy => h y (List.mem_cons_of_mem _ hy))
theorem pTk_all : ∀ T : List α, pTk (T.flatMap P) = (T.map fun x => (pTk (P x), R x)).flatMap Prod.fst
  | [] => rfl
  | x :: r => by
    have e : (x :: r).flatMap P = P x ++ r.flatMap P := rfl
    rw [e, pTk_app, pTk_all r]
    rfl
theorem asc_all (h : ∀ x, x ∈ T → Asc (pTx (P x))) : Asc (pTx (T.flatMap P)) := by
  intro b hb
  unfold pTx at hb
  rw [List.mem_flatMap] at hb
  obtain ⟨y, hy, hb⟩ := hb
  rw [List.mem_flatMap] at hy
  obtain ⟨x, hx, hy⟩ := hy
  refine h x hx b ?_
  unfold pTx
  rw [List.mem_flatMap]
  exact ⟨y, hy, hb⟩
theorem len_all (h : ∀ x, x ∈ T → (pTx (P x)).length ≤ c) : (pTx (T.flatMap P)).length ≤ c * T.length := by
  induction T with
  | nil => exact Nat.zero_le _
  | cons x r ih =>
    have e : (x :: r).flatMap P = P x ++ r.flatMap P := rfl
    rw [e, pTx_app, List.length_append, List.length_cons, Nat.mul_succ]
    have h1 := h x (List.mem_cons_self ..)
    have h2 := ih (fun y hy => h y (List.mem_cons_of_mem _ hy))
    omega
theorem pTx_snoc {x : α} : pTx ((T ++ [x]).flatMap P) = pTx (T.flatMap P) ++ pTx (P x) := by
  rw [List.flatMap_append, pTx_app]
  show _ ++ pTx (P x ++ []) = _
  rw [List.append_nil]
/-- a line that a text of kind k may have -/
def Tel (k z : Nat) (hD : Int32) (P : α → List Pc) (R : α → Rw4) (c : Nat) (x : α) : Prop := (∀ r, adj r = true → adj (P x ++ r) = true) ∧ LnOk k (nI z - nI 1) hD (pTk (P x)) (R x) ∧ (pTx (P x)).length ≤ c ∧ Asc (pTx (P x))
theorem tell (hN : 20000 ≤ N) (hk : k ≤ 3) (hg : ∀ x, x ∈ T → Tel k z hD P R c x) (hl : T.length ≤ 16) (hc : c * T.length ≤ 400) (h16 : m 123 16 = nI (pTx (T.flatMap P)).length) (hb : ∀ i, i < (pTx (T.flatMap P)).length → m 131 i = nI ((pTx (T.flatMap P)).getD i 0)) (h37 : m 124 37 = nI z) (hz : z ≤ 12) (hD1 : m 124 38 - nI 1 = hD) :
    Wp (f_X12_text N (nI k) m) (fun v m5 => v = nI T.length ∧ m5 123 16 = nI 0 ∧ TxOk k [] (T.map R) m m5) := by
  have := m_textL (Ls := T.map fun x => (pTk (P x), R x)) hN hk (adj_all T fun x hx => (hg x hx).1) (Nat.le_trans (len_all fun x hx => (hg x hx).2.2.1) hc) (asc_all fun x hx => (hg x hx).2.2.2) (pTk_all T) (by
    intro l hl
    rw [List.mem_map] at hl
    obtain ⟨x, hx, rfl⟩ := hl
    exact (hg x hx).2.1) (by rw [List.length_map]; exact hl) h16 hb h37 hz hD1
  rw [List.length_map, List.map_map] at this
  exact this
/-- a statute: its kind, its numbers -/
abbrev St3 : Type := Nat × Nat × Nat
def stW (k : Nat) : Nat := if k = 0 then 264 else if k = 1 then 274 else if k = 2 then 276 else 275
def stP (x : St3) : List Pc := if x.1 = 0 then [(0, 8), (3, 0), (1, x.2.1), (3, 0), (0, 17), (3, 0), (1, x.2.2), (2, 59)] else [(0, stW x.1 - 256), (3, 0), (1, x.2.1), (2, 59)]
def stR (x : St3) : Rw4 := (stW x.1, nI x.2.1, nI x.2.2, nI 0)
def stO (z : Nat) (x : St3) : Prop := (x.1 = 0 ∧ 1 ≤ x.2.1 ∧ x.2.1 ≤ 99 ∧ x.2.2 ≤ 9999) ∨ (x.1 = 1 ∧ x.2.1 ≤ 20 ∧ x.2.2 = 0) ∨ (x.1 = 2 ∧ 1 ≤ x.2.1 ∧ x.2.1 ≤ 9999 ∧ x.2.2 = 0) ∨ (x.1 = 3 ∧ x.2.1 < z ∧ x.2.2 = 0)
theorem adj_sg {r : List Pc} (h : adj r = true) : adj ((2, 59) :: r) = true := by
  unfold adj
  cases r with
  | nil => rfl
  | cons y r => rw [h]; rfl
theorem adj_bl {x : Pc} {r : List Pc} (hx : pok x = true) (h : adj ((3, 0) :: r) = true) : adj (x :: (3, 0) :: r) = true := by
  show (pok x && decide (1 < x.1 ∨ x.1 ≠ 3) && adj ((3, 0) :: r)) = true
  rw [hx, h, decide_eq_true (by omega)]
  rfl
theorem adj_b2 {y : Pc} {r : List Pc} (h : adj (y :: r) = true) : adj ((3, 0) :: y :: r) = true := by
  show (pok (3, 0) && decide (1 < 3 ∨ 3 ≠ y.1) && adj (y :: r)) = true
  rw [h]
  rfl
theorem adj_nm {a : Nat} {r : List Pc} (ha : a < 10000) (h : adj ((2, 59) :: r) = true) : adj ((1, a) :: (2, 59) :: r) = true := by
  show (pok (1, a) && decide (1 < 1 ∨ 1 ≠ 2) && adj ((2, 59) :: r)) = true
  rw [h, show pok (1, a) = true from decide_eq_true ha]
  rfl
theorem pok_n {a : Nat} (ha : a < 10000) : pok (1, a) = true := decide_eq_true ha
theorem dgs_le {a : Nat} (ha : a < 10000) : (dgs a).length ≤ 4 := by
  rw [dgs_len]
  split
  · decide
  · split
    · decide
    · split <;> decide
theorem asc_app {s t : List Nat} (a : Asc s) (b : Asc t) : Asc (s ++ t) := fun x hx => (List.mem_append.mp hx).elim (a x) (b x)
theorem st_p1 {q a b wd : Nat} (h : q ≠ 0) (e : stW q - 256 = wd) : stP (q, a, b) = [(0, wd), (3, 0), (1, a), (2, 59)] := by
  subst e
  exact if_neg h
theorem tel_st (hz : z ≤ 12) {x : St3} (h : stO z x) : Tel 1 z hD stP stR 22 x := by
  obtain ⟨q, a, b⟩ := x
  have one : ∀ wd, wd < 23 → a < 10000 → stP (q, a, b) = [(0, wd), (3, 0), (1, a), (2, 59)] → Asc (WD.getD wd []) → (WD.getD wd []).length ≤ 7 → (∀ r, adj r = true → adj (stP (q, a, b) ++ r) = true) ∧ (pTx (stP (q, a, b))).length ≤ 22 ∧ Asc (pTx (stP (q, a, b))) ∧ pTk (stP (q, a, b)) = [(256 + wd, nI 0), (1, nI a), (59, nI 0)] := by
    intro wd hwd ha e A1 l1
    have l2 := dgs_le ha
    rw [e]
    refine ⟨fun r hr => adj_bl (decide_eq_true hwd) (adj_b2 (adj_nm ha (adj_sg hr))), ?_, ?_, rfl⟩
    · show (WD.getD wd [] ++ ([32] ++ (dgs a ++ ([59] ++ [])))).length ≤ 22
      simp only [List.length_append, List.length_cons, List.length_nil]
      omega
    · show Asc (WD.getD wd [] ++ ([32] ++ (dgs a ++ ([59] ++ []))))
      exact asc_app A1 (asc_app (by intro b hb; simp at hb; omega) (asc_app (dgs_asc ha) (by intro b hb; simp at hb; omega)))
  rcases h with ⟨h1, h2, h3, h4⟩ | ⟨h1, h2, h3⟩ | ⟨h1, h2, h3, h4⟩ | ⟨h1, h2, h3⟩
  · dsimp only at h1 h2 h3 h4
    subst h1
    have ha : a < 10000 := by omega
    have hb : b < 10000 := by omega
    have l1 := dgs_le ha
    have l2 := dgs_le hb
    refine ⟨fun r hr => ?_, ln_hands h2 h3 h4, ?_, ?_⟩
    · exact adj_bl (by decide) (adj_b2 (adj_bl (pok_n ha) (adj_b2 (adj_bl (by decide) (adj_b2 (adj_nm hb (adj_sg hr)))))))
    · show (WD.getD 8 [] ++ ([32] ++ (dgs a ++ ([32] ++ (WD.getD 17 [] ++ ([32] ++ (dgs b ++ ([59] ++ [])))))))).length ≤ 22
      have e1 : (WD.getD 8 []).length = 5 := by decide
      have e2 : (WD.getD 17 []).length = 4 := by decide
      simp only [List.length_append, List.length_cons, List.length_nil, e1, e2]
      omega
    · show Asc (WD.getD 8 [] ++ ([32] ++ (dgs a ++ ([32] ++ (WD.getD 17 [] ++ ([32] ++ (dgs b ++ ([59] ++ []))))))))
      have c1 : Asc [32] := by intro b hb; simp at hb; omega
      have c2 : Asc ([59] ++ []) := by intro b hb; simp at hb; omega
      have w1 : Asc (WD.getD 8 []) := by unfold Asc; decide
      have w2 : Asc (WD.getD 17 []) := by unfold Asc; decide
      exact asc_app w1 (asc_app c1 (asc_app (dgs_asc (by omega)) (asc_app c1 (asc_app w2 (asc_app c1 (asc_app (dgs_asc (by omega)) c2))))))
  · dsimp only at h1 h2 h3
    subst h1 h3
    obtain ⟨g1, g2, g3, g4⟩ := one 18 (by decide) (by omega) (st_p1 (by decide) (by decide)) (by unfold Asc; decide) (by decide)
    exact ⟨g1, by rw [g4]; exact ln_one (w1 := 274) (lo := 0) (hi := 20) (Or.inl ⟨rfl, rfl, rfl⟩) (Nat.zero_le _) h2, g2, g3⟩
  · dsimp only at h1 h2 h3 h4
    subst h1 h4
    obtain ⟨g1, g2, g3, g4⟩ := one 20 (by decide) (by omega) (st_p1 (by decide) (by decide)) (by unfold Asc; decide) (by decide)
    exact ⟨g1, by rw [g4]; exact ln_one (w1 := 276) (lo := 1) (hi := 9999) (Or.inr ⟨rfl, rfl, rfl⟩) h2 h3, g2, g3⟩
  · dsimp only at h1 h2 h3
    subst h1 h3
    obtain ⟨g1, g2, g3, g4⟩ := one 19 (by decide) (by omega) (st_p1 (by decide) (by decide)) (by unfold Asc; decide) (by decide)
    exact ⟨g1, by rw [g4]; exact ln_dbl hz h2, g2, g3⟩
end STATT
