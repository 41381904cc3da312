/-! the tokens of a text of pieces -/
section LEXS
variable {B : Nat → Nat} {n p j k z c e i : Nat} {s pre : List Nat} {L r : List Pc} {x y : Pc} {f : Nat → Bool}
theorem adj_tl (h : adj (x :: r) = true) : pok x = true ∧ adj r = true ∧ ∀ y r', r = y :: r' → (1 < x.1 ∨ x.1 ≠ y.1) ∧ pok y = true := by
  unfold adj at h
  rw [Bool.and_eq_true, Bool.and_eq_true] at h
  refine ⟨h.1.1, h.2, fun y r' e => ?_⟩
  subst e
  have h2 := h.2
  unfold adj at h2
  rw [Bool.and_eq_true, Bool.and_eq_true] at h2
  exact ⟨of_decide_eq_true h.1.2, h2.1.1⟩
/-- the byte behind a piece -/
theorem nx_chr (hs : s = pre ++ pTx r) : (r = [] ∧ chr (bF' s) s.length pre.length = 256) ∨ ∃ y r', r = y :: r' ∧ (pok y = true → chr (bF' s) s.length pre.length = (pch y).getD 0 0) := by
  cases r with
  | nil =>
    refine Or.inl ⟨rfl, ?_⟩
    rw [hs]
    unfold chr
    rw [if_neg (by simp [pTx])]
  | cons y r' =>
    refine Or.inr ⟨y, r', rfl, fun hy => ?_⟩
    have hl := (pc_0 hy).1
    have e : s = pre ++ pch y ++ pTx r' := by rw [hs, List.append_assoc]; rfl
    exact chr_mid (i := 0) e hl
theorem pc_first (hy : pok y = true) : ((pch y).getD 0 0 = 256 → False) ∧ (isL ((pch y).getD 0 0) = true → y.1 = 0) ∧ (isD ((pch y).getD 0 0) = true → y.1 = 1) := by
  obtain ⟨h1, h2, h3, h4, h5, h6⟩ := pc_0 hy
  rcases (show y.1 = 0 ∨ y.1 = 1 ∨ y.1 = 2 ∨ 2 < y.1 by omega) with q | q | q | q
  · obtain ⟨a, b, c, d⟩ := h3 q 0 h1
    exact ⟨fun z => by omega, fun _ => q, fun z => by rw [b] at z; cases z⟩
  · obtain ⟨a, b, c, d⟩ := h4 q 0 h1
    exact ⟨fun z => by omega, fun z => (by rw [b] at z; cases z), fun _ => q⟩
  · obtain ⟨a, b⟩ := h5 q
    obtain ⟨g1, g2, g3, g4⟩ := sgn_all _ b
    rw [a]
    show ((y.2 = 256 → False) ∧ (isL y.2 = true → _) ∧ (isD y.2 = true → _))
    exact ⟨fun z => by omega, fun z => (by rw [g1] at z; cases z), fun z => (by rw [g2] at z; cases z)⟩
  · rw [h6 q]
    exact ⟨by decide, fun z => absurd z (by decide), fun z => absurd z (by decide)⟩
theorem lex_ind : ∀ (L : List Pc) (pre : List Nat) (j : Nat), adj L = true → s = pre ++ pTx L → s.length ≤ 400 → stT (bF' s) s.length pre.length = psT (bF' s) s.length j →
    (∀ i, i < (pTk L).length → tkK (bF' s) s.length (j + i) = ((pTk L).getD i (0, nI 0)).1 ∧ tkV (bF' s) s.length (j + i) = ((pTk L).getD i (0, nI 0)).2) ∧ psT (bF' s) s.length (j + (pTk L).length) = s.length
  | [], pre, j, _, hs, hn, hp => by
    have hl : pre.length = s.length := by rw [hs]; simp [pTx]
    have h0 : stT (bF' s) s.length pre.length = s.length := by
      unfold stT
      rw [hl]
      exact goo_n (by
        unfold chr
        rw [if_neg (by omega)]
        decide)
    exact ⟨fun i hi => absurd hi (by simp [pTk]), by rw [show j + (pTk []).length = j from rfl, ← hp]; exact h0⟩
  | x :: r, pre, j, ha, hs, hn, hp => by
    obtain ⟨hx, har, hnx⟩ := adj_tl ha
    obtain ⟨h1, h7, h3, h4, h5, h6⟩ := pc_0 hx
    have e1 : s = pre ++ pch x ++ pTx r := by rw [hs, List.append_assoc]; rfl
    have ln : pre.length + (pch x).length ≤ s.length := by
      rw [e1, List.length_append, List.length_append]
      omega
    have lp : (pre ++ pch x).length = pre.length + (pch x).length := List.length_append
    have at_ : ∀ i, i < (pch x).length → chr (bF' s) s.length (pre.length + i) = (pch x).getD i 0 := fun i hi => chr_mid e1 hi
    have at0 := at_ 0 h1
    rw [Nat.add_zero] at at0
    have nxc := nx_chr (pre := pre ++ pch x) e1
    rw [lp] at nxc
    -- the byte behind goes on with no word, no number
    have nxL : x.1 = 0 → isL (chr (bF' s) s.length (pre.length + (pch x).length)) = false := fun hx0 => by
      rcases nxc with ⟨_, q⟩ | ⟨y, r', er, q⟩
      · rw [q]; decide
      · obtain ⟨ad, hy⟩ := hnx y r' er
        rw [q hy]
        cases z : isL ((pch y).getD 0 0) with
        | false => rfl
        | true =>
          have := (pc_first hy).2.1 z
          omega
    have nxD : x.1 = 1 → isD (chr (bF' s) s.length (pre.length + (pch x).length)) = false := fun hx0 => by
      rcases nxc with ⟨_, q⟩ | ⟨y, r', er, q⟩
      · rw [q]; decide
      · obtain ⟨ad, hy⟩ := hnx y r' er
        rw [q hy]
        cases z : isD ((pch y).getD 0 0) with
        | false => rfl
        | true =>
          have := (pc_first hy).2.2 z
          omega
    by_cases hb : 2 < x.1
    · -- a blank
      have ex := h6 hb
      have hk : isK (chr (bF' s) s.length pre.length) = true := by rw [at0, ex]; decide
      have hst : stT (bF' s) s.length (pre ++ pch x).length = psT (bF' s) s.length j := by
        rw [← hp, lp, ex]
        unfold stT
        exact (goo_s (p := fun i => isK (chr (bF' s) s.length i)) hk (by
          rw [ex] at ln
          have : ([32] : List Nat).length = 1 := rfl
          omega)).symm
      have tk0 : pTk (x :: r) = pTk r := by
        unfold pTk
        rw [List.filterMap_cons]
        have : ptk x = none := by
          unfold ptk
          rw [if_neg (by omega), if_neg (by omega), if_neg (by omega)]
        rw [this]
      rw [tk0]
      exact lex_ind r (pre ++ pch x) j har e1 hn hst
    · -- a token
      have hk : isK (chr (bF' s) s.length pre.length) = false := by
        rw [at0]
        rcases (show x.1 = 0 ∨ x.1 = 1 ∨ x.1 = 2 by omega) with q | q | q
        · exact (h3 q 0 h1).2.2.1
        · exact (h4 q 0 h1).2.2.1
        · obtain ⟨a, b⟩ := h5 q
          rw [a]
          exact (sgn_all _ b).2.2.1
      have hc6 : chr (bF' s) s.length pre.length ≠ 256 := by rw [at0]; exact fun z => (pc_first hx).1 z
      have pj : psT (bF' s) s.length j = pre.length := by
        rw [← hp]
        unfold stT
        exact goo_n (p := fun i => isK (chr (bF' s) s.length i)) hk
      obtain ⟨tk, et, eE, eK, eV⟩ : ∃ tk, ptk x = some tk ∧ enT (bF' s) s.length pre.length = pre.length + (pch x).length ∧ kT (bF' s) s.length pre.length = tk.1 ∧ vT (bF' s) s.length pre.length = tk.2 := by
        rcases (show x.1 = 0 ∨ x.1 = 1 ∨ x.1 = 2 by omega) with q | q | q
        · have hq : x.2 < 23 := by
            unfold pok at hx
            rw [if_pos q] at hx
            exact of_decide_eq_true hx
          have ep : pch x = WD.getD x.2 [] := if_pos q
          have d0 : isD (chr (bF' s) s.length pre.length) = false := by rw [at0]; exact (h3 q 0 h1).2.1
          have l0 : isL (chr (bF' s) s.length pre.length) = true := by rw [at0]; exact (h3 q 0 h1).1
          have en : enT (bF' s) s.length pre.length = pre.length + (pch x).length := by
            unfold enT
            rw [if_neg hc6, if_neg (by rw [d0]; decide), if_pos l0]
            exact goo_run (f := fun i => isL (chr (bF' s) s.length i)) _ _ (fun i hi => by rw [at_ i hi]; exact (h3 q i hi).1) (nxL q) (by omega)
          refine ⟨(256 + x.2, nI 0), if_pos q, en, ?_, ?_⟩
          · unfold kT
            rw [if_neg hc6, if_neg (by rw [d0]; decide), if_pos l0, en, txt_is (q := x.2) (by rw [Nat.add_sub_cancel_left, ep]; rfl) (fun t ht => by rw [at_ t (by rw [ep]; exact ht), ep])]
            exact WD_ne _ hq
          · unfold vT
            rw [if_neg (by rw [d0]; decide)]
        · have hq : x.2 < 10000 := by
            unfold pok at hx
            rw [if_neg (by omega), if_pos q] at hx
            exact of_decide_eq_true hx
          have ep : pch x = dgs x.2 := (if_neg (by omega)).trans (if_pos q)
          have d0 : isD (chr (bF' s) s.length pre.length) = true := by rw [at0]; exact (h4 q 0 h1).1
          have en : enT (bF' s) s.length pre.length = pre.length + (pch x).length := by
            unfold enT
            rw [if_neg hc6, if_pos d0]
            exact goo_run (f := fun i => isD (chr (bF' s) s.length i)) _ _ (fun i hi => by rw [at_ i hi]; exact (h4 q i hi).1) (nxD q) (by omega)
          have l4 : (pch x).length ≤ 4 := by
            rw [ep, dgs_len]
            split
            · decide
            · split
              · decide
              · split <;> decide
          refine ⟨(1, nI x.2), (if_neg (by omega)).trans (if_pos q), en, ?_, ?_⟩
          · unfold kT
            rw [if_neg hc6, if_pos d0, en, Nat.add_sub_cancel_left, if_pos l4]
          · unfold vT
            rw [if_pos d0, en, Nat.add_sub_cancel_left, ep]
            exact vIn_dgs hq (fun i hi => by rw [at_ i (by rw [ep]; exact hi), ep])
        · obtain ⟨ep, b⟩ := h5 q
          obtain ⟨g1, g2, g3, g4⟩ := sgn_all _ b
          have ec : chr (bF' s) s.length pre.length = x.2 := by rw [at0, ep]; rfl
          refine ⟨(x.2, nI 0), (if_neg (by omega)).trans ((if_neg (by omega)).trans (if_pos q)), ?_, ?_, ?_⟩
          · unfold enT
            rw [if_neg hc6, if_neg (by rw [ec, g2]; decide), if_neg (by rw [ec, g1]; decide), ep]
            rfl
          · unfold kT
            rw [if_neg hc6, if_neg (by rw [ec, g2]; decide), if_neg (by rw [ec, g1]; decide), if_pos (by rw [ec]; exact b), ec]
          · unfold vT
            rw [if_neg (by rw [ec, g2]; decide)]
      have hst : stT (bF' s) s.length (pre ++ pch x).length = psT (bF' s) s.length (j + 1) := by
        show _ = stT (bF' s) s.length (enT (bF' s) s.length (psT (bF' s) s.length j))
        rw [pj, eE, lp]
      have tk1 : pTk (x :: r) = tk :: pTk r := by
        unfold pTk
        rw [List.filterMap_cons, et]
      obtain ⟨ih1, ih2⟩ := lex_ind r (pre ++ pch x) (j + 1) har e1 hn hst
      rw [tk1]
      refine ⟨fun i hi => ?_, ?_⟩
      · cases i with
        | zero =>
          unfold tkK tkV
          rw [Nat.add_zero, pj]
          exact ⟨eK, eV⟩
        | succ i =>
          have := ih1 i (by simpa using hi)
          rw [show j + 1 + i = j + (i + 1) by omega] at this
          exact this
      · rw [List.length_cons, show j + ((pTk r).length + 1) = j + 1 + (pTk r).length by omega]
        exact ih2
theorem ps_end (hp : psT B n j = n) : ∀ i, psT B n (j + i) = n
  | 0 => hp
  | i + 1 => by
    show stT B n (enT B n (psT B n (j + i))) = n
    rw [ps_end hp i]
    have h256 : chr B n n = 256 := if_neg (by omega)
    unfold enT
    rw [if_pos h256]
    exact goo_n (p := fun i => isK (chr B n i)) (by show isK (chr B n n) = false; rw [h256]; decide)
theorem kv_end (hp : psT B n j = n) : tkK B n j = 0 ∧ tkV B n j = nI 0 := by
  have h256 : chr B n n = 256 := if_neg (by omega)
  unfold tkK tkV kT vT
  rw [hp]
  exact ⟨if_pos h256, if_neg (by rw [h256]; decide)⟩
/-- the tokens of a text of pieces -/
theorem lex_all (ha : adj L = true) (hn : (pTx L).length ≤ 400) :
    (tkK (bF' (pTx L)) (pTx L).length = fun i => ((pTk L).getD i (0, nI 0)).1) ∧ (tkV (bF' (pTx L)) (pTx L).length = fun i => ((pTk L).getD i (0, nI 0)).2) ∧ psT (bF' (pTx L)) (pTx L).length (pTk L).length = (pTx L).length := by
  obtain ⟨h1, h2⟩ := lex_ind (s := pTx L) L [] 0 ha rfl hn rfl
  rw [Nat.zero_add] at h2
  have hz : ∀ i, ¬ i < (pTk L).length → (pTk L).getD i (0, nI 0) = (0, nI 0) := fun i hi => by
    rw [List.getD_eq_getElem?_getD, List.getElem?_eq_none (by omega)]
    rfl
  refine ⟨funext fun i => ?_, funext fun i => ?_, h2⟩
  · by_cases q : i < (pTk L).length
    · have := (h1 i q).1
      rw [Nat.zero_add] at this
      exact this
    · have := (kv_end (ps_end h2 (i - (pTk L).length))).1
      rw [show (pTk L).length + (i - (pTk L).length) = i by omega] at this
      rw [this, hz i q]
  · by_cases q : i < (pTk L).length
    · have := (h1 i q).2
      rw [Nat.zero_add] at this
      exact this
    · have := (kv_end (ps_end h2 (i - (pTk L).length))).2
      rw [show (pTk L).length + (i - (pTk L).length) = i by omega] at this
      rw [this, hz i q]
end LEXS
