/-! what the model has when THE LAW is told -/
section TLAW2
variable {N z i j k : Nat} {n : Nat → Nat} {m m5 : Mem} {hD : Int32} {LN : List Lin} {C : Cod} {R : List Rw4} {L : List Pc}
theorem text_law {Ls : List (List (Nat × Int32) × Lin)} (hN : 20000 ≤ N) (ha : adj L = true) (hn : (pTx L).length ≤ 400) (hA : Asc (pTx L)) (hT : pTk L = Ls.flatMap Prod.fst) (hok : ∀ l, l ∈ Ls → LwLn l.1 l.2) (hl : Ls.length ≤ 16) (ht : (Ls.flatMap Prod.fst).length ≤ 400)
    (h16 : m 123 16 = nI (pTx L).length) (hb : ∀ i, i < (pTx L).length → m 131 i = nI ((pTx L).getD i 0)) (h37 : m 124 37 = nI z) (hz : z ≤ 12) :
    Wp (f_X12_text N (nI 0) m) (fun v m5 => v = nI Ls.length ∧ m5 123 16 = nI 0 ∧ TxOk 0 (lcC [] Ls) (lcR [] [] Ls) m m5) := by
  obtain ⟨l1, l2, l3⟩ := lex_all ha hn
  refine wp_mono (w_textM (hD := m 124 38 - nI 1) hN (lex_Mt ha hn) (by decide) h16 hn hb (fun i hi => Nat.lt_of_lt_of_le (Asc.at hA) (by decide)) h37 hz rfl rfl) ?_
  rintro v m5 ⟨⟨-, h0, -⟩, h⟩
  have ta : tkAt (tkK (bF' (pTx L)) (pTx L).length) (tkV (bF' (pTx L)) (pTx L).length) 0 (Ls.flatMap Prod.fst) := by
    intro i hi
    rw [l1, l2, Nat.zero_add, hT]
    exact ⟨rfl, rfl⟩
  have it := itt_laws (hH := nI z - nI 1) (hD := m 124 38 - nI 1) Ls 0 [] [] hok ta (by simpa using hl) (by omega)
  rw [Nat.zero_add, ← hT] at it
  have kz : tkK (bF' (pTx L)) (pTx L).length (pTk L).length = 0 := (kv_end l3).1
  have f1 : fnl (tkK (bF' (pTx L)) (pTx L).length) (itt (tpS (tkK (bF' (pTx L)) (pTx L).length) (tkV (bF' (pTx L)) (pTx L).length) (nI z - nI 1) (m 124 38 - nI 1) 0) Ls.length (0, 0, [], [])) := by
    rw [it]
    exact Or.inr kz
  rcases h with ⟨-, ⟨c, c1, c2, -⟩, -⟩ | ⟨c, j, C, R, e1, e2, e3, -, -, -, e7⟩
  · exfalso
    have := itt_one c1 f1
    rw [this, it] at c2
    exact c2 rfl
  · have f2 : fnl (tkK (bF' (pTx L)) (pTx L).length) (itt (tpS (tkK (bF' (pTx L)) (pTx L).length) (tkV (bF' (pTx L)) (pTx L).length) (nI z - nI 1) (m 124 38 - nI 1) 0) c (0, 0, [], [])) := by
      rw [e1]
      exact Or.inr e2
    have := itt_one f2 f1
    rw [e1, it] at this
    have eC : C = lcC [] Ls := congrArg (fun s : Ts => s.2.2.1) this
    have eR : R = lcR [] [] Ls := congrArg (fun s : Ts => s.2.2.2) this
    subst eC eR
    have lR := (lc_ok Ls [] []).1
    rw [List.length_nil, Nat.zero_add] at lR
    rw [lR] at e3
    exact ⟨e3, h0, e7⟩
theorem TxOk.law (h : TxOk 0 C R m m5) : m5 123 4 = m 123 4 ∧ ∃ LN, lawW (m5 124) LN ∧ lawOk LN ∧ (∀ i, i ≠ 40 → i < 823 → m5 124 i = m 124 i) ∧ R.length = LN.length ∧ ∀ i l, LN[i]? = some l → rowC C R i l := by
  rcases h with h | h | h | h
  · exact h.2
  · exact absurd h.1 (by decide)
  · exact absurd h.1 (by decide)
  · exact absurd h.1 (by decide)
theorem tell_law (hN : 20000 ≤ N) (hn : ∀ j, j < 7 → n j < 10000) (h16 : m 123 16 = nI (pTx (lawP n)).length) (hb : ∀ i, i < (pTx (lawP n)).length → m 131 i = nI ((pTx (lawP n)).getD i 0)) (h37 : m 124 37 = nI z) (hz : z ≤ 12) :
    Wp (f_X12_text N (nI 0) m) (fun v m5 => v = nI 6 ∧ m5 123 16 = nI 0 ∧ m5 123 4 = m 123 4 ∧ ∃ LN, lawW (m5 124) LN ∧ lawOk LN ∧ LawD LN (some fun j => nI (n j)) ∧ ∀ i, i ≠ 40 → i < 823 → m5 124 i = m 124 i) := by
  obtain ⟨l1, l2⟩ := law_len hn
  have lt : ((lawLs n).flatMap Prod.fst).length ≤ 400 := by
    have : ((lawLs n).flatMap Prod.fst).length = 79 := rfl
    omega
  refine wp_mono (text_law hN (adj_law hn) (by omega) l2 law_tk law_lns (show 6 ≤ 16 by decide) lt h16 hb h37 hz) ?_
  rintro v m5 ⟨rfl, q16, ok⟩
  obtain ⟨e4, LN, w1, w2, w3, w4, w5⟩ := ok.law
  refine ⟨rfl, q16, e4, LN, w1, w2, ?_, w3⟩
  obtain ⟨a1, -, -, -, a5⟩ := lc_ok (lawLs n) [] []
  have e0 : LN0 (fun j => nI (n j)) = (lawLs n).map Prod.snd := rfl
  have same := say_same LN (LN0 fun j => nI (n j)) (by rw [← w4, a1]; rfl) (fun i l l' hl hl' => by
    have ok' := lnOk_0 (dv := fun j => nI (n j)) l' (List.mem_iff_getElem?.mpr ⟨i, hl'⟩)
    rw [e0, List.getElem?_map] at hl'
    obtain ⟨y, hy, rfl⟩ := Option.map_eq_some_iff.mp hl'
    have := a5 i y hy
    rw [List.length_nil, Nat.zero_add] at this
    exact line_same (w5 i l hl) this (by rw [law_C]; decide) (w2.2 l (List.mem_iff_getElem?.mpr ⟨i, hl⟩)) ok')
  obtain ⟨d1, d2, d3⟩ := lawD_0 (dv := fun j => nI (n j))
  exact ⟨fun fa => (same fa 0).trans (d1 fa), fun fa => (same fa 2).trans (d2 fa), fun fa => (same fa 1).trans (d3 fa)⟩
end TLAW2
