/-! lines of a text, read -/
section LINS
variable {N : Nat} {m m' m5 : Mem} {K : Nat → Nat} {V : Nat → Int32} {hH hD lo hi : Int32} {k j z a b d w0 : Nat} {L : List Pc} {C : Cod} {R : List Rw4} {x y : Int32} {q : Rw4} {T : List (Nat × Int32)}
def tkAt (K : Nat → Nat) (V : Nat → Int32) (j : Nat) (T : List (Nat × Int32)) : Prop := ∀ i, i < T.length → K (j + i) = (T.getD i (0, nI 0)).1 ∧ V (j + i) = (T.getD i (0, nI 0)).2
theorem tkAt.app {T1 T2 : List (Nat × Int32)} (h : tkAt K V j (T1 ++ T2)) : tkAt K V j T1 ∧ tkAt K V (j + T1.length) T2 := by
  refine ⟨fun i hi => ?_, fun i hi => ?_⟩
  · have := h i (by rw [List.length_append]; omega)
    rw [List.getD_eq_getElem?_getD, List.getElem?_append_left hi, ← List.getD_eq_getElem?_getD] at this
    exact this
  · have := h (T1.length + i) (by rw [List.length_append]; omega)
    rw [List.getD_eq_getElem?_getD, List.getElem?_append_right (by omega), Nat.add_sub_cancel_left, ← List.getD_eq_getElem?_getD, show j + (T1.length + i) = j + T1.length + i by omega] at this
    exact this
/-- the tokens T are one line that lays the row q -/
def LnOk (k : Nat) (hH hD : Int32) (T : List (Nat × Int32)) (q : Rw4) : Prop := ∀ (K : Nat → Nat) (V : Nat → Int32) (j : Nat) (C : Cod) (R : List Rw4), tkAt K V j T → R.length ≠ 16 → tpS K V hH hD k (0, j, C, R) = (0, j + T.length, C, R ++ [q])
theorem itt_lines : ∀ (Ls : List (List (Nat × Int32) × Rw4)) (j : Nat) (C : Cod) (R : List Rw4), (∀ l, l ∈ Ls → LnOk k hH hD l.1 l.2) → tkAt K V j (Ls.flatMap Prod.fst) → R.length + Ls.length ≤ 16 → itt (tpS K V hH hD k) Ls.length (0, j, C, R) = (0, j + (Ls.flatMap Prod.fst).length, C, R ++ Ls.map Prod.snd)
  | [], j, C, R, _, _, _ => by simp [itt]
  | l :: r, j, C, R, h1, h2, h3 => by
    rw [List.length_cons] at h3
    have e : (l :: r).flatMap Prod.fst = l.1 ++ r.flatMap Prod.fst := rfl
    rw [e] at h2
    obtain ⟨g1, g2⟩ := h2.app
    have s1 := h1 l List.mem_cons_self K V j C R g1 (by omega)
    show itt (tpS K V hH hD k) r.length (tpS K V hH hD k (0, j, C, R)) = _
    rw [s1, itt_lines r (j + l.1.length) C (R ++ [l.2]) (fun x hx => h1 x (List.mem_cons_of_mem _ hx)) g2 (by rw [List.length_append]; simp; omega), e, List.length_append, Nat.add_assoc, List.append_assoc]
    rfl
theorem woR_y (h : K j = w0) : woR K w0 (0, j, x, y) = (0, j + 1, x, y) := by
  unfold woR
  rw [if_neg (show ¬ (0 : Nat) ≠ 0 by decide), if_pos h]
theorem ln_row (hk : k ≠ 0) (h0 : K j ≠ 0) (hb : bgn k (K j) = true) (hR : R.length ≠ 16) (hr : rowS K V hH hD k (K j) (0, j + 1, nI 0, nI 0) = (0, d, x, y)) : tpS K V hH hD k (0, j, C, R) = (0, d, C, R ++ [(K j, x, y, nI 0)]) := by
  rw [tpS_row h0 hb hR hk, hr]
theorem ln_hands (h1 : 1 ≤ a) (h2 : a ≤ 99) (h3 : b ≤ 9999) : LnOk 1 hH hD [(264, nI 0), (1, nI a), (273, nI 0), (1, nI b), (59, nI 0)] (264, nI a, nI b, nI 0) := by
  intro K V j C R h hR
  have k0 := (h 0 (by decide : 0 < 5)).1
  have k1 := h 1 (by decide : 1 < 5)
  have k2 := (h 2 (by decide : 2 < 5)).1
  have k3 := h 3 (by decide : 3 < 5)
  have k4 := (h 4 (by decide : 4 < 5)).1
  have e0 : K j = 264 := k0
  have e1 : K (j + 1) = 1 := k1.1
  have v1 : V (j + 1) = nI a := k1.2
  have e2 : K (j + 1 + 1) = 273 := k2
  have e3 : K (j + 1 + 1 + 1) = 1 := k3.1
  have v3 : V (j + 1 + 1 + 1) = nI b := k3.2
  have e4 : K (j + 1 + 1 + 1 + 1) = 59 := k4
  have := ln_row (K := K) (V := V) (hH := hH) (hD := hD) (C := C) (d := j + 1 + 1 + 1 + 1 + 1) (x := nI a) (y := nI b) (k := 1) (by decide) (by rw [e0]; decide) (by rw [e0]; decide) hR (by
    unfold rowS
    rw [if_pos rfl, e0, if_pos rfl, nu1_y ⟨e1, by rw [v1]; exact nI_le h1 (by omega), by rw [v1]; exact nI_le h2 (by decide)⟩, woR_y e2, nu2_y ⟨e3, by rw [v3]; exact nI_le (Nat.zero_le _) (by omega), by rw [v3]; exact nI_le h3 (by decide)⟩ (fun z => by cases z), woR_y e4, v1, v3])
  rw [this, e0]
  rfl
theorem ln_one {w1 lo hi : Nat} (hw : (w1 = 274 ∧ lo = 0 ∧ hi = 20) ∨ (w1 = 276 ∧ lo = 1 ∧ hi = 9999)) (h1 : lo ≤ a) (h2 : a ≤ hi) : LnOk 1 hH hD [(w1, nI 0), (1, nI a), (59, nI 0)] (w1, nI a, nI 0, nI 0) := by
  intro K V j C R h hR
  have k1 := h 1 (by decide : 1 < 3)
  have e0 : K j = w1 := (h 0 (by decide : 0 < 3)).1
  have e1 : K (j + 1) = 1 := k1.1
  have v1 : V (j + 1) = nI a := k1.2
  have e2 : K (j + 1 + 1) = 59 := (h 2 (by decide : 2 < 3)).1
  have := ln_row (K := K) (V := V) (hH := hH) (hD := hD) (C := C) (d := j + 1 + 1 + 1) (x := nI a) (y := nI 0) (k := 1) (by decide) (by rw [e0]; omega) (by rw [e0]; rcases hw with ⟨rfl, _⟩ | ⟨rfl, _⟩ <;> decide) hR (by
    unfold rowS
    rw [if_pos rfl, e0]
    rcases hw with ⟨rfl, rfl, rfl⟩ | ⟨rfl, rfl, rfl⟩
    · rw [if_neg (by decide), if_pos rfl, nu1_y ⟨e1, by rw [v1]; exact nI_le h1 (by omega), by rw [v1]; exact nI_le h2 (by decide)⟩, woR_y e2, v1]
    · rw [if_neg (by decide), if_neg (by decide), if_neg (by decide), nu1_y ⟨e1, by rw [v1]; exact nI_le h1 (by omega), by rw [v1]; exact nI_le h2 (by decide)⟩, woR_y e2, v1])
  rw [this, e0]
  rfl
theorem ln_dbl (hz : z ≤ 12) (h1 : a < z) : LnOk 1 (nI z - nI 1) hD [(275, nI 0), (1, nI a), (59, nI 0)] (275, nI a, nI 0, nI 0) := by
  intro K V j C R h hR
  have k1 := h 1 (by decide : 1 < 3)
  have e0 : K j = 275 := (h 0 (by decide : 0 < 3)).1
  have e1 : K (j + 1) = 1 := k1.1
  have v1 : V (j + 1) = nI a := k1.2
  have e2 : K (j + 1 + 1) = 59 := (h 2 (by decide : 2 < 3)).1
  have := ln_row (K := K) (V := V) (hH := nI z - nI 1) (hD := hD) (C := C) (d := j + 1 + 1 + 1) (x := nI a) (y := nI 0) (k := 1) (by decide) (by rw [e0]; decide) (by rw [e0]; decide) hR (by
    unfold rowS
    rw [if_pos rfl, e0, if_neg (by decide), if_neg (by decide), if_pos rfl, nu1_y ⟨e1, by rw [v1]; exact nI_le (Nat.zero_le _) (by omega), by rw [v1, pk_sub (by omega)]; exact nI_le (by omega) (by omega)⟩, woR_y e2, v1])
  rw [this, e0]
  rfl
theorem ln_at (hz : z ≤ 8) (h1 : a ≤ 9999) (h2 : d < z) : LnOk 2 hH (nI z - nI 1) [(277, nI 0), (1, nI a), (278, nI 0), (1, nI d), (59, nI 0)] (277, nI a, nI d, nI 0) := by
  intro K V j C R h hR
  have k1 := h 1 (by decide : 1 < 5)
  have k3 := h 3 (by decide : 3 < 5)
  have e0 : K j = 277 := (h 0 (by decide : 0 < 5)).1
  have e1 : K (j + 1) = 1 := k1.1
  have v1 : V (j + 1) = nI a := k1.2
  have e2 : K (j + 1 + 1) = 278 := (h 2 (by decide : 2 < 5)).1
  have e3 : K (j + 1 + 1 + 1) = 1 := k3.1
  have v3 : V (j + 1 + 1 + 1) = nI d := k3.2
  have e4 : K (j + 1 + 1 + 1 + 1) = 59 := (h 4 (by decide : 4 < 5)).1
  have := ln_row (K := K) (V := V) (hH := hH) (hD := nI z - nI 1) (C := C) (d := j + 1 + 1 + 1 + 1 + 1) (x := nI a) (y := nI d) (k := 2) (by decide) (by rw [e0]; decide) (by rw [e0]; decide) hR (by
    unfold rowS
    rw [if_neg (by decide), if_pos rfl, nu1_y ⟨e1, by rw [v1]; exact nI_le (Nat.zero_le _) (by omega), by rw [v1]; exact nI_le h1 (by decide)⟩, woR_y e2, nu2_y ⟨e3, by rw [v3]; exact nI_le (Nat.zero_le _) (by omega), by rw [v3, pk_sub (by omega)]; exact nI_le (by omega) (by omega)⟩ (fun z => by cases z), woR_y e4, v1, v3])
  rw [this, e0]
  rfl
theorem ln_seat (hz : z ≤ 12) (h1 : a < z) (h2 : b < z) (hne : a ≠ b) : LnOk 3 (nI z - nI 1) hD [(263, nI 0), (1, nI a), (271, nI 0), (1, nI b), (59, nI 0)] (263, nI a, nI b, nI 0) := by
  intro K V j C R h hR
  have k1 := h 1 (by decide : 1 < 5)
  have k3 := h 3 (by decide : 3 < 5)
  have e0 : K j = 263 := (h 0 (by decide : 0 < 5)).1
  have e1 : K (j + 1) = 1 := k1.1
  have v1 : V (j + 1) = nI a := k1.2
  have e2 : K (j + 1 + 1) = 271 := (h 2 (by decide : 2 < 5)).1
  have e3 : K (j + 1 + 1 + 1) = 1 := k3.1
  have v3 : V (j + 1 + 1 + 1) = nI b := k3.2
  have e4 : K (j + 1 + 1 + 1 + 1) = 59 := (h 4 (by decide : 4 < 5)).1
  have := ln_row (K := K) (V := V) (hH := nI z - nI 1) (hD := hD) (C := C) (d := j + 1 + 1 + 1 + 1 + 1) (x := nI a) (y := nI b) (k := 3) (by decide) (by rw [e0]; decide) (by rw [e0]; decide) hR (by
    unfold rowS
    rw [if_neg (by decide), if_neg (by decide), nu1_y ⟨e1, by rw [v1]; exact nI_le (Nat.zero_le _) (by omega), by rw [v1, pk_sub (by omega)]; exact nI_le (by omega) (by omega)⟩, woR_y e2, nu2_y ⟨e3, by rw [v3]; exact nI_le (Nat.zero_le _) (by omega), by rw [v3, pk_sub (by omega)]; exact nI_le (by omega) (by omega)⟩ (fun _ => by
      rw [v1, v3]
      exact nI_ne hne (by omega) (by omega)), woR_y e4, v1, v3])
  rw [this, e0]
  rfl
theorem tk_nz {i : Nat} (ha : adj L = true) (hi : i < (pTk L).length) : ((pTk L).getD i (0, nI 0)).1 ≠ 0 := by
  have key : ∀ (L : List Pc), adj L = true → ∀ t, t ∈ pTk L → t.1 ≠ 0 := by
    intro L
    induction L with
    | nil => intro _ t ht; cases ht
    | cons x r ih =>
      intro h t ht
      obtain ⟨hx, hr, -⟩ := adj_tl h
      unfold pTk at ht
      rw [List.filterMap_cons] at ht
      cases e : ptk x with
      | none => rw [e] at ht; exact ih hr t ht
      | some t0 =>
        rw [e] at ht
        rcases List.mem_cons.mp ht with q | q
        · subst q
          unfold ptk at e
          split at e
          · cases e
            show 256 + x.2 ≠ 0
            omega
          · split at e
            · cases e
              exact (by decide : (1 : Nat) ≠ 0)
            · split at e
              · rename_i h2
                cases e
                obtain ⟨-, -, -, -, h5, -⟩ := pc_0 hx
                have := (h5 h2).2
                show x.2 ≠ 0
                intro z
                rw [z] at this
                exact absurd this (by decide)
              · cases e
        · exact ih hr t q
  rw [List.getD_eq_getElem?_getD, List.getElem?_eq_getElem hi]
  exact key L ha _ (List.getElem_mem hi)
theorem lex_Mt (ha : adj L = true) (hn : (pTx L).length ≤ 400) : Mt (bF' (pTx L)) (pTx L).length (pTk L).length := by
  obtain ⟨l1, l2, l3⟩ := lex_all ha hn
  have nz : ∀ i, i < (pTk L).length → kT (bF' (pTx L)) (pTx L).length (psT (bF' (pTx L)) (pTx L).length i) ≠ 0 := fun i hi => by
    have := congrFun l1 i
    rw [show kT (bF' (pTx L)) (pTx L).length (psT (bF' (pTx L)) (pTx L).length i) = tkK (bF' (pTx L)) (pTx L).length i from rfl, this]
    exact tk_nz ha hi
  refine ⟨?_, (kv_end l3).1, nz, l3⟩
  have h1 := psT_ge hn _ nz
  rw [l3] at h1
  omega
/-- a text of lines told to the model -/
theorem m_textL {Ls : List (List (Nat × Int32) × Rw4)} (hN : 20000 ≤ N) (hk : k ≤ 3) (ha : adj L = true) (hn : (pTx L).length ≤ 400) (hA : Asc (pTx L)) (hT : pTk L = Ls.flatMap Prod.fst) (hok : ∀ l, l ∈ Ls → LnOk k (nI z - nI 1) hD l.1 l.2) (hl : Ls.length ≤ 16)
    (h16 : m 123 16 = nI (pTx L).length) (hb : ∀ i, i < (pTx L).length → m 131 i = nI ((pTx L).getD i 0)) (h37 : m 124 37 = nI z) (hz : z ≤ 12) (hD1 : m 124 38 - nI 1 = hD) :
    Wp (f_X12_text N (nI k) m) (fun v m5 => v = nI Ls.length ∧ m5 123 16 = nI 0 ∧ TxOk k [] (Ls.map Prod.snd) m m5) := by
  obtain ⟨l1, l2, l3⟩ := lex_all ha hn
  refine wp_mono (w_textM hN (lex_Mt ha hn) hk h16 hn hb (fun i hi => Nat.lt_of_lt_of_le (Asc.at hA) (by decide)) h37 hz rfl hD1) ?_
  rintro v m5 ⟨⟨-, h0, -⟩, h⟩
  have ta : tkAt (tkK (bF' (pTx L)) (pTx L).length) (tkV (bF' (pTx L)) (pTx L).length) 0 (Ls.flatMap Prod.fst) := by
    intro i hi
    rw [l1, l2, Nat.zero_add, hT]
    exact ⟨rfl, rfl⟩
  have it := itt_lines (k := k) (hH := nI z - nI 1) (hD := hD) Ls 0 [] [] hok ta (by simpa using hl)
  rw [Nat.zero_add, ← hT, List.nil_append] at it
  have kz : tkK (bF' (pTx L)) (pTx L).length (pTk L).length = 0 := (kv_end l3).1
  have f1 : fnl (tkK (bF' (pTx L)) (pTx L).length) (itt (tpS (tkK (bF' (pTx L)) (pTx L).length) (tkV (bF' (pTx L)) (pTx L).length) (nI z - nI 1) hD k) Ls.length (0, 0, [], [])) := by
    rw [it]
    exact Or.inr kz
  rcases h with ⟨-, ⟨c, c1, c2, -⟩, -⟩ | ⟨c, j, C, R, e1, e2, e3, -, -, -, e7⟩
  · exfalso
    have := itt_one c1 f1
    rw [this, it] at c2
    exact c2 rfl
  · have f2 : fnl (tkK (bF' (pTx L)) (pTx L).length) (itt (tpS (tkK (bF' (pTx L)) (pTx L).length) (tkV (bF' (pTx L)) (pTx L).length) (nI z - nI 1) hD k) c (0, 0, [], [])) := by
      rw [e1]
      exact Or.inr e2
    have := itt_one f2 f1
    rw [e1, it] at this
    have eC : C = [] := congrArg (fun s : Ts => s.2.2.1) this
    have eR : R = Ls.map Prod.snd := congrArg (fun s : Ts => s.2.2.2) this
    subst eC eR
    rw [List.length_map] at e3
    exact ⟨e3, h0, e7⟩
end LINS
