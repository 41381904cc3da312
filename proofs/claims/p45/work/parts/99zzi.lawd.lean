/-! THE LAW that is told says what the House's own numbers say -/
section LAWE
variable {K : Nat → Nat} {V : Nat → Int32} {j i k : Nat} {C : Cod} {R : List Rw4} {hH hD v a b c d e f g : Int32} {A D L L' : List Spt} {T : List (Nat × Int32)} {l l' : Lin} {fa : Arr} {LN LN' : List Lin} {p : Spt}
def lcC (C : Cod) : List (List (Nat × Int32) × Lin) → Cod
  | [] => C
  | l :: r => lcC (C ++ flt l.2.2.1 ++ flt l.2.2.2) r
def lcR (C : Cod) (R : List Rw4) : List (List (Nat × Int32) × Lin) → List Rw4
  | [] => R
  | l :: r => lcR (C ++ flt l.2.2.1 ++ flt l.2.2.2) (R ++ [(256 + l.2.1, nI C.length, nI (C ++ flt l.2.2.1).length, nI (C ++ flt l.2.2.1 ++ flt l.2.2.2).length)]) r
theorem itt_laws : ∀ (Ls : List (List (Nat × Int32) × Lin)) (j : Nat) (C : Cod) (R : List Rw4), (∀ l, l ∈ Ls → LwLn l.1 l.2) → tkAt K V j (Ls.flatMap Prod.fst) → R.length + Ls.length ≤ 16 → j + (Ls.flatMap Prod.fst).length ≤ 400 → itt (tpS K V hH hD 0) Ls.length (0, j, C, R) = (0, j + (Ls.flatMap Prod.fst).length, lcC C Ls, lcR C R Ls)
  | [], j, C, R, _, _, _, _ => by simp [itt, lcC, lcR]
  | l :: r, j, C, R, h1, h2, h3, h4 => by
    rw [List.length_cons] at h3
    have e : (l :: r).flatMap Prod.fst = l.1 ++ r.flatMap Prod.fst := rfl
    rw [e] at h2 h4
    rw [List.length_append] at h4
    obtain ⟨g1, g2⟩ := h2.app
    have s1 := h1 l List.mem_cons_self K V hH hD j C R g1 (by omega) (by omega)
    show itt (tpS K V hH hD 0) r.length (tpS K V hH hD 0 (0, j, C, R)) = _
    rw [s1, itt_laws r (j + l.1.length) _ _ (fun x hx => h1 x (List.mem_cons_of_mem _ hx)) g2 (by rw [List.length_append]; simp; omega) (by omega), show j + l.1.length + (r.flatMap Prod.fst).length = j + (l.1 ++ r.flatMap Prod.fst).length by rw [List.length_append, Nat.add_assoc]]
    rfl
theorem lc_ok : ∀ (Ls : List (List (Nat × Int32) × Lin)) (C : Cod) (R : List Rw4), (lcR C R Ls).length = R.length + Ls.length ∧ (∀ i, i < R.length → (lcR C R Ls)[i]? = R[i]?) ∧ (∀ (x : Nat) (p : Int32 × Int32), C[x]? = some p → (lcC C Ls)[x]? = some p) ∧ C.length ≤ (lcC C Ls).length ∧ ∀ i l, Ls[i]? = some l → rowC (lcC C Ls) (lcR C R Ls) (R.length + i) l.2
  | [], C, R => ⟨rfl, fun _ _ => rfl, fun _ _ h => h, Nat.le_refl _, fun i l h => by simp at h⟩
  | l :: r, C, R => by
    obtain ⟨q, hq⟩ : ∃ q : Rw4, (256 + l.2.1, nI C.length, nI (C ++ flt l.2.2.1).length, nI (C ++ flt l.2.2.1 ++ flt l.2.2.2).length) = q := ⟨_, rfl⟩
    have eR : lcR C R (l :: r) = lcR (C ++ flt l.2.2.1 ++ flt l.2.2.2) (R ++ [q]) r := by
      rw [← hq]
      rfl
    have eC : lcC C (l :: r) = lcC (C ++ flt l.2.2.1 ++ flt l.2.2.2) r := rfl
    obtain ⟨a1, a2, a3, a4, a5⟩ := lc_ok r (C ++ flt l.2.2.1 ++ flt l.2.2.2) (R ++ [q])
    have lq : (R ++ [q]).length = R.length + 1 := by rw [List.length_append, List.length_singleton]
    rw [lq] at a1 a2 a5
    rw [eR, eC]
    refine ⟨by rw [a1, List.length_cons]; omega, fun i hi => ?_, fun x p hx => ?_, ?_, fun i l' hl => ?_⟩
    · rw [a2 i (by omega), List.getElem?_append_left hi]
    · refine a3 x p ?_
      have lt := (List.getElem?_eq_some_iff.mp hx).1
      rw [List.append_assoc, List.getElem?_append_left lt]
      exact hx
    · rw [List.length_append, List.length_append] at a4
      omega
    · cases i with
      | zero =>
        obtain rfl : l = l' := Option.some.inj hl
        refine ⟨C.length, ?_, ?_, fun x p hx => ?_⟩
        · rw [a2 _ (by omega), List.getElem?_append_right (by omega), Nat.add_zero, Nat.sub_self, ← hq, List.length_append, List.length_append, List.length_append]
          rfl
        · rw [List.length_append, List.length_append] at a4
          exact a4
        · refine a3 _ p ?_
          rw [List.append_assoc, List.getElem?_append_right (by omega), Nat.add_sub_cancel_left]
          exact hx
      | succ i =>
        have := a5 i l' hl
        rw [show R.length + 1 + i = R.length + (i + 1) by omega] at this
        exact this
def gdk (k : Nat) : Prop := k ≤ 10 ∨ (23 ≤ k ∧ k ≤ 32)
theorem opK_ij {k k' : Nat} (h1 : 23 ≤ k) (h2 : k ≤ 32) (h3 : k ≠ 26) (g1 : 23 ≤ k') (g2 : k' ≤ 32) (g3 : k' ≠ 26) (e : opK k = opK k') : k = k' := by
  have h : ∀ k, k < 33 → ∀ k', k' < 33 → (23 ≤ k ∧ k ≠ 26 ∧ 23 ≤ k' ∧ k' ≠ 26 ∧ opK k = opK k') → k = k' := by decide +kernel
  exact h k (by omega) k' (by omega) ⟨h1, h3, g1, g3, e⟩
theorem opK_no : ∀ k, k < 33 → 23 ≤ k → k ≠ 26 → opK k ≠ 0 ∧ opK k ≠ 1 ∧ opK k ≠ 3 ∧ opK k < 20 := by decide +kernel
theorem ev_v {v v' : Int32} (h0 : k ≠ 0) (h26 : k ≠ 26) : ∀ st, ev1 fa k v st = ev1 fa k v' st := by
  intro st
  cases st with
  | nil => simp only [ev1, if_neg h0]
  | cons x r => simp only [ev1, if_neg h0, if_neg h26]
theorem tr_hd (h : gdk p.1) : ∃ q r, trS p = q :: r ∧ q.1 ≠ nI 3 := by
  unfold trS
  by_cases h0 : p.1 = 0
  · rw [if_pos h0]; exact ⟨_, _, rfl, show nI 0 ≠ nI 3 by decide⟩
  · rw [if_neg h0]
    by_cases h1 : p.1 ≤ 10
    · rw [if_pos h1]; exact ⟨_, _, rfl, show nI 1 ≠ nI 3 by decide⟩
    · rw [if_neg h1]
      by_cases h2 : p.1 = 26
      · rw [if_pos h2]; exact ⟨_, _, rfl, show nI 0 ≠ nI 3 by decide⟩
      · rw [if_neg h2]
        have hh : 23 ≤ p.1 ∧ p.1 ≤ 32 := by unfold gdk at h; omega
        obtain ⟨-, -, x3, x4⟩ := opK_no p.1 (by omega) hh.1 h2
        exact ⟨_, _, rfl, nI_ne x3 (by omega) (by decide)⟩
theorem ev_flt : ∀ (L L' : List Spt), (∀ p, p ∈ L → gdk p.1) → (∀ p, p ∈ L' → gdk p.1) → flt L = flt L' → (L = [] ↔ L' = []) ∧ ∀ (fa : Arr) st, evS fa L st = evS fa L' st
  | [], [], _, _, _ => ⟨Iff.rfl, fun _ _ => rfl⟩
  | [], p :: r, _, h2, e => by
    obtain ⟨q, s, e1, -⟩ := tr_hd (h2 p List.mem_cons_self)
    have : flt (p :: r) = trS p ++ flt r := rfl
    rw [this, e1] at e
    exact absurd e (by simp [flt])
  | p :: r, [], h1, _, e => by
    obtain ⟨q, s, e1, -⟩ := tr_hd (h1 p List.mem_cons_self)
    have : flt (p :: r) = trS p ++ flt r := rfl
    rw [this, e1] at e
    exact absurd e (by simp [flt])
  | p :: r, p' :: r', h1, h2, e => by
    have ih := ev_flt r r' (fun q hq => h1 q (List.mem_cons_of_mem _ hq)) (fun q hq => h2 q (List.mem_cons_of_mem _ hq))
    have e : trS p ++ flt r = trS p' ++ flt r' := e
    have g1 := h1 p List.mem_cons_self
    have g2 := h2 p' List.mem_cons_self
    have n3 : ∀ (r : List Spt) (r' : Cod), (∀ q, q ∈ r → gdk q.1) → flt r ≠ (nI 3, nI 0) :: r' := by
      intro r r' hr e
      cases r with
      | nil => simp [flt] at e
      | cons q r =>
        obtain ⟨q1, s1, e1, e2⟩ := tr_hd (hr q List.mem_cons_self)
        have : flt (q :: r) = trS q ++ flt r := rfl
        rw [this, e1] at e
        exact e2 (congrArg Prod.fst (List.cons.inj e).1)
    obtain ⟨k, v⟩ := p
    obtain ⟨k', v'⟩ := p'
    have key : flt r = flt r' ∧ k = k' ∧ ((k = 0 ∨ k = 26) → v = v') := by
      unfold trS at e
      dsimp only at e g1 g2
      by_cases a0 : k = 0
      · rw [if_pos a0] at e
        by_cases b0 : k' = 0
        · rw [if_pos b0] at e
          have := List.cons.inj e
          exact ⟨this.2, by omega, fun _ => congrArg Prod.snd this.1⟩
        · rw [if_neg b0] at e
          by_cases b1 : k' ≤ 10
          · rw [if_pos b1] at e
            exact absurd (congrArg Prod.fst (List.cons.inj e).1) (show nI 0 ≠ nI 1 by decide)
          · rw [if_neg b1] at e
            by_cases b2 : k' = 26
            · rw [if_pos b2] at e
              exact absurd (List.cons.inj e).2 (n3 _ _ fun q hq => h1 q (List.mem_cons_of_mem _ hq))
            · rw [if_neg b2] at e
              have hh : 23 ≤ k' ∧ k' ≤ 32 := by unfold gdk at g2; omega
              obtain ⟨x1, x2, x3, x4⟩ := opK_no k' (by omega) hh.1 b2
              exact absurd (congrArg Prod.fst (List.cons.inj e).1) (fun z => nI_ne x1 (by omega) (by decide) z.symm)
      · rw [if_neg a0] at e
        by_cases a1 : k ≤ 10
        · rw [if_pos a1] at e
          by_cases b0 : k' = 0
          · rw [if_pos b0] at e
            exact absurd (congrArg Prod.fst (List.cons.inj e).1) (show nI 1 ≠ nI 0 by decide)
          · rw [if_neg b0] at e
            by_cases b1 : k' ≤ 10
            · rw [if_pos b1] at e
              have := List.cons.inj e
              have h9 := (nI_eq (a := k - 1) (b := k' - 1) (by omega) (by omega)).mp (congrArg Prod.snd this.1)
              exact ⟨this.2, by omega, fun z => absurd z (by omega)⟩
            · rw [if_neg b1] at e
              by_cases b2 : k' = 26
              · rw [if_pos b2] at e
                exact absurd (congrArg Prod.fst (List.cons.inj e).1) (show nI 1 ≠ nI 0 by decide)
              · rw [if_neg b2] at e
                have hh : 23 ≤ k' ∧ k' ≤ 32 := by unfold gdk at g2; omega
                obtain ⟨x1, x2, x3, x4⟩ := opK_no k' (by omega) hh.1 b2
                exact absurd (congrArg Prod.fst (List.cons.inj e).1) (fun z => nI_ne x2 (by omega) (by decide) z.symm)
        · rw [if_neg a1] at e
          by_cases a2 : k = 26
          · rw [if_pos a2] at e
            by_cases b0 : k' = 0
            · rw [if_pos b0] at e
              exact absurd (List.cons.inj e).2.symm (n3 _ _ fun q hq => h2 q (List.mem_cons_of_mem _ hq))
            · rw [if_neg b0] at e
              by_cases b1 : k' ≤ 10
              · rw [if_pos b1] at e
                exact absurd (congrArg Prod.fst (List.cons.inj e).1) (show nI 0 ≠ nI 1 by decide)
              · rw [if_neg b1] at e
                by_cases b2 : k' = 26
                · rw [if_pos b2] at e
                  have := List.cons.inj e
                  exact ⟨(List.cons.inj this.2).2, by omega, fun _ => congrArg Prod.snd this.1⟩
                · rw [if_neg b2] at e
                  have hh : 23 ≤ k' ∧ k' ≤ 32 := by unfold gdk at g2; omega
                  obtain ⟨x1, x2, x3, x4⟩ := opK_no k' (by omega) hh.1 b2
                  exact absurd (congrArg Prod.fst (List.cons.inj e).1) (fun z => nI_ne x1 (by omega) (by decide) z.symm)
          · rw [if_neg a2] at e
            have hh : 23 ≤ k ∧ k ≤ 32 := by unfold gdk at g1; omega
            obtain ⟨y1, y2, y3, y4⟩ := opK_no k (by omega) hh.1 a2
            by_cases b0 : k' = 0
            · rw [if_pos b0] at e
              exact absurd (congrArg Prod.fst (List.cons.inj e).1) (nI_ne y1 (by omega) (by decide))
            · rw [if_neg b0] at e
              by_cases b1 : k' ≤ 10
              · rw [if_pos b1] at e
                exact absurd (congrArg Prod.fst (List.cons.inj e).1) (nI_ne y2 (by omega) (by decide))
              · rw [if_neg b1] at e
                by_cases b2 : k' = 26
                · rw [if_pos b2] at e
                  exact absurd (congrArg Prod.fst (List.cons.inj e).1) (nI_ne y1 (by omega) (by decide))
                · rw [if_neg b2] at e
                  have hh' : 23 ≤ k' ∧ k' ≤ 32 := by unfold gdk at g2; omega
                  obtain ⟨x1, x2, x3, x4⟩ := opK_no k' (by omega) hh'.1 b2
                  have := List.cons.inj e
                  have h9 := (nI_eq (a := opK k) (b := opK k') (by omega) (by omega)).mp (congrArg Prod.fst this.1)
                  exact ⟨this.2, opK_ij hh.1 hh.2 a2 hh'.1 hh'.2 b2 h9, fun z => absurd z (by omega)⟩
    obtain ⟨e1, rfl, e3⟩ := key
    refine ⟨by simp, fun fa st => ?_⟩
    show evS fa r (ev1 fa k v st) = evS fa r' (ev1 fa k v' st)
    rw [(ih e1).2 fa]
    by_cases z : k = 0 ∨ k = 26
    · rw [e3 z]
    · rw [ev_v (v := v) (v' := v') (by omega) (by omega)]
end LAWE
