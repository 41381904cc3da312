/-! the class's reading of a line of THE LAW, in numbers alone: what waits, what is laid -/
abbrev Cod : Type := List (Int32 × Int32)
abbrev Mst : Type := Nat × Nat × List Nat × Cod × Nat × Nat × Nat × Nat
def opO (k : Nat) : Nat := if k = 42 then 2 else if k = 43 then 4 else if k = 45 then 5 else if k = 47 then 3 else if k = 60 then 6 else if k = 61 then 7 else if k = 62 then 8 else if k = 260 then 11 else if k = 261 then 10 else 0
def stg (o : Nat) : Nat := if o = 2 then 6 else if o = 3 then 6 else if o = 4 then 5 else if o = 5 then 5 else if o = 6 then 4 else if o = 7 then 4 else if o = 8 then 4 else if o = 9 then 3 else if o = 10 then 2 else 1
def drp (l : Nat) : List Nat → Cod → List Nat × Cod
  | [], C => ([], C)
  | o :: W, C => if o = 12 ∨ stg o < l then (o :: W, C) else drp l W (C ++ [(nI o, nI 0)])
def opn : List Nat → Nat
  | [] => 0
  | o :: W => (if o = 9 ∨ o = 12 then 1 else 0) + opn W
def brk : List Nat → Nat
  | [] => 0
  | o :: W => (if o = 12 then 1 else 0) + brk W
def stp0 (k : Nat) (j : Nat) (W : List Nat) (C : Cod) (sd md fn fl : Nat) : Mst :=
  if k = 40 then (if 8 ≤ opn W then (5, j, W, C, sd, md, fn, 3) else (0, j + 1, 12 :: W, C, sd, md, fn, fl))
  else if k = 262 then (if 8 ≤ opn W then (5, j, W, C, sd, md, fn, 3) else (0, j + 1, 9 :: W, C, sd, md, fn, fl))
  else (1, j, W, C, 1, md, fn, fl)
def stp1 (k : Nat) (v : Int32) (j : Nat) (W : List Nat) (C : Cod) (sd md fn fl : Nat) : Mst :=
  if k = 1 then (3, j + 1, W, C ++ [(nI 0, v)], sd, md, fn, fl)
  else if 263 ≤ k ∧ k ≤ 272 then (3, j + 1, W, C ++ [(nI 1, nI (k - 263))], sd, md, fn, fl)
  else (5, j, W, C, sd, md, fn, 1)
def stp2 (k : Nat) (v : Int32) (j : Nat) (W : List Nat) (C : Cod) (sd md fn fl : Nat) : Mst :=
  if k = 1 then (if v = nI 0 then (5, j, W, C, sd, md, fn, 2) else (3, j + 1, W, C ++ [(nI 0, v)], sd, md, fn, fl))
  else (5, j, W, C, sd, md, fn, 1)
def stp3 (k : Nat) (j : Nat) (W : List Nat) (C : Cod) (sd md fn fl : Nat) : Mst :=
  if 2 ≤ opO k ∧ opO k ≤ 5 then ((if opO k = 3 then 2 else 1), j + 1, opO k :: (drp (stg (opO k)) W C).1, (drp (stg (opO k)) W C).2, sd, md, fn, fl)
  else if (6 ≤ opO k ∧ opO k ≤ 8) ∧ sd = 1 then (1, j + 1, opO k :: (drp 4 W C).1, (drp 4 W C).2, 2, md, fn, fl)
  else if k = 259 ∧ sd = 0 then (0, j + 1, (drp 0 W C).1, (drp 0 W C).2, sd, (drp 0 W C).2.length, fn, fl)
  else if k = 59 ∧ sd = 0 then (5, j + 1, (drp 0 W C).1, (drp 0 W C).2, sd, (drp 0 W C).2.length, (drp 0 W C).2.length, fl)
  else if sd = 2 then (4, j, W, C, sd, md, fn, fl)
  else (5, j, W, C, sd, md, fn, 1)
def stp4 (k : Nat) (j : Nat) (W : List Nat) (C : Cod) (sd md fn fl : Nat) : Mst :=
  if opO k = 10 ∨ opO k = 11 then (0, j + 1, opO k :: (drp (stg (opO k)) W C).1, (drp (stg (opO k)) W C).2, sd, md, fn, fl)
  else if k = 41 ∧ 0 < brk W then (4, j + 1, (drp 0 W C).1.tail, (drp 0 W C).2, sd, md, fn, fl)
  else if k = 59 ∧ brk W = 0 then (5, j + 1, (drp 0 W C).1, (drp 0 W C).2, sd, md, (drp 0 W C).2.length, fl)
  else (5, j, W, C, sd, md, fn, 1)
def stp (K : Nat → Nat) (V : Nat → Int32) (s : Mst) : Mst :=
  if s.1 = 0 then stp0 (K s.2.1) s.2.1 s.2.2.1 s.2.2.2.1 s.2.2.2.2.1 s.2.2.2.2.2.1 s.2.2.2.2.2.2.1 s.2.2.2.2.2.2.2
  else if s.1 = 1 then stp1 (K s.2.1) (V s.2.1) s.2.1 s.2.2.1 s.2.2.2.1 s.2.2.2.2.1 s.2.2.2.2.2.1 s.2.2.2.2.2.2.1 s.2.2.2.2.2.2.2
  else if s.1 = 2 then stp2 (K s.2.1) (V s.2.1) s.2.1 s.2.2.1 s.2.2.2.1 s.2.2.2.2.1 s.2.2.2.2.2.1 s.2.2.2.2.2.2.1 s.2.2.2.2.2.2.2
  else if s.1 = 3 then stp3 (K s.2.1) s.2.1 s.2.2.1 s.2.2.2.1 s.2.2.2.2.1 s.2.2.2.2.2.1 s.2.2.2.2.2.2.1 s.2.2.2.2.2.2.2
  else if s.1 = 4 then stp4 (K s.2.1) s.2.1 s.2.2.1 s.2.2.2.1 s.2.2.2.2.1 s.2.2.2.2.2.1 s.2.2.2.2.2.2.1 s.2.2.2.2.2.2.2
  else s
def itn (K : Nat → Nat) (V : Nat → Int32) : Nat → Mst → Mst
  | 0, s => s
  | c + 1, s => itn K V c (stp K V s)
/-- what waits above W has it when it is laid: the code is then C -/
def Pd (l : Nat) (W' : List Nat) (C' : Cod) (W : List Nat) (C : Cod) : Prop := ∃ P : List Nat, W' = P ++ W ∧ (∀ p ∈ P, p ≠ 12 ∧ l ≤ stg p) ∧ C = C' ++ P.map (fun p => (nI p, nI 0))
def wk (l : Nat) : List Nat → Prop
  | [] => True
  | o :: _ => o = 12 ∨ stg o < l
/-- in at most b steps from s to t -/
def Rc (K : Nat → Nat) (V : Nat → Int32) (b : Nat) (s t : Mst) : Prop := ∃ c, c ≤ b ∧ itn K V c s = t
section MACH
variable {K : Nat → Nat} {V : Nat → Int32} {s t u : Mst} {W W' W2 : List Nat} {C C' C2 : Cod} {l l2 j sd md fn fl : Nat}
theorem itn_add : ∀ (a b : Nat) (s : Mst), itn K V (a + b) s = itn K V b (itn K V a s)
  | 0, b, s => by rw [Nat.zero_add]; rfl
  | a + 1, b, s => by
    rw [show a + 1 + b = (a + b) + 1 by omega]
    exact itn_add a b (stp K V s)
theorem Rc.rf : Rc K V 0 s s := ⟨0, Nat.le_refl _, rfl⟩
theorem Rc.one (h : stp K V s = t) : Rc K V 1 s t := ⟨1, Nat.le_refl _, h⟩
theorem Rc.mono {a b : Nat} (h : Rc K V a s t) (hb : a ≤ b) : Rc K V b s t := by
  obtain ⟨c, h1, h2⟩ := h
  exact ⟨c, by omega, h2⟩
theorem Rc.trans {a b : Nat} (h : Rc K V a s t) (h2 : Rc K V b t u) : Rc K V (a + b) s u := by
  obtain ⟨c, h1, rfl⟩ := h
  obtain ⟨d, h3, rfl⟩ := h2
  exact ⟨c + d, by omega, itn_add c d s⟩
theorem itn_fix (h : s.1 = 5) : ∀ c, itn K V c s = s
  | 0 => rfl
  | c + 1 => by
    have : stp K V s = s := by
      unfold stp
      rw [if_neg (by omega), if_neg (by omega), if_neg (by omega), if_neg (by omega), if_neg (by omega)]
    show itn K V c (stp K V s) = s
    rw [this]
    exact itn_fix h c
/-- the run ends where it ends -/
theorem Rc.end {b i : Nat} (h : Rc K V b s t) (ht : t.1 = 5) (hi : b ≤ i ∨ (itn K V i s).1 = 5) : itn K V i s = t := by
  obtain ⟨c, hc, rfl⟩ := h
  by_cases q : c ≤ i
  · obtain ⟨d, rfl⟩ : ∃ d, i = c + d := ⟨i - c, by omega⟩
    rw [itn_add, itn_fix ht]
  · have h5 : (itn K V i s).1 = 5 := hi.resolve_left (by omega)
    obtain ⟨d, rfl⟩ : ∃ d, c = i + d := ⟨c - i, by omega⟩
    rw [itn_add, itn_fix h5]
theorem drp_app : ∀ (P : List Nat) (W : List Nat) (C : Cod), (∀ p ∈ P, p ≠ 12 ∧ l ≤ stg p) → drp l (P ++ W) C = drp l W (C ++ P.map (fun p => (nI p, nI 0)))
  | [], W, C, _ => by simp
  | p :: P, W, C, h => by
    have h1 := h p (by simp)
    show (if p = 12 ∨ stg p < l then (p :: (P ++ W), C) else drp l (P ++ W) (C ++ [(nI p, nI 0)])) = _
    rw [if_neg (by omega), drp_app P W _ (fun q hq => h q (by simp [hq]))]
    simp
theorem drp_wk (h : wk l W) : drp l W C = (W, C) := by
  cases W with
  | nil => rfl
  | cons o W => exact if_pos h
theorem drp_pd (h : Pd l W' C' W C) (hl : l2 ≤ l) (hw : wk l2 W) : drp l2 W' C' = (W, C) := by
  obtain ⟨P, rfl, h1, rfl⟩ := h
  rw [drp_app P W C' (fun p hp => ⟨(h1 p hp).1, Nat.le_trans hl (h1 p hp).2⟩), drp_wk hw]
theorem Pd.rf : Pd l W C W C := ⟨[], rfl, (by simp), (by simp)⟩
theorem Pd.mono (h : Pd l W' C' W C) (hl : l2 ≤ l) : Pd l2 W' C' W C := by
  obtain ⟨P, h0, h1, h2⟩ := h
  exact ⟨P, h0, fun p hp => ⟨(h1 p hp).1, Nat.le_trans hl (h1 p hp).2⟩, h2⟩
theorem Pd.op {o : Nat} (h : Pd l W' C' (o :: W) C) (ho : o ≠ 12 ∧ l ≤ stg o) : Pd l W' C' W (C ++ [(nI o, nI 0)]) := by
  obtain ⟨P, rfl, h1, rfl⟩ := h
  refine ⟨P ++ [o], by simp, fun p hp => ?_, by simp⟩
  rcases List.mem_append.mp hp with hp | hp
  · exact h1 p hp
  · rw [List.mem_singleton.mp hp]; exact ho
theorem wk.mono (h : wk l W) (hl : l ≤ l2) : wk l2 W := by
  cases W with
  | nil => trivial
  | cons o W => exact h.imp id (fun q => Nat.lt_of_lt_of_le q hl)
theorem brk_pd (h : Pd l W' C' W C) : brk W' = brk W := by
  obtain ⟨P, rfl, h1, -⟩ := h
  induction P with
  | nil => rfl
  | cons p P ih =>
    show (if p = 12 then 1 else 0) + brk (P ++ W) = brk W
    rw [if_neg (h1 p (by simp)).1, ih (fun q hq => h1 q (by simp [hq]))]
    omega
/-! its steps -/
theorem sp_num (h : K j = 1) : stp K V (1, j, W, C, sd, md, fn, fl) = (3, j + 1, W, C ++ [(nI 0, V j)], sd, md, fn, fl) := by simp [stp, stp1, h]
theorem sp_nam (h : 263 ≤ K j ∧ K j ≤ 272) : stp K V (1, j, W, C, sd, md, fn, fl) = (3, j + 1, W, C ++ [(nI 1, nI (K j - 263))], sd, md, fn, fl) := by
  simp only [stp, stp1, if_neg (show ¬ (1 : Nat) = 0 by decide), if_true, if_neg (show ¬ K j = 1 by omega), if_pos h]
theorem sp_nou (h : K j ≠ 1) (h2 : ¬ (263 ≤ K j ∧ K j ≤ 272)) : stp K V (1, j, W, C, sd, md, fn, fl) = (5, j, W, C, sd, md, fn, 1) := by
  simp only [stp, stp1, if_neg (show ¬ (1 : Nat) = 0 by decide), if_true, if_neg h, if_neg h2]
theorem sp_div (h : K j = 1) (hv : V j ≠ nI 0) : stp K V (2, j, W, C, sd, md, fn, fl) = (3, j + 1, W, C ++ [(nI 0, V j)], sd, md, fn, fl) := by simp [stp, stp2, h, hv]
theorem sp_div0 (h : K j = 1) (hv : V j = nI 0) : stp K V (2, j, W, C, sd, md, fn, fl) = (5, j, W, C, sd, md, fn, 2) := by simp [stp, stp2, h, hv]
theorem sp_nod (h : K j ≠ 1) : stp K V (2, j, W, C, sd, md, fn, fl) = (5, j, W, C, sd, md, fn, 1) := by simp [stp, stp2, h]
theorem sp_st3 : stp K V (3, j, W, C, sd, md, fn, fl) = stp3 (K j) j W C sd md fn fl := rfl
theorem sp_st4 : stp K V (4, j, W, C, sd, md, fn, fl) = stp4 (K j) j W C sd md fn fl := rfl
theorem sp_st0 : stp K V (0, j, W, C, sd, md, fn, fl) = stp0 (K j) j W C sd md fn fl := rfl
theorem opO_no {k : Nat} (h1 : k ≠ 42) (h2 : k ≠ 43) (h3 : k ≠ 45) (h4 : k ≠ 47) : ¬ (2 ≤ opO k ∧ opO k ≤ 5) := by
  unfold opO
  rw [if_neg h1, if_neg h2, if_neg h3, if_neg h4]
  repeat (first | omega | split)
end MACH
