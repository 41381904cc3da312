/-! the bytes of the tape as tokens, in numbers alone -/
def chr (B : Nat → Nat) (n i : Nat) : Nat := if i < n then B i else 256
def isL (c : Nat) : Bool := (decide (97 ≤ c) && decide (c ≤ 122)) || (decide (65 ≤ c) && decide (c ≤ 90))
def isD (c : Nat) : Bool := decide (48 ≤ c) && decide (c ≤ 57)
def isK (c : Nat) : Bool := decide (c = 32) || decide (c = 10)
def isS (c : Nat) : Bool := decide (c ∈ [59, 43, 45, 42, 47, 40, 41, 60, 61, 62])
def goF (p : Nat → Bool) : Nat → Nat → Nat
  | 0, i => i
  | f + 1, i => if p i = true then goF p f (i + 1) else i
/-- the first place from i on where p does not hold -/
def goo (p : Nat → Bool) (i : Nat) : Nat := goF p (401 - i) i
def WD : List (List Nat) := [[108, 111, 117, 100], [99, 108, 97, 112], [119, 101, 97, 114, 115], [119, 104, 101, 110], [111, 114], [97, 110, 100], [110, 111, 116], [104, 101, 97, 114, 101, 114], [104, 97, 110, 100, 115], [108, 105, 107, 101, 115], [109, 97, 110, 110, 101, 114, 115], [112, 97, 105, 100], [119, 111, 114, 116, 104], [119, 101, 97, 114], [97, 103, 97, 105, 110, 115], [98, 101, 115, 105, 100, 101], [108, 97, 116, 101], [102, 114, 111, 109], [109, 111, 115, 116], [100, 111, 117, 98, 108, 101], [101, 110, 100], [97, 116], [100, 101, 101, 100]]
def fnd (T : List Nat) : List (List Nat) → Nat → Nat
  | [], _ => 2
  | w :: r, i => if T = w then 256 + i else fnd T r (i + 1)
def kwd (T : List Nat) : Nat := fnd T WD 0
section BYT
variable (B : Nat → Nat) (n : Nat)
def txt (s e : Nat) : List Nat := (List.range (e - s)).map (fun i => chr B n (s + i))
def vIn (s : Nat) : Nat → Int32
  | 0 => nI 0
  | c + 1 => vIn s c * nI 10 + nI (chr B n (s + c)) - nI 48
def stT (p : Nat) : Nat := goo (fun i => isK (chr B n i)) p
def enT (s : Nat) : Nat := if chr B n s = 256 then s else if isD (chr B n s) = true then goo (fun i => isD (chr B n i)) s else if isL (chr B n s) = true then goo (fun i => isL (chr B n i)) s else s + 1
def kT (s : Nat) : Nat := if chr B n s = 256 then 0 else if isD (chr B n s) = true then (if enT B n s - s ≤ 4 then 1 else 2) else if isL (chr B n s) = true then kwd (txt B n s (enT B n s)) else if isS (chr B n s) = true then chr B n s else 2
def vT (s : Nat) : Int32 := if isD (chr B n s) = true then vIn B n s (enT B n s - s) else nI 0
def psT : Nat → Nat
  | 0 => stT B n 0
  | j + 1 => stT B n (enT B n (psT j))
end BYT
section GOO
variable {p : Nat → Bool} {i j n : Nat}
theorem goo_s (h : p i = true) (hi : i < 400) : goo p i = goo p (i + 1) := by
  unfold goo
  rw [show 401 - i = (401 - (i + 1)) + 1 by omega]
  exact if_pos h
theorem goo_n (h : p i = false) : goo p i = i := by
  unfold goo
  cases 401 - i with
  | zero => rfl
  | succ f => exact if_neg (by rw [h]; decide)
theorem goF_ge : ∀ (f i : Nat), i ≤ goF p f i
  | 0, i => Nat.le_refl _
  | f + 1, i => by
    unfold goF
    split
    · exact Nat.le_trans (by omega) (goF_ge f (i + 1))
    · exact Nat.le_refl _
theorem goo_ge : i ≤ goo p i := goF_ge _ _
theorem goF_le (hp : ∀ k, n ≤ k → p k = false) : ∀ (f i : Nat), i ≤ n → goF p f i ≤ n
  | 0, i, h => h
  | f + 1, i, h => by
    unfold goF
    split
    · rename_i q
      by_cases e : i = n
      · rw [hp i (by omega)] at q; cases q
      · exact goF_le hp f (i + 1) (by omega)
    · exact h
theorem goo_le (hp : ∀ k, n ≤ k → p k = false) (h : i ≤ n) : goo p i ≤ n := goF_le hp _ _ h
theorem goF_st (hp : ∀ k, n ≤ k → p k = false) (hn : n ≤ 400) : ∀ (f i : Nat), 401 ≤ i + f → p (goF p f i) = false
  | 0, i, h => hp i (by omega)
  | f + 1, i, h => by
    unfold goF
    split
    · exact goF_st hp hn f (i + 1) (by omega)
    · rename_i q
      cases e : p i with
      | true => exact absurd e q
      | false => rfl
theorem goo_st (hp : ∀ k, n ≤ k → p k = false) (hn : n ≤ 400) : p (goo p i) = false := goF_st hp hn _ _ (by omega)
end GOO
section TOK
variable {B : Nat → Nat} {n i s j : Nat}
theorem chr_in (h : i < n) : chr B n i = B i := if_pos h
theorem chr_out (h : n ≤ i) : chr B n i = 256 := if_neg (by omega)
theorem chr_le (hB : ∀ i, i < n → B i < 256) : chr B n i ≤ 256 := by
  unfold chr
  split
  · exact Nat.le_of_lt (hB i ‹_›)
  · exact Nat.le_refl _
theorem chr_256 (hB : ∀ i, i < n → B i < 256) : chr B n i = 256 ↔ n ≤ i := by
  unfold chr
  split
  · have := hB i ‹_›; omega
  · omega
theorem pr_out {f : Nat → Bool} (hf : f 256 = false) : ∀ k, n ≤ k → f (chr B n k) = false := fun k hk => by rw [chr_out hk]; exact hf
theorem stT_le (h : i ≤ n) : stT B n i ≤ n := goo_le (pr_out (f := isK) (by decide)) h
theorem stT_ge : i ≤ stT B n i := goo_ge
theorem enT_gt (hn : n ≤ 400) (h : chr B n s ≠ 256) : s < enT B n s := by
  have hs : s < n := by
    refine Nat.lt_of_not_le fun q => h (chr_out q)
  unfold enT
  rw [if_neg h]
  split
  · rename_i q
    rw [goo_s (p := fun i => isD (chr B n i)) q (by omega)]
    exact goo_ge
  · split
    · rename_i q
      rw [goo_s (p := fun i => isL (chr B n i)) q (by omega)]
      exact goo_ge
    · omega
theorem enT_le (hs : s ≤ n) : enT B n s ≤ n := by
  unfold enT
  split
  · exact hs
  · rename_i h
    have hs : s < n := by
      refine Nat.lt_of_not_le fun q => h (chr_out q)
    split
    · exact goo_le (pr_out (f := isD) (by decide)) (by omega)
    · split
      · exact goo_le (pr_out (f := isL) (by decide)) (by omega)
      · omega
theorem psT_le : ∀ j, psT B n j ≤ n
  | 0 => stT_le (Nat.zero_le _)
  | j + 1 => stT_le (enT_le (psT_le j))
theorem fnd_ne (T : List Nat) : ∀ (L : List (List Nat)) (i : Nat), fnd T L i ≠ 0 ∧ fnd T L i ≠ 1 ∧ (fnd T L i = 2 ∨ (256 + i ≤ fnd T L i ∧ fnd T L i < 256 + i + L.length))
  | [], i => by simp [fnd]
  | w :: r, i => by
    unfold fnd
    split
    · simp
      omega
    · have := fnd_ne T r (i + 1)
      simp only [List.length_cons]
      omega
theorem kT_0 (h : kT B n s = 0) : chr B n s = 256 := by
  refine Decidable.by_contra fun q => ?_
  unfold kT at h
  rw [if_neg q] at h
  split at h
  · split at h <;> cases h
  · split at h
    · exact (fnd_ne _ _ _).1 h
    · split at h
      · rename_i q1
        rw [h] at q1
        cases q1
      · cases h
theorem kT_end (h : chr B n s = 256) : kT B n s = 0 := if_pos h
/-- the first j tokens are none of them the end: there are no more than places -/
theorem psT_ge (hn : n ≤ 400) : ∀ j, (∀ i, i < j → kT B n (psT B n i) ≠ 0) → j ≤ psT B n j
  | 0, _ => Nat.zero_le _
  | j + 1, h => by
    have h1 := psT_ge hn j (fun i hi => h i (by omega))
    have h2 : chr B n (psT B n j) ≠ 256 := fun q => h j (by omega) (kT_end q)
    have h3 := enT_gt hn h2
    have h4 : enT B n (psT B n j) ≤ psT B n (j + 1) := stT_ge
    omega
end TOK
