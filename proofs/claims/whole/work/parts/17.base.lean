/-! runs that end: Wp; loops by a measure; small arithmetic -/
def Wp (x : Ans) (Q : Int32 → Mem → Prop) : Prop := ∃ v m, x = some (v, m) ∧ Q v m
section WPS
variable {x y : Ans} {Q R : Int32 → Mem → Prop} {v : Int32} {m : Mem}
theorem wp_ret (h : Q v m) : Wp (some (v, m)) Q := ⟨v, m, rfl, h⟩
theorem wp_bd {k : Int32 → Mem → Ans} (h : Wp x (fun v m => Wp (k v m) Q)) : Wp (bd x k) Q := by
  obtain ⟨v, m, rfl, h2⟩ := h
  exact h2
theorem wp_mono (h : Wp x Q) (k : ∀ v m, Q v m → R v m) : Wp x R := by
  obtain ⟨v, m, e, h2⟩ := h
  exact ⟨v, m, e, k v m h2⟩
theorem wp_bind {k : Int32 → Mem → Ans} (h : Wp x R) (h2 : ∀ v m, R v m → Wp (k v m) Q) : Wp (bd x k) Q := wp_bd (wp_mono h h2)
theorem wp_chk {b : Bool} (hb : b = true) (h : Wp x Q) : Wp (chk b x) Q := by subst hb; exact h
theorem wp_ite {c : Prop} [hd : Decidable c] (h1 : c → Wp x Q) (h2 : ¬ c → Wp y Q) : Wp (if c then x else y) Q := by
  split
  · exact h1 ‹_›
  · exact h2 ‹_›
theorem wp_bnd {α : Type} {e : α} {f : α → Ans} (h : Wp (f e) Q) : Wp (bnd e f) Q := h
theorem wp_eq {z : Ans} (e : x = z) (h : Wp z Q) : Wp x Q := e ▸ h
end WPS
theorem bd_s (v : Int32) (m : Mem) (k : Int32 → Mem → Ans) : bd (some (v, m)) k = k v m := rfl
theorem bnd_s {α β : Type} (e : α) (f : α → β) : bnd e f = f e := rfl
theorem chk_t {α : Type} (x : Option α) : chk true x = x := rfl
theorem wp_it0 {b : (Mem → Ans) → Mem → Ans} {Q : Int32 → Mem → Prop} (I : Nat → Mem → Prop)
    (hb : ∀ n X m, I n m → (∀ n' m', n' < n → I n' m' → Wp (X m') Q) → Wp (b X m) Q) : ∀ N n m, n < N → I n m → Wp (it0 b N m) Q
  | 0, n, m, h, _ => absurd h (by omega)
  | N + 1, n, m, h, hi => hb n (it0 b N) m hi (fun n' m' h1 h2 => wp_it0 I hb N n' m' (by omega) h2)
theorem wp_it1 {α : Type} {b : (α → Mem → Ans) → α → Mem → Ans} {Q : Int32 → Mem → Prop} (I : Nat → α → Mem → Prop)
    (hb : ∀ n X a m, I n a m → (∀ n' a' m', n' < n → I n' a' m' → Wp (X a' m') Q) → Wp (b X a m) Q) : ∀ N n a m, n < N → I n a m → Wp (it1 b N a m) Q
  | 0, n, a, m, h, _ => absurd h (by omega)
  | N + 1, n, a, m, h, hi => hb n (it1 b N) a m hi (fun n' a' m' h1 h2 => wp_it1 I hb N n' a' m' (by omega) h2)
theorem wp_it2 {α β : Type} {b : (α → β → Mem → Ans) → α → β → Mem → Ans} {Q : Int32 → Mem → Prop} (I : Nat → α → β → Mem → Prop)
    (hb : ∀ n X a c m, I n a c m → (∀ n' a' c' m', n' < n → I n' a' c' m' → Wp (X a' c' m') Q) → Wp (b X a c m) Q) : ∀ N n a c m, n < N → I n a c m → Wp (it2 b N a c m) Q
  | 0, n, a, c, m, h, _ => absurd h (by omega)
  | N + 1, n, a, c, m, h, hi => hb n (it2 b N) a c m hi (fun n' a' c' m' h1 h2 => wp_it2 I hb N n' a' c' m' (by omega) h2)
theorem wp_it3 {α β γ : Type} {b : (α → β → γ → Mem → Ans) → α → β → γ → Mem → Ans} {Q : Int32 → Mem → Prop} (I : Nat → α → β → γ → Mem → Prop)
    (hb : ∀ n X a c d m, I n a c d m → (∀ n' a' c' d' m', n' < n → I n' a' c' d' m' → Wp (X a' c' d' m') Q) → Wp (b X a c d m) Q) : ∀ N n a c d m, n < N → I n a c d m → Wp (it3 b N a c d m) Q
  | 0, n, a, c, d, m, h, _ => absurd h (by omega)
  | N + 1, n, a, c, d, m, h, hi => hb n (it3 b N) a c d m hi (fun n' a' c' d' m' h1 h2 => wp_it3 I hb N n' a' c' d' m' (by omega) h2)
theorem wp_it4 {α β γ δ : Type} {b : (α → β → γ → δ → Mem → Ans) → α → β → γ → δ → Mem → Ans} {Q : Int32 → Mem → Prop} (I : Nat → α → β → γ → δ → Mem → Prop)
    (hb : ∀ n X a c d e m, I n a c d e m → (∀ n' a' c' d' e' m', n' < n → I n' a' c' d' e' m' → Wp (X a' c' d' e' m') Q) → Wp (b X a c d e m) Q) : ∀ N n a c d e m, n < N → I n a c d e m → Wp (it4 b N a c d e m) Q
  | 0, n, a, c, d, e, m, h, _ => absurd h (by omega)
  | N + 1, n, a, c, d, e, m, h, hi => hb n (it4 b N) a c d e m hi (fun n' a' c' d' e' m' h1 h2 => wp_it4 I hb N n' a' c' d' e' m' (by omega) h2)
/-! numbers -/
theorem fl_lit (n : Nat) : (OfNat.ofNat n : Int32) = nI n := rfl
theorem nz_and (a b : Nat) : nI a &&& nI b = nI (a &&& b) := by
  apply Int32.toBitVec_inj.1
  show BitVec.ofNat 32 a &&& BitVec.ofNat 32 b = BitVec.ofNat 32 (a &&& b)
  apply BitVec.eq_of_getLsbD_eq
  intro i hi
  simp [hi]
theorem nz_or (a b : Nat) : nI a ||| nI b = nI (a ||| b) := by
  apply Int32.toBitVec_inj.1
  show BitVec.ofNat 32 a ||| BitVec.ofNat 32 b = BitVec.ofNat 32 (a ||| b)
  apply BitVec.eq_of_getLsbD_eq
  intro i hi
  simp [hi]
theorem nz_xor (a b : Nat) : nI a ^^^ nI b = nI (a ^^^ b) := by
  apply Int32.toBitVec_inj.1
  show BitVec.ofNat 32 a ^^^ BitVec.ofNat 32 b = BitVec.ofNat 32 (a ^^^ b)
  apply BitVec.eq_of_getLsbD_eq
  intro i hi
  simp [hi]
/-- a less b, as sets -/
def sdf (a b : Nat) : Nat := a ^^^ (a &&& b)
theorem sdf_bit (a b i : Nat) : (sdf a b).testBit i = (a.testBit i && !b.testBit i) := by
  simp only [sdf, Nat.testBit_xor, Nat.testBit_and]
  cases a.testBit i <;> cases b.testBit i <;> rfl
theorem nz_diff (a b : Nat) : nI a &&& (nI b ^^^ (-1)) = nI (sdf a b) := by
  apply Int32.toBitVec_inj.1
  show BitVec.ofNat 32 a &&& (BitVec.ofNat 32 b ^^^ BitVec.allOnes 32) = BitVec.ofNat 32 (sdf a b)
  apply BitVec.eq_of_getLsbD_eq
  intro i hi
  simp only [BitVec.getLsbD_and, BitVec.getLsbD_xor, BitVec.getLsbD_allOnes, BitVec.getLsbD_ofNat, hi, decide_true, Bool.true_and, sdf_bit, Bool.xor_true]
theorem sdf_le (a b : Nat) : sdf a b ≤ a := by
  refine Nat.le_of_testBit ?_
  intro i hi
  rw [sdf_bit] at hi
  simp only [Bool.and_eq_true] at hi
  exact hi.1
theorem sh_cnt : ∀ n, n < 32 → ((nI n &&& 31).toBitVec.smod 32).toNat = n := by decide +kernel
theorem nz_one {h : Nat} (hh : h < 31) : (1 : Int32) <<< (nI h &&& 31) = nI (2 ^ h) := by
  have h2 : 2 ^ h < 2 ^ 31 := Nat.pow_lt_pow_right (by decide) hh
  have := pk_shlN (n := 1) (nI h &&& 31) h (sh_cnt h (by omega)) (by omega)
  rw [Nat.one_mul] at this
  exact this
theorem nz_shr {k h : Nat} (hk : k < 2 ^ 31) (hh : h < 31) : nI k >>> (nI h &&& 31) = nI (k / 2 ^ h) := pk_shrN hk _ h (sh_cnt h (by omega))
theorem nz_low {k : Nat} (hk : k < 2 ^ 31) : nI k &&& 1 = nI (k % 2) := pk_andN (by omega) 1 (by decide)
theorem nz_b01 {k h : Nat} (hk : k < 2 ^ 31) (hh : h < 31) : (nI k >>> (nI h &&& 31)) &&& 1 = nI (k.testBit h).toNat := by
  rw [nz_shr hk hh, nz_low (Nat.lt_of_le_of_lt (Nat.div_le_self _ _) hk), Nat.toNat_testBit]
theorem nz_bit {k h : Nat} (hk : k < 2 ^ 31) (hh : h < 31) : ((nI k >>> (nI h &&& 31)) &&& 1 = 1) ↔ k.testBit h = true := by
  rw [nz_b01 hk hh]
  cases k.testBit h <;> decide
theorem nz_bit0 {k h : Nat} (hk : k < 2 ^ 31) (hh : h < 31) : ((nI k >>> (nI h &&& 31)) &&& 1 = 0) ↔ k.testBit h = false := by
  rw [nz_b01 hk hh]
  cases k.testBit h <;> decide
theorem pow_le31 {n : Nat} (h : n ≤ 12) : 2 ^ n ≤ 4096 := by
  have : 2 ^ n ≤ 2 ^ 12 := Nat.pow_le_pow_right (by decide) h
  omega
/-- a number that is at most b -/
def isn (x : Int32) (b : Nat) : Prop := ∃ k, k ≤ b ∧ x = nI k
def nv (x : Int32) : Nat := x.toNatClampNeg
theorem nv_nI {k : Nat} (h : k < 2 ^ 31) : nv (nI k) = k := nI_clamp h
theorem isn.le {x : Int32} {b : Nat} (h : isn x b) (hb : b < 2 ^ 31) : nv x ≤ b := by
  obtain ⟨k, h1, rfl⟩ := h
  rw [nv_nI (by omega)]; exact h1
theorem isn.eq {x : Int32} {b : Nat} (h : isn x b) (hb : b < 2 ^ 31) : x = nI (nv x) := by
  obtain ⟨k, h1, rfl⟩ := h
  rw [nv_nI (by omega)]
theorem isn.mono {x : Int32} {b c : Nat} (h : isn x b) (hb : b ≤ c) : isn x c := by
  obtain ⟨k, h1, rfl⟩ := h
  exact ⟨k, by omega, rfl⟩
theorem isn.nI {k b : Nat} (h : k ≤ b) : isn (nI k) b := ⟨k, h, rfl⟩
theorem nI_lt0 {k : Nat} (h : k < 2 ^ 31) : (nI k < 0) ↔ False := ⟨fun q => nI_pos h q, False.elim⟩
theorem nI_0le {k : Nat} (h : k < 2 ^ 31) : (0 ≤ nI k) ↔ True := ⟨fun _ => trivial, fun _ => nI_pos' h⟩
theorem nI_ne1 {k : Nat} (h : k < 2 ^ 31) : (nI k = -1) ↔ False := ⟨fun q => nI_ne_m1 h q, False.elim⟩
theorem nI_ne1' {k : Nat} (h : k < 2 ^ 31) : (-1 = nI k) ↔ False := ⟨fun q => nI_ne_m1 h q.symm, False.elim⟩
theorem inb_nI {k n : Nat} (h : k < n) (hn : n ≤ 2 ^ 31) : inb (nI k) n = true := by
  unfold inb
  rw [nI_clamp (by omega)]
  simp only [Bool.and_eq_true, decide_eq_true_eq]
  exact ⟨nI_pos' (by omega), h⟩
theorem inb_of {x : Int32} {n : Nat} (h : inb x n = true) (hn : n ≤ 2 ^ 31) : ∃ k, k < n ∧ x = nI k := by
  unfold inb at h
  simp only [Bool.and_eq_true, decide_eq_true_eq] at h
  obtain ⟨j, h1, rfl⟩ := nI_of (x := x) (fun q => absurd h.1 (Int32.not_le.mpr q))
  rw [nI_clamp h1] at h
  exact ⟨j, h.2, rfl⟩
theorem inb_no {x : Int32} {n : Nat} (h : x < 0 ∨ nI n ≤ x) (hn : n < 2 ^ 31) : inb x n = false := by
  cases hq : inb x n with
  | false => rfl
  | true =>
    obtain ⟨k, h1, rfl⟩ := inb_of hq (by omega)
    rcases h with h | h
    · exact absurd h (nI_pos (by omega))
    · exact absurd h (nI_ge h1 hn)
theorem inb_cases (x : Int32) {n : Nat} (hn : n < 2 ^ 31) : (inb x n = false ∧ (x < 0 ∨ nI n ≤ x)) ∨ ∃ k, k < n ∧ x = nI k := by
  rcases pk_ix x hn with h | h | h
  · exact Or.inl ⟨inb_no (Or.inl h) hn, Or.inl h⟩
  · exact Or.inl ⟨inb_no (Or.inr h) hn, Or.inr h⟩
  · exact Or.inr h
def b2i (b : Bool) : Int32 := if b then 1 else 0
theorem swt_at {α : Type} {c : Int} {xs : List α} {z : α} (j : Nat) {x : α} (h : c = (j : Int)) (hx : xs[j]? = some x) : swt c xs z = x := by
  unfold swt
  rw [if_neg (by omega), h, List.getD_eq_getElem?_getD]
  simp [hx]
theorem swt_no {α : Type} {c : Int} {xs : List α} {z : α} (h : c < 0 ∨ (xs.length : Int) ≤ c) : swt c xs z = z := by
  unfold swt
  split
  · rfl
  · rw [List.getD_eq_getElem?_getD, List.getElem?_eq_none (by omega)]
    rfl
theorem mset_at (m : Mem) (k j : Nat) (v : Int32) : mset m k j v k j = v := by simp [mset]
theorem mset_k {m : Mem} {k j a b : Nat} {v : Int32} (h : a ≠ k) : mset m k j v a b = m a b := by simp [mset, h]
theorem mset_j {m : Mem} {k j a b : Nat} {v : Int32} (h : b ≠ j) : mset m k j v a b = m a b := by simp [mset, h]
theorem ud_s {f : Nat → Int32} {k : Nat} {x : Int32} : upd f k x k = x := pk_us
theorem ud_n {f : Nat → Int32} {k j : Nat} {x : Int32} (h : j ≠ k) : upd f k x j = f j := pk_un h
/-- the cells outside some stretches are as they were -/
def Fr (S : List (Nat × Nat)) (m m' : Mem) : Prop := ∀ k, (∀ p ∈ S, k < p.1 ∨ p.2 < k) → m' k = m k
theorem Fr.rf {S : List (Nat × Nat)} {m : Mem} : Fr S m m := fun _ _ => rfl
theorem Fr.trans {S : List (Nat × Nat)} {m m1 m2 : Mem} (h : Fr S m m1) (h2 : Fr S m1 m2) : Fr S m m2 := fun k q => (h2 k q).trans (h k q)
def sinc (S T : List (Nat × Nat)) : Bool := S.all (fun p => T.any (fun q => decide (q.1 ≤ p.1) && decide (p.2 ≤ q.2)))
theorem Fr.mono {S T : List (Nat × Nat)} {m m1 : Mem} (h : Fr S m m1) (hs : sinc S T = true) : Fr T m m1 := by
  intro k q
  refine h k (fun p hp => ?_)
  simp only [sinc, List.all_eq_true, List.any_eq_true, Bool.and_eq_true, decide_eq_true_eq] at hs
  obtain ⟨r, hr, h1, h2⟩ := hs p hp
  have := q r hr
  omega
theorem Fr.set {S : List (Nat × Nat)} {m m1 : Mem} {k j : Nat} {v : Int32} (h : Fr S m m1) (hs : sinc [(k, k)] S = true) : Fr S m (mset m1 k j v) := by
  refine Fr.trans h (Fr.mono (S := [(k, k)]) (fun a q => ?_) hs)
  have := q (k, k) List.mem_cons_self
  exact mset_ne (by simp at this; omega)
theorem Fr.at {S : List (Nat × Nat)} {m m1 : Mem} (h : Fr S m m1) (k : Nat) (hk : S.all (fun p => decide (k < p.1) || decide (p.2 < k)) = true) : m1 k = m k := by
  refine h k (fun p hp => ?_)
  have := List.all_eq_true.mp hk p hp
  simpa using this
