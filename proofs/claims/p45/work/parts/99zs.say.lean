/-! a text said: it lies on the TAPE -/
section SAYH
variable {h h' h1 h2 h0 : DS} {N S V A n c k j i L at_ : Nat} {s : List Nat} {Q : Int32 → DS → Prop} {K : DS → DA} {m m1 m2 m0 : Mem} {f : Nat → Nat} {x : Int32}
theorem sg_tag {k t n : Nat} {r : List (Option Nat)} (hk : k < 123) (ht : t = 14 ∨ t = 102 ∨ t = 13) : SG[k]? ≠ some (t, n, r) := by
  intro e
  have h1 : ∀ k, k < 123 → ((SG[k]?).map fun e => decide (e.1 = 14 ∨ e.1 = 102 ∨ e.1 = 13)).getD false = false := by decide +kernel
  have h2 := h1 k hk
  rw [e] at h2
  have h3 : decide (t = 14 ∨ t = 102 ∨ t = 13) = false := h2
  exact absurd ht (of_decide_eq_false h3)
theorem ge_tag {t n : Nat} {r : List (Option Nat)} (hl : lk h) (e : h.2.1[c]? = some (t, n, r)) (ht : t = 14 ∨ t = 102 ∨ t = 13) : 123 ≤ c := by
  rcases Nat.lt_or_ge c 123 with z | z
  · have h1 := hl.2.1 _ z
    rw [e] at h1
    exact absurd h1.symm (sg_tag z ht)
  · exact z
theorem StM.frl (H : StM h S V s) (hl : lk h) (F : FrL h h') : StM h' S V s := by
  obtain ⟨e1, e2, ⟨rs, e3⟩, e4⟩ := H
  have g1 := ge_tag hl e1 (by decide)
  have g2 := ge_tag hl e3 (by decide)
  obtain ⟨a1, a2⟩ := F.2 S (len_of e1)
  obtain ⟨b1, b2⟩ := F.2 V (len_of e3)
  exact ⟨a1.trans e1, by rw [a2 g1]; exact e2, ⟨rs, b1.trans e3⟩, fun j hj => by rw [b2 g2]; exact e4 j hj⟩
/-- the number that some bytes make -/
def acN (f : Nat → Nat) : Nat → Nat
  | 0 => 0
  | n + 1 => acN f n * 256 + f n
theorem acN_lt (hf : ∀ i, f i < 128) : ∀ n, acN f n < 256 ^ n ∧ (1 ≤ n → acN f n < 128 * 256 ^ (n - 1))
  | 0 => ⟨(by decide : (0 : Nat) < 1), fun z => absurd z (by decide)⟩
  | 1 => by
    have := hf 0
    show 0 * 256 + f 0 < 256 ^ 1 ∧ (_ → 0 * 256 + f 0 < 128 * 256 ^ 0)
    omega
  | n + 2 => by
    obtain ⟨a, b⟩ := acN_lt hf (n + 1)
    have b := b (by omega)
    have := hf (n + 1)
    have e : 256 ^ (n + 2) = 256 ^ (n + 1) * 256 := Nat.pow_succ ..
    have e2 : 256 ^ (n + 1) = 256 ^ n * 256 := Nat.pow_succ ..
    show acN f (n + 1) * 256 + f (n + 1) < _ ∧ (_ → acN f (n + 1) * 256 + f (n + 1) < 128 * 256 ^ (n + 1))
    rw [Nat.add_sub_cancel] at b
    rw [e]
    omega
theorem e_or8 {x b : Nat} (hx : x < 2 ^ 23) (hb : b < 256) : ((nI x) <<< ((8 : Int32) &&& 31)) ||| nI b = nI (x * 256 + b) := by
  have e1 : (nI x) <<< ((8 : Int32) &&& 31) = nI (x * 2 ^ 8) := pk_shlN (n := x) (nI 8 &&& 31) 8 (sh_cnt 8 (by decide)) (by omega)
  rw [e1, nz_or, Nat.mul_comm x (2 ^ 8), ← Nat.two_pow_add_eq_or_of_lt (by omega) x, Nat.mul_comm (2 ^ 8) x]
theorem byt_ac {t : Nat} (hf : ∀ i, f i < 128) (ht : t < 4) : byt (nI (acN f 4)) t = nI (f t) := by
  have l : acN f 4 < 128 * 256 ^ 3 := (acN_lt hf 4).2 (by decide)
  have e : acN f 4 = ((f 0 * 256 + f 1) * 256 + f 2) * 256 + f 3 := by
    show (((0 * 256 + f 0) * 256 + f 1) * 256 + f 2) * 256 + f 3 = _
    omega
  have h0 := hf 0
  have h1 := hf 1
  have h2 := hf 2
  have h3 := hf 3
  unfold byt
  rw [nz_shr (by omega) (by omega), nz_and, Nat.and_two_pow_sub_one_eq_mod _ 8, e]
  match t, ht with
  | 0, _ => congr 1; omega
  | 1, _ => congr 1; omega
  | 2, _ => congr 1; omega
  | 3, _ => congr 1; omega
theorem byt5_ac (hf : ∀ i, f i < 128) (hi : i < 20) : byt5 (nI (acN (fun t => f t) 4)) (nI (acN (fun t => f (4 + t)) 4)) (nI (acN (fun t => f (8 + t)) 4)) (nI (acN (fun t => f (12 + t)) 4)) (nI (acN (fun t => f (16 + t)) 4)) i = nI (f i) := by
  have w : ∀ q t, t < 4 → byt (nI (acN (fun t => f (q + t)) 4)) t = nI (f (q + t)) := fun q t ht => byt_ac (f := fun t => f (q + t)) (fun i => hf _) ht
  have w0 : ∀ t, t < 4 → byt (nI (acN (fun t => f t) 4)) t = nI (f t) := fun t ht => byt_ac (f := fun t => f t) (fun i => hf _) ht
  match i, hi with
  | 0, _ => exact w0 0 (by decide)
  | 1, _ => exact w0 1 (by decide)
  | 2, _ => exact w0 2 (by decide)
  | 3, _ => exact w0 3 (by decide)
  | 4, _ => exact w 4 0 (by decide)
  | 5, _ => exact w 4 1 (by decide)
  | 6, _ => exact w 4 2 (by decide)
  | 7, _ => exact w 4 3 (by decide)
  | 8, _ => exact w 8 0 (by decide)
  | 9, _ => exact w 8 1 (by decide)
  | 10, _ => exact w 8 2 (by decide)
  | 11, _ => exact w 8 3 (by decide)
  | 12, _ => exact w 12 0 (by decide)
  | 13, _ => exact w 12 1 (by decide)
  | 14, _ => exact w 12 2 (by decide)
  | 15, _ => exact w 12 3 (by decide)
  | 16, _ => exact w 16 0 (by decide)
  | 17, _ => exact w 16 1 (by decide)
  | 18, _ => exact w 16 2 (by decide)
  | 19, _ => exact w 16 3 (by decide)
  | i + 20, hi => exact absurd hi (by omega)
/-- the byte that is fed at a place -/
def tpB (s : List Nat) (i : Nat) : Nat := if i < s.length then s.getD i 0 else 32
theorem tpB_lt (A : Asc s) (i : Nat) : tpB s i < 128 := by
  unfold tpB
  split
  · exact A.at
  · decide
/-- the model's TAPE has L bytes, nothing else changed -/
def TG (s : List Nat) (L : Nat) (m0 m : Mem) : Prop := (∀ y, 123 ≤ y → y ≠ 123 → y ≠ 131 → m y = m0 y) ∧ (∀ j, j ≠ 16 → m 123 j = m0 123 j) ∧ m 123 16 = nI L ∧ ∀ i, i < L → m 131 i = nI (tpB s i)
theorem pat_self (kl : lk h) : pat h h.1 = h := by
  have : (fun k => if k < 123 then h.1 k else h.2.2 k) = h.2.2 := by
    funext k
    by_cases q : k < 123
    · rw [if_pos q]
      exact (kl.1 k q).symm
    · rw [if_neg q]
  show (h.1, h.2.1, fun k => if k < 123 then h.1 k else h.2.2 k) = h
  rw [this]
theorem chr_tab : (List.range 128).all (fun b => decide (((nI b &&& (255 : Int32)).toUInt32 % 65536).toInt32 = nI b) && isC (nI b)) = true := by decide +kernel
theorem e_charAt (H : StA h S s) (A : Asc s) (kl : lk h) (hs : s.length ≤ 900) (hi : i < s.length) : g_J0_charAt_5068e N S (nI i) h = some (nI (s.getD i 0), h) := by
  obtain ⟨V, v1, v2, v3⟩ := H.2.2
  have q := List.all_eq_true.mp chr_tab (s.getD i 0) (List.mem_range.mpr A.at)
  rw [Bool.and_eq_true, decide_eq_true_eq] at q
  have lat : g_J0_isLatin1_aae02 N S h = some (1, h) := by
    unfold g_J0_isLatin1_aae02
    rw [if_neg (show ¬ (1 : Int32) = 0 by decide), H.2.1, e_bo, if_pos rfl]
  have ci : f_J0_checkIndex_df160 N (nI i) (nI s.length) h.1 = some (0, h.1) := by
    unfold f_J0_checkIndex_df160 f_J3_checkIndex_8e157
    rw [if_neg (show ¬ nI i < 0 from fun y => by
      have := (nI_ltI (a := i) (b := 0) (by omega) (by decide)).mp y
      omega), if_pos (nI_lt hi (by omega))]
    rfl
  have bg : bG h V (nI i) = some (nI (s.getD i 0)) := by
    unfold bG
    rw [v2]
    show (if _ then _ else _) = _
    rw [if_pos (inb_nI hi (by omega)), nI_clamp (by omega), v3 i hi]
  have c1 : g_J1_charAt_3b067 N V (nI i) h = some (nI (s.getD i 0), h) := by
    unfold g_J1_charAt_3b067
    rw [v2, e_bo, show Int32.ofNat s.length = nI s.length from rfl, ci]
    show bo (bG (pat h h.1) V (nI i)) _ = _
    rw [pat_self kl, bg, e_bo, q.1, q.2, chk_t]
  unfold g_J0_charAt_5068e
  rw [H.1, chk_t, lat, e_bd3, if_neg (show ¬ (1 : Int32) = 0 by decide), v1, e_bo, c1, e_bd3, q.2, chk_t]
end SAYH
