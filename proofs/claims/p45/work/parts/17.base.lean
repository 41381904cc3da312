/-! runs that end: Wp; loops by a measure; small arithmetic -/
def Wp (x : Ans) (Q : Int32 → Mem → Prop) : Prop := ∃ v m, x = some (v, m) ∧ Q v m
section WPS
variable {x y : Ans} {Q R : Int32 → Mem → Prop} {v : Int32} {m : Mem}
theorem wp_ret (h : Q v m) : Wp (some (v, m)) Q := ⟨v, m, rfl, h⟩
theorem wp_bd {k : Int32 → Mem → Ans} (h : Wp x (fun v m => Wp (k v m) Q)) : Wp (bd x k) Q := by
  obtain ⟨v, m, rfl, h2⟩ := h
  exact h2
theorem wp_mono (h : Wp x Q) (k : ∀ v m, Q v m → R v m) : Wp x R := by
  obtain ⟨v, m, e, h2⟩ := h
  exact ⟨v, m, e, k v m h2⟩
theorem wp_bind {k : Int32 → Mem → Ans} (h : Wp x R) (h2 : ∀ v m, R v m → Wp (k v m) Q) : Wp (bd x k) Q := wp_bd (wp_mono h h2)
theorem wp_chk {b : Bool} (hb : b = true) (h : Wp x Q) : Wp (chk b x) Q := by subst hb; exact h
theorem wp_ite {c : Prop} [hd : Decidable c] (h1 : c → Wp x Q) (h2 : ¬ c → Wp y Q) : Wp (if c then x else y) Q := by
  split
  · exact h1 ‹_›
  · exact h2 ‹_›
theorem wp_bnd {α : Type} {e : α} {f : α → Ans} (h : Wp (f e) Q) : Wp (bnd e f) Q := h
theorem wp_eq {z : Ans} (e : x = z) (h : Wp z Q) : Wp x Q := e ▸ h
end WPS
theorem bd_s (v : Int32) (m : Mem) (k : Int32 → Mem → Ans) : bd (some (v, m)) k = k v m := rfl
theorem bnd_s {α β : Type} (e : α) (f : α → β) : bnd e f = f e := rfl
theorem chk_t {α : Type} (x : Option α) : chk true x = x := rfl
theorem wp_it0 {b : (Mem → Ans) → Mem → Ans} {Q : Int32 → Mem → Prop} (I : Nat → Mem → Prop)
    (hb : ∀ n X m, I n m → (∀ n' m', n' < n → I n' m' → Wp (X m') Q) → Wp (b X m) Q) : ∀ N n m, n < N → I n m → Wp (it0 b N m) Q
  | 0, n, m, h, _ => absurd h (by omega)
  | N + 1, n, m, h, hi => hb n (it0 b N) m hi (fun n' m' h1 h2 => wp_it0 I hb N n' m' (by omega) h2)
theorem wp_it1 {α : Type} {b : (α → Mem → Ans) → α → Mem → Ans} {Q : Int32 → Mem → Prop} (I : Nat → α → Mem → Prop)
    (hb : ∀ n X a m, I n a m → (∀ n' a' m', n' < n → I n' a' m' → Wp (X a' m') Q) → Wp (b X a m) Q) : ∀ N n a m, n < N → I n a m → Wp (it1 b N a m) Q
  | 0, n, a, m, h, _ => absurd h (by omega)
  | N + 1, n, a, m, h, hi => hb n (it1 b N) a m hi (fun n' a' m' h1 h2 => wp_it1 I hb N n' a' m' (by omega) h2)
theorem wp_it2 {α β : Type} {b : (α → β → Mem → Ans) → α → β → Mem → Ans} {Q : Int32 → Mem → Prop} (I : Nat → α → β → Mem → Prop)
    (hb : ∀ n X a c m, I n a c m → (∀ n' a' c' m', n' < n → I n' a' c' m' → Wp (X a' c' m') Q) → Wp (b X a c m) Q) : ∀ N n a c m, n < N → I n a c m → Wp (it2 b N a c m) Q
  | 0, n, a, c, m, h, _ => absurd h (by omega)
  | N + 1, n, a, c, m, h, hi => hb n (it2 b N) a c m hi (fun n' a' c' m' h1 h2 => wp_it2 I hb N n' a' c' m' (by omega) h2)
theorem wp_it3 {α β γ : Type} {b : (α → β → γ → Mem → Ans) → α → β → γ → Mem → Ans} {Q : Int32 → Mem → Prop} (I : Nat → α → β → γ → Mem → Prop)
    (hb : ∀ n X a c d m, I n a c d m → (∀ n' a' c' d' m', n' < n → I n' a' c' d' m' → Wp (X a' c' d' m') Q) → Wp (b X a c d m) Q) : ∀ N n a c d m, n < N → I n a c d m → Wp (it3 b N a c d m) Q
  | 0, n, a, c, d, m, h, _ => absurd h (by omega)
  | N + 1, n, a, c, d, m, h, hi => hb n (it3 b N) a c d m hi (fun n' a' c' d' m' h1 h2 => wp_it3 I hb N n' a' c' d' m' (by omega) h2)
theorem wp_it4 {α β γ δ : Type} {b : (α → β → γ → δ → Mem → Ans) → α → β → γ → δ → Mem → Ans} {Q : Int32 → Mem → Prop} (I : Nat → α → β → γ → δ → Mem → Prop)
    (hb : ∀ n X a c d e m, I n a c d e m → (∀ n' a' c' d' e' m', n' < n → I n' a' c' d' e' m' → Wp (X a' c' d' e' m') Q) → Wp (b X a c d e m) Q) : ∀ N n a c d e m, n < N → I n a c d e m → Wp (it4 b N a c d e m) Q
  | 0, n, a, c, d, e, m, h, _ => absurd h (by omega)
  | N + 1, n, a, c, d, e, m, h, hi => hb n (it4 b N) a c d e m hi (fun n' a' c' d' e' m' h1 h2 => wp_it4 I hb N n' a' c' d' e' m' (by omega) h2)
/-! numbers -/
def mo1 : Int32 := -1
theorem li_0 : (0 : Int32) = nI 0 := id rfl
theorem li_1 : (1 : Int32) = nI 1 := id rfl
theorem li_2 : (2 : Int32) = nI 2 := id rfl
theorem li_3 : (3 : Int32) = nI 3 := id rfl
theorem li_4 : (4 : Int32) = nI 4 := id rfl
theorem li_5 : (5 : Int32) = nI 5 := id rfl
theorem li_6 : (6 : Int32) = nI 6 := id rfl
theorem li_7 : (7 : Int32) = nI 7 := id rfl
theorem li_8 : (8 : Int32) = nI 8 := id rfl
theorem li_9 : (9 : Int32) = nI 9 := id rfl
theorem li_10 : (10 : Int32) = nI 10 := id rfl
theorem li_11 : (11 : Int32) = nI 11 := id rfl
theorem li_12 : (12 : Int32) = nI 12 := id rfl
theorem li_13 : (13 : Int32) = nI 13 := id rfl
theorem li_14 : (14 : Int32) = nI 14 := id rfl
theorem li_15 : (15 : Int32) = nI 15 := id rfl
theorem li_16 : (16 : Int32) = nI 16 := id rfl
theorem li_17 : (17 : Int32) = nI 17 := id rfl
theorem li_18 : (18 : Int32) = nI 18 := id rfl
theorem li_19 : (19 : Int32) = nI 19 := id rfl
theorem li_20 : (20 : Int32) = nI 20 := id rfl
theorem li_21 : (21 : Int32) = nI 21 := id rfl
theorem li_22 : (22 : Int32) = nI 22 := id rfl
theorem li_23 : (23 : Int32) = nI 23 := id rfl
theorem li_24 : (24 : Int32) = nI 24 := id rfl
theorem li_25 : (25 : Int32) = nI 25 := id rfl
theorem li_26 : (26 : Int32) = nI 26 := id rfl
theorem li_27 : (27 : Int32) = nI 27 := id rfl
theorem li_28 : (28 : Int32) = nI 28 := id rfl
theorem li_29 : (29 : Int32) = nI 29 := id rfl
theorem li_30 : (30 : Int32) = nI 30 := id rfl
theorem li_31 : (31 : Int32) = nI 31 := id rfl
theorem li_32 : (32 : Int32) = nI 32 := id rfl
theorem li_37 : (37 : Int32) = nI 37 := id rfl
theorem li_38 : (38 : Int32) = nI 38 := id rfl
theorem li_39 : (39 : Int32) = nI 39 := id rfl
theorem li_40 : (40 : Int32) = nI 40 := id rfl
theorem li_41 : (41 : Int32) = nI 41 := id rfl
theorem li_42 : (42 : Int32) = nI 42 := id rfl
theorem li_43 : (43 : Int32) = nI 43 := id rfl
theorem li_44 : (44 : Int32) = nI 44 := id rfl
theorem li_45 : (45 : Int32) = nI 45 := id rfl
theorem li_46 : (46 : Int32) = nI 46 := id rfl
theorem li_47 : (47 : Int32) = nI 47 := id rfl
theorem li_48 : (48 : Int32) = nI 48 := id rfl
theorem li_49 : (49 : Int32) = nI 49 := id rfl
theorem li_50 : (50 : Int32) = nI 50 := id rfl
theorem li_57 : (57 : Int32) = nI 57 := id rfl
theorem li_59 : (59 : Int32) = nI 59 := id rfl
theorem li_60 : (60 : Int32) = nI 60 := id rfl
theorem li_61 : (61 : Int32) = nI 61 := id rfl
theorem li_62 : (62 : Int32) = nI 62 := id rfl
theorem li_63 : (63 : Int32) = nI 63 := id rfl
theorem li_64 : (64 : Int32) = nI 64 := id rfl
theorem li_65 : (65 : Int32) = nI 65 := id rfl
theorem li_69 : (69 : Int32) = nI 69 := id rfl
theorem li_81 : (81 : Int32) = nI 81 := id rfl
theorem li_89 : (89 : Int32) = nI 89 := id rfl
theorem li_90 : (90 : Int32) = nI 90 := id rfl
theorem li_92 : (92 : Int32) = nI 92 := id rfl
theorem li_97 : (97 : Int32) = nI 97 := id rfl
theorem li_99 : (99 : Int32) = nI 99 := id rfl
theorem li_100 : (100 : Int32) = nI 100 := id rfl
theorem li_101 : (101 : Int32) = nI 101 := id rfl
theorem li_103 : (103 : Int32) = nI 103 := id rfl
theorem li_104 : (104 : Int32) = nI 104 := id rfl
theorem li_105 : (105 : Int32) = nI 105 := id rfl
theorem li_106 : (106 : Int32) = nI 106 := id rfl
theorem li_108 : (108 : Int32) = nI 108 := id rfl
theorem li_111 : (111 : Int32) = nI 111 := id rfl
theorem li_112 : (112 : Int32) = nI 112 := id rfl
theorem li_113 : (113 : Int32) = nI 113 := id rfl
theorem li_114 : (114 : Int32) = nI 114 := id rfl
theorem li_115 : (115 : Int32) = nI 115 := id rfl
theorem li_116 : (116 : Int32) = nI 116 := id rfl
theorem li_117 : (117 : Int32) = nI 117 := id rfl
theorem li_119 : (119 : Int32) = nI 119 := id rfl
theorem li_122 : (122 : Int32) = nI 122 := id rfl
theorem li_123 : (123 : Int32) = nI 123 := id rfl
theorem li_124 : (124 : Int32) = nI 124 := id rfl
theorem li_125 : (125 : Int32) = nI 125 := id rfl
theorem li_126 : (126 : Int32) = nI 126 := id rfl
theorem li_127 : (127 : Int32) = nI 127 := id rfl
theorem li_128 : (128 : Int32) = nI 128 := id rfl
theorem li_129 : (129 : Int32) = nI 129 := id rfl
theorem li_130 : (130 : Int32) = nI 130 := id rfl
theorem li_131 : (131 : Int32) = nI 131 := id rfl
theorem li_132 : (132 : Int32) = nI 132 := id rfl
theorem li_133 : (133 : Int32) = nI 133 := id rfl
theorem li_134 : (134 : Int32) = nI 134 := id rfl
theorem li_135 : (135 : Int32) = nI 135 := id rfl
theorem li_136 : (136 : Int32) = nI 136 := id rfl
theorem li_137 : (137 : Int32) = nI 137 := id rfl
theorem li_140 : (140 : Int32) = nI 140 := id rfl
theorem li_141 : (141 : Int32) = nI 141 := id rfl
theorem li_142 : (142 : Int32) = nI 142 := id rfl
theorem li_143 : (143 : Int32) = nI 143 := id rfl
theorem li_145 : (145 : Int32) = nI 145 := id rfl
theorem li_147 : (147 : Int32) = nI 147 := id rfl
theorem li_150 : (150 : Int32) = nI 150 := id rfl
theorem li_153 : (153 : Int32) = nI 153 := id rfl
theorem li_159 : (159 : Int32) = nI 159 := id rfl
theorem li_160 : (160 : Int32) = nI 160 := id rfl
theorem li_161 : (161 : Int32) = nI 161 := id rfl
theorem li_162 : (162 : Int32) = nI 162 := id rfl
theorem li_185 : (185 : Int32) = nI 185 := id rfl
theorem li_197 : (197 : Int32) = nI 197 := id rfl
theorem li_213 : (213 : Int32) = nI 213 := id rfl
theorem li_222 : (222 : Int32) = nI 222 := id rfl
theorem li_223 : (223 : Int32) = nI 223 := id rfl
theorem li_255 : (255 : Int32) = nI 255 := id rfl
theorem li_256 : (256 : Int32) = nI 256 := id rfl
theorem li_257 : (257 : Int32) = nI 257 := id rfl
theorem li_258 : (258 : Int32) = nI 258 := id rfl
theorem li_259 : (259 : Int32) = nI 259 := id rfl
theorem li_260 : (260 : Int32) = nI 260 := id rfl
theorem li_261 : (261 : Int32) = nI 261 := id rfl
theorem li_262 : (262 : Int32) = nI 262 := id rfl
theorem li_263 : (263 : Int32) = nI 263 := id rfl
theorem li_264 : (264 : Int32) = nI 264 := id rfl
theorem li_271 : (271 : Int32) = nI 271 := id rfl
theorem li_272 : (272 : Int32) = nI 272 := id rfl
theorem li_273 : (273 : Int32) = nI 273 := id rfl
theorem li_274 : (274 : Int32) = nI 274 := id rfl
theorem li_275 : (275 : Int32) = nI 275 := id rfl
theorem li_276 : (276 : Int32) = nI 276 := id rfl
theorem li_277 : (277 : Int32) = nI 277 := id rfl
theorem li_278 : (278 : Int32) = nI 278 := id rfl
theorem li_300 : (300 : Int32) = nI 300 := id rfl
theorem li_400 : (400 : Int32) = nI 400 := id rfl
theorem li_420 : (420 : Int32) = nI 420 := id rfl
theorem li_500 : (500 : Int32) = nI 500 := id rfl
theorem li_802 : (802 : Int32) = nI 802 := id rfl
theorem li_820 : (820 : Int32) = nI 820 := id rfl
theorem li_823 : (823 : Int32) = nI 823 := id rfl
theorem li_839 : (839 : Int32) = nI 839 := id rfl
theorem li_855 : (855 : Int32) = nI 855 := id rfl
theorem li_871 : (871 : Int32) = nI 871 := id rfl
theorem li_887 : (887 : Int32) = nI 887 := id rfl
theorem li_999 : (999 : Int32) = nI 999 := id rfl
theorem li_1000 : (1000 : Int32) = nI 1000 := id rfl
theorem li_1001 : (1001 : Int32) = nI 1001 := id rfl
theorem li_1002 : (1002 : Int32) = nI 1002 := id rfl
theorem li_1003 : (1003 : Int32) = nI 1003 := id rfl
theorem li_1004 : (1004 : Int32) = nI 1004 := id rfl
theorem li_1005 : (1005 : Int32) = nI 1005 := id rfl
theorem li_1006 : (1006 : Int32) = nI 1006 := id rfl
theorem li_1007 : (1007 : Int32) = nI 1007 := id rfl
theorem li_1008 : (1008 : Int32) = nI 1008 := id rfl
theorem li_1009 : (1009 : Int32) = nI 1009 := id rfl
theorem li_1010 : (1010 : Int32) = nI 1010 := id rfl
theorem li_1011 : (1011 : Int32) = nI 1011 := id rfl
theorem li_1012 : (1012 : Int32) = nI 1012 := id rfl
theorem li_1013 : (1013 : Int32) = nI 1013 := id rfl
theorem li_1014 : (1014 : Int32) = nI 1014 := id rfl
theorem li_1015 : (1015 : Int32) = nI 1015 := id rfl
theorem li_1016 : (1016 : Int32) = nI 1016 := id rfl
theorem li_1017 : (1017 : Int32) = nI 1017 := id rfl
theorem li_1018 : (1018 : Int32) = nI 1018 := id rfl
theorem li_1019 : (1019 : Int32) = nI 1019 := id rfl
theorem li_1020 : (1020 : Int32) = nI 1020 := id rfl
theorem li_1021 : (1021 : Int32) = nI 1021 := id rfl
theorem li_1022 : (1022 : Int32) = nI 1022 := id rfl
theorem li_1023 : (1023 : Int32) = nI 1023 := id rfl
theorem li_1707 : (1707 : Int32) = nI 1707 := id rfl
theorem li_4096 : (4096 : Int32) = nI 4096 := id rfl
theorem li_9999 : (9999 : Int32) = nI 9999 := id rfl
theorem li_65536 : (65536 : Int32) = nI 65536 := id rfl
theorem li_100000 : (100000 : Int32) = nI 100000 := id rfl
theorem li_1000000 : (1000000 : Int32) = nI 1000000 := id rfl
theorem li_1664525 : (1664525 : Int32) = nI 1664525 := id rfl
theorem li_100000000 : (100000000 : Int32) = nI 100000000 := id rfl
theorem li_252645135 : (252645135 : Int32) = nI 252645135 := id rfl
theorem li_858993459 : (858993459 : Int32) = nI 858993459 := id rfl
theorem li_1000000007 : (1000000007 : Int32) = nI 1000000007 := id rfl
theorem li_1013904223 : (1013904223 : Int32) = nI 1013904223 := id rfl
theorem li_1431655765 : (1431655765 : Int32) = nI 1431655765 := id rfl
theorem li_m1 : -(nI 1) = mo1 := id rfl
theorem nz_and (a b : Nat) : nI a &&& nI b = nI (a &&& b) := by
  apply Int32.toBitVec_inj.1
  show BitVec.ofNat 32 a &&& BitVec.ofNat 32 b = BitVec.ofNat 32 (a &&& b)
  apply BitVec.eq_of_getLsbD_eq
  intro i hi
  simp [hi]
theorem nz_or (a b : Nat) : nI a ||| nI b = nI (a ||| b) := by
  apply Int32.toBitVec_inj.1
  show BitVec.ofNat 32 a ||| BitVec.ofNat 32 b = BitVec.ofNat 32 (a ||| b)
  apply BitVec.eq_of_getLsbD_eq
  intro i hi
  simp [hi]
theorem nz_xor (a b : Nat) : nI a ^^^ nI b = nI (a ^^^ b) := by
  apply Int32.toBitVec_inj.1
  show BitVec.ofNat 32 a ^^^ BitVec.ofNat 32 b = BitVec.ofNat 32 (a ^^^ b)
  apply BitVec.eq_of_getLsbD_eq
  intro i hi
  simp [hi]
/-- a less b, as sets -/
def sdf (a b : Nat) : Nat := a ^^^ (a &&& b)
theorem sdf_bit (a b i : Nat) : (sdf a b).testBit i = (a.testBit i && !b.testBit i) := by
  simp only [sdf, Nat.testBit_xor, Nat.testBit_and]
  cases a.testBit i <;> cases b.testBit i <;> rfl
theorem nz_diff (a b : Nat) : nI a &&& (nI b ^^^ mo1) = nI (sdf a b) := by
  apply Int32.toBitVec_inj.1
  show BitVec.ofNat 32 a &&& (BitVec.ofNat 32 b ^^^ BitVec.allOnes 32) = BitVec.ofNat 32 (sdf a b)
  apply BitVec.eq_of_getLsbD_eq
  intro i hi
  simp only [BitVec.getLsbD_and, BitVec.getLsbD_xor, BitVec.getLsbD_allOnes, BitVec.getLsbD_ofNat, hi, decide_true, Bool.true_and, sdf_bit, Bool.xor_true]
theorem sdf_le (a b : Nat) : sdf a b ≤ a := by
  refine Nat.le_of_testBit ?_
  intro i hi
  rw [sdf_bit] at hi
  simp only [Bool.and_eq_true] at hi
  exact hi.1
theorem sh_cnt : ∀ n, n < 32 → ((nI n &&& 31).toBitVec.smod 32).toNat = n := by decide +kernel
theorem nz_one {h : Nat} (hh : h < 31) : nI 1 <<< (nI h &&& nI 31) = nI (2 ^ h) := by
  have h2 : 2 ^ h < 2 ^ 31 := Nat.pow_lt_pow_right (by decide) hh
  have := pk_shlN (n := 1) (nI h &&& 31) h (sh_cnt h (by omega)) (by omega)
  rw [Nat.one_mul] at this
  exact this
theorem nz_shr {k h : Nat} (hk : k < 2 ^ 31) (hh : h < 31) : nI k >>> (nI h &&& nI 31) = nI (k / 2 ^ h) := pk_shrN hk _ h (sh_cnt h (by omega))
theorem nz_low {k : Nat} (hk : k < 2 ^ 31) : nI k &&& nI 1 = nI (k % 2) := pk_andN (by omega) 1 (by decide)
theorem nz_b01 {k h : Nat} (hk : k < 2 ^ 31) (hh : h < 31) : (nI k >>> (nI h &&& nI 31)) &&& nI 1 = nI (k.testBit h).toNat := by
  rw [nz_shr hk hh, nz_low (Nat.lt_of_le_of_lt (Nat.div_le_self _ _) hk), Nat.toNat_testBit]
theorem nz_bit {k h : Nat} (hk : k < 2 ^ 31) (hh : h < 31) : ((nI k >>> (nI h &&& nI 31)) &&& nI 1 = nI 1) ↔ k.testBit h = true := by
  rw [nz_b01 hk hh]
  cases k.testBit h <;> decide
theorem nz_bit0 {k h : Nat} (hk : k < 2 ^ 31) (hh : h < 31) : ((nI k >>> (nI h &&& nI 31)) &&& nI 1 = nI 0) ↔ k.testBit h = false := by
  rw [nz_b01 hk hh]
  cases k.testBit h <;> decide
theorem pow_le31 {n : Nat} (h : n ≤ 12) : 2 ^ n ≤ 4096 := by
  have : 2 ^ n ≤ 2 ^ 12 := Nat.pow_le_pow_right (by decide) h
  omega
/-- a number that is at most b -/
def isn (x : Int32) (b : Nat) : Prop := ∃ k, k ≤ b ∧ x = nI k
def nv (x : Int32) : Nat := x.toNatClampNeg
theorem nv_nI {k : Nat} (h : k < 2 ^ 31) : nv (nI k) = k := nI_clamp h
theorem isn.le {x : Int32} {b : Nat} (h : isn x b) (hb : b < 2 ^ 31) : nv x ≤ b := by
  obtain ⟨k, h1, rfl⟩ := h
  rw [nv_nI (by omega)]; exact h1
theorem isn.eq {x : Int32} {b : Nat} (h : isn x b) (hb : b < 2 ^ 31) : x = nI (nv x) := by
  obtain ⟨k, h1, rfl⟩ := h
  rw [nv_nI (by omega)]
theorem isn.mono {x : Int32} {b c : Nat} (h : isn x b) (hb : b ≤ c) : isn x c := by
  obtain ⟨k, h1, rfl⟩ := h
  exact ⟨k, by omega, rfl⟩
theorem isn.nI {k b : Nat} (h : k ≤ b) : isn (nI k) b := ⟨k, h, rfl⟩
theorem nI_no0 {k : Nat} (h : k < 2 ^ 31) : ¬ nI k < nI 0 := nI_pos h
theorem nI_no1 {k : Nat} (h : k < 2 ^ 31) : ¬ nI k = mo1 := nI_ne_m1 h
theorem nI_ne {a b : Nat} (h : a ≠ b) (ha : a < 2 ^ 31) (hb : b < 2 ^ 31) : ¬ nI a = nI b := fun q => h ((nI_eq ha hb).mp q)
theorem nI_up (n : Nat) : nI n + nI 1 = nI (n + 1) := nI_add n 1
theorem nI_dn (n : Nat) : nI (n + 1) - nI 1 = nI n := nI_pred n
theorem nI_dm (n : Nat) : nI (n + 1) + mo1 = nI n := pk_m1 n
theorem inb_nI {k n : Nat} (h : k < n) (hn : n ≤ 2 ^ 31) : inb (nI k) n = true := by
  unfold inb
  rw [nI_clamp (by omega)]
  simp only [Bool.and_eq_true, decide_eq_true_eq]
  exact ⟨nI_pos' (by omega), h⟩
theorem inb_of {x : Int32} {n : Nat} (h : inb x n = true) (hn : n ≤ 2 ^ 31) : ∃ k, k < n ∧ x = nI k := by
  unfold inb at h
  simp only [Bool.and_eq_true, decide_eq_true_eq] at h
  obtain ⟨j, h1, rfl⟩ := nI_of (x := x) (fun q => absurd h.1 (Int32.not_le.mpr q))
  rw [nI_clamp h1] at h
  exact ⟨j, h.2, rfl⟩
theorem inb_no {x : Int32} {n : Nat} (h : x < 0 ∨ nI n ≤ x) (hn : n < 2 ^ 31) : inb x n = false := by
  cases hq : inb x n with
  | false => rfl
  | true =>
    obtain ⟨k, h1, rfl⟩ := inb_of hq (by omega)
    rcases h with h | h
    · exact absurd h (nI_pos (by omega))
    · exact absurd h (nI_ge h1 hn)
theorem inb_cases (x : Int32) {n : Nat} (hn : n < 2 ^ 31) : (inb x n = false ∧ (x < 0 ∨ nI n ≤ x)) ∨ ∃ k, k < n ∧ x = nI k := by
  rcases pk_ix x hn with h | h | h
  · exact Or.inl ⟨inb_no (Or.inl h) hn, Or.inl h⟩
  · exact Or.inl ⟨inb_no (Or.inr h) hn, Or.inr h⟩
  · exact Or.inr h
def b2i (b : Bool) : Int32 := nI b.toNat
theorem swt_at {α : Type} {c : Int} {xs : List α} {z : α} (j : Nat) {x : α} (h : c = (j : Int)) (hx : xs[j]? = some x) : swt c xs z = x := by
  unfold swt
  rw [if_neg (by omega), h, List.getD_eq_getElem?_getD]
  simp [hx]
theorem swt_no {α : Type} {c : Int} {xs : List α} {z : α} (h : c < 0 ∨ (xs.length : Int) ≤ c) : swt c xs z = z := by
  unfold swt
  split
  · rfl
  · rw [List.getD_eq_getElem?_getD, List.getElem?_eq_none (by omega)]
    rfl
theorem mset_at (m : Mem) (k j : Nat) (v : Int32) : mset m k j v k j = v := by simp [mset]
theorem mset_k {m : Mem} {k j a b : Nat} {v : Int32} (h : a ≠ k) : mset m k j v a b = m a b := by simp [mset, h]
theorem mset_j {m : Mem} {k j a b : Nat} {v : Int32} (h : b ≠ j) : mset m k j v a b = m a b := by simp [mset, h]
theorem ud_s {f : Nat → Int32} {k : Nat} {x : Int32} : upd f k x k = x := pk_us
theorem ud_n {f : Nat → Int32} {k j : Nat} {x : Int32} (h : j ≠ k) : upd f k x j = f j := pk_un h
/-- the cells outside some stretches are as they were -/
def Fr (S : List (Nat × Nat)) (m m' : Mem) : Prop := ∀ k, (∀ p ∈ S, k < p.1 ∨ p.2 < k) → m' k = m k
theorem Fr.rf {S : List (Nat × Nat)} {m : Mem} : Fr S m m := fun _ _ => rfl
theorem Fr.trans {S : List (Nat × Nat)} {m m1 m2 : Mem} (h : Fr S m m1) (h2 : Fr S m1 m2) : Fr S m m2 := fun k q => (h2 k q).trans (h k q)
def sinc (S T : List (Nat × Nat)) : Bool := S.all (fun p => T.any (fun q => decide (q.1 ≤ p.1) && decide (p.2 ≤ q.2)))
theorem Fr.mono {S T : List (Nat × Nat)} {m m1 : Mem} (h : Fr S m m1) (hs : sinc S T = true) : Fr T m m1 := by
  intro k q
  refine h k (fun p hp => ?_)
  simp only [sinc, List.all_eq_true, List.any_eq_true, Bool.and_eq_true, decide_eq_true_eq] at hs
  obtain ⟨r, hr, h1, h2⟩ := hs p hp
  have := q r hr
  omega
theorem Fr.set {S : List (Nat × Nat)} {m m1 : Mem} {k j : Nat} {v : Int32} (h : Fr S m m1) (hs : sinc [(k, k)] S = true) : Fr S m (mset m1 k j v) := by
  refine Fr.trans h (Fr.mono (S := [(k, k)]) (fun a q => ?_) hs)
  have := q (k, k) List.mem_cons_self
  exact mset_ne (by simp at this; omega)
theorem Fr.at {S : List (Nat × Nat)} {m m1 : Mem} (h : Fr S m m1) (k : Nat) (hk : S.all (fun p => decide (k < p.1) || decide (p.2 < k)) = true) : m1 k = m k := by
  refine h k (fun p hp => ?_)
  have := List.all_eq_true.mp hk p hp
  simpa using this
