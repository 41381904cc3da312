/-! sets, counting, tables: what the small methods answer -/
theorem Wp.toEq {x : Ans} {a : Int32} {b : Mem} (h : Wp x (fun v m => v = a ∧ m = b)) : x = some (a, b) := by
  obtain ⟨v, m, rfl, rfl, rfl⟩ := h
  rfl
def pcN : Nat → Nat → Nat
  | 0, _ => 0
  | n + 1, k => pcN n k + (k.testBit n).toNat
def pc (k : Nat) : Nat := pcN 12 k
theorem pcN_le (n k : Nat) : pcN n k ≤ n := by
  induction n with
  | zero => exact Nat.le_refl _
  | succ n ih =>
    unfold pcN
    have := Bool.toNat_le (k.testBit n)
    omega
theorem pc_le (k : Nat) : pc k ≤ 12 := pcN_le 12 k
def bcv (a0 : Int32) : Int32 :=
  let b := a0 - ((ushr a0 (1 : Int32)) &&& (1431655765 : Int32))
  let c := (b &&& (858993459 : Int32)) + ((ushr b (2 : Int32)) &&& (858993459 : Int32))
  let d := (c + (ushr c (4 : Int32))) &&& (252645135 : Int32)
  let e := d + (ushr d (8 : Int32))
  let f := e + (ushr e (16 : Int32))
  f &&& (63 : Int32)
theorem bcv_z : ∀ i, i < 64 → ∀ j, j < 64 → bcv (nI (64 * i + j)) = nI (pc (64 * i + j)) := by decide +kernel
theorem bcv_ok {k : Nat} (h : k < 4096) : bcv (nI k) = nI (pc k) := by
  have := bcv_z (k / 64) (by omega) (k % 64) (by omega)
  rw [show 64 * (k / 64) + k % 64 = k by omega] at this
  exact this
theorem e_bitCount {N k : Nat} (m : Mem) (h : k < 4096) : f_J6_bitCount_0f7a4 N (nI k) m = some (nI (pc k), m) := by
  rw [← bcv_ok h]
  rfl
theorem e_count {N k : Nat} (m : Mem) (hN : 20000 ≤ N) (h : k < 2 ^ 31) : f_X12_count N (nI k) m = some (nI (pc k), m) := by
  refine Wp.toEq ?_
  unfold f_X12_count
  refine wp_it2 (fun n a c m' => ∃ i, i ≤ 12 ∧ n = 12 - i ∧ a = nI (pcN i k) ∧ c = nI i ∧ m' = m) ?_ N 12 _ _ _ (by omega) ⟨0, by omega, rfl, rfl, rfl, rfl⟩
  rintro n X a c m' ⟨i, hi, rfl, rfl, rfl, rfl⟩ hX
  unfold f_X12_count_L4
  simp only [li_0, li_1, li_2, li_3, li_4, li_5, li_6, li_7, li_8, li_9, li_10, li_11, li_12, li_13, li_14, li_15, li_16, li_17, li_18, li_19, li_20, li_21, li_22, li_23, li_24, li_25, li_26, li_27, li_28, li_29, li_30, li_31, li_32, li_37, li_38, li_39, li_40, li_41, li_42, li_43, li_44, li_45, li_46, li_47, li_48, li_49, li_50, li_57, li_59, li_60, li_61, li_62, li_63, li_64, li_65, li_69, li_81, li_89, li_90, li_92, li_97, li_99, li_100, li_101, li_103, li_104, li_105, li_106, li_108, li_111, li_112, li_113, li_114, li_115, li_116, li_117, li_119, li_122, li_123, li_124, li_125, li_126, li_127, li_128, li_129, li_130, li_131, li_132, li_133, li_134, li_135, li_136, li_137, li_140, li_141, li_142, li_143, li_145, li_147, li_150, li_153, li_159, li_160, li_161, li_162, li_185, li_197, li_213, li_222, li_223, li_255, li_256, li_257, li_258, li_259, li_260, li_261, li_262, li_263, li_264, li_271, li_272, li_273, li_274, li_275, li_276, li_277, li_278, li_300, li_400, li_420, li_500, li_802, li_820, li_823, li_839, li_855, li_871, li_887, li_999, li_1000, li_1001, li_1002, li_1003, li_1004, li_1005, li_1006, li_1007, li_1008, li_1009, li_1010, li_1011, li_1012, li_1013, li_1014, li_1015, li_1016, li_1017, li_1018, li_1019, li_1020, li_1021, li_1022, li_1023, li_1707, li_4096, li_9999, li_65536, li_100000, li_1000000, li_1664525, li_100000000, li_252645135, li_858993459, li_1000000007, li_1013904223, li_1431655765, li_m1, nI_leI, nI_up]
  refine wp_ite (fun q => ?_) (fun q => ?_)
  · rw [nI_leI (by omega) (by omega)] at q
    have : i = 12 := by omega
    subst this
    exact wp_ret ⟨rfl, rfl⟩
  · rw [nI_leI (by omega) (by omega)] at q
    refine wp_bnd ?_
    rw [nz_b01 h (by omega), nI_add]
    exact hX (12 - (i + 1)) _ _ _ (by omega) ⟨i + 1, by omega, rfl, rfl, rfl, rfl⟩
theorem e_isInX {N h k : Nat} (m : Mem) (hh : h < 31) (hk : k < 2 ^ 31) : f_X11_isIn N (nI h) (nI k) m = some (b2i (k.testBit h), m) := by
  unfold f_X11_isIn
  simp only [li_0, li_1, li_2, li_3, li_4, li_5, li_6, li_7, li_8, li_9, li_10, li_11, li_12, li_13, li_14, li_15, li_16, li_17, li_18, li_19, li_20, li_21, li_22, li_23, li_24, li_25, li_26, li_27, li_28, li_29, li_30, li_31, li_32, li_37, li_38, li_39, li_40, li_41, li_42, li_43, li_44, li_45, li_46, li_47, li_48, li_49, li_50, li_57, li_59, li_60, li_61, li_62, li_63, li_64, li_65, li_69, li_81, li_89, li_90, li_92, li_97, li_99, li_100, li_101, li_103, li_104, li_105, li_106, li_108, li_111, li_112, li_113, li_114, li_115, li_116, li_117, li_119, li_122, li_123, li_124, li_125, li_126, li_127, li_128, li_129, li_130, li_131, li_132, li_133, li_134, li_135, li_136, li_137, li_140, li_141, li_142, li_143, li_145, li_147, li_150, li_153, li_159, li_160, li_161, li_162, li_185, li_197, li_213, li_222, li_223, li_255, li_256, li_257, li_258, li_259, li_260, li_261, li_262, li_263, li_264, li_271, li_272, li_273, li_274, li_275, li_276, li_277, li_278, li_300, li_400, li_420, li_500, li_802, li_820, li_823, li_839, li_855, li_871, li_887, li_999, li_1000, li_1001, li_1002, li_1003, li_1004, li_1005, li_1006, li_1007, li_1008, li_1009, li_1010, li_1011, li_1012, li_1013, li_1014, li_1015, li_1016, li_1017, li_1018, li_1019, li_1020, li_1021, li_1022, li_1023, li_1707, li_4096, li_9999, li_65536, li_100000, li_1000000, li_1664525, li_100000000, li_252645135, li_858993459, li_1000000007, li_1013904223, li_1431655765, li_m1]
  rw [if_neg (nI_no0 (by omega)), if_neg (nI_ge hh (by omega))]
  cases hq : k.testBit h with
  | true => rw [if_pos ((nz_bit hk hh).mpr hq)]; rfl
  | false => rw [if_neg (fun q => by rw [(nz_bit hk hh).mp q] at hq; cases hq)]; rfl
theorem e_within {N : Nat} {a lo hi : Int32} (m : Mem) : f_X11_within N a lo hi m = some (b2i (decide (lo ≤ a ∧ a ≤ hi)), m) := by
  unfold f_X11_within
  split
  · rw [decide_eq_false (fun q => Int32.not_lt.mpr q.1 ‹_›)]; rfl
  · split
    · rw [decide_eq_false (fun q => Int32.not_lt.mpr q.2 ‹_›)]; rfl
    · rw [decide_eq_true ⟨Int32.not_lt.mp ‹_›, Int32.not_lt.mp ‹_›⟩]; rfl
theorem e_isIn {N : Nat} {a lo hi : Int32} (m : Mem) : f_X12_isIn N a lo hi m = some (b2i (decide (lo ≤ a ∧ a ≤ hi)), m) := e_within (N := N) m
theorem rng_of {a : Int32} {l h : Nat} (hl : l < 2 ^ 31) (hh : h < 2 ^ 31) (q : decide (nI l ≤ a ∧ a ≤ nI h) = true) : ∃ k, l ≤ k ∧ k ≤ h ∧ a = nI k := by
  have q := of_decide_eq_true q
  obtain ⟨k, h1, rfl⟩ := nI_of (x := a) (Int32.not_lt.mpr (Int32.le_trans (nI_pos' hl) q.1))
  exact ⟨k, (nI_leI hl h1).mp q.1, (nI_leI h1 hh).mp q.2, rfl⟩
theorem rng_is {k l h : Nat} (hk : k < 2 ^ 31) (hl : l < 2 ^ 31) (hh : h < 2 ^ 31) : decide (nI l ≤ nI k ∧ nI k ≤ nI h) = decide (l ≤ k ∧ k ≤ h) := by
  rw [decide_eq_decide, nI_leI hl hk, nI_leI hk hh]
theorem isB_b2i (b : Bool) : isB (b2i b) = true := by cases b <;> rfl
theorem b2i_0 (b : Bool) : (b2i b = nI 0) ↔ b = false := by cases b <;> decide
theorem b2i_1 (b : Bool) : (b2i b = nI 1) ↔ b = true := by cases b <;> decide
theorem if_b2i {α : Type} (b : Bool) (x y : α) : (if b2i b = nI 0 then x else y) = (if b then y else x) := by cases b <;> rfl
theorem rng_inb {a : Int32} {n : Nat} (hn : n < 2 ^ 31) : decide (nI 0 ≤ a ∧ a ≤ nI n - nI 1) = inb a n := by
  cases n with
  | zero =>
    rw [decide_eq_false, inb_no (n := 0) ?_ (by decide)]
    · by_cases q : a < 0
      · exact Or.inl q
      · exact Or.inr (Int32.not_lt.mp q)
    · rintro ⟨q1, q2⟩
      have := Int32.le_trans q1 q2
      exact absurd this (by decide)
  | succ n =>
    rw [nI_dn]
    rcases inb_cases a hn with ⟨q, q1⟩ | ⟨k, hk, rfl⟩
    · rw [q, decide_eq_false]
      rintro ⟨h1, h2⟩
      obtain ⟨j, hj, rfl⟩ := nI_of (x := a) (Int32.not_lt.mpr h1)
      rw [nI_leI hj (by omega)] at h2
      rcases q1 with q1 | q1
      · exact nI_pos hj q1
      · rw [nI_leI hn hj] at q1; omega
    · rw [inb_nI hk (by omega), decide_eq_true]
      exact ⟨nI_pos' (by omega), (nI_leI (by omega) (by omega)).mpr (by omega)⟩
/-! tables -/
def tbs : List (Nat × Nat × Nat) := [(3, 12, 8), (5, 8, 5), (7, 1, 7), (9, 150, 4), (11, 16, 4), (13, 400, 2), (15, 16, 4), (17, 16, 4), (19, 16, 4), (21, 8, 2), (23, 10, 1),
  (26, 12, 8), (28, 8, 5), (30, 1, 7), (32, 150, 4), (34, 16, 4), (36, 400, 2), (38, 16, 4), (40, 16, 4), (42, 16, 4), (44, 8, 2), (46, 10, 1),
  (51, 12, 8), (53, 8, 5), (55, 1, 7), (58, 12, 8), (60, 8, 5), (62, 1, 7), (65, 12, 8), (67, 8, 5), (69, 1, 7), (72, 12, 8), (74, 8, 5), (76, 1, 7), (79, 12, 8), (81, 8, 5), (83, 1, 7), (86, 12, 8), (88, 8, 5), (90, 1, 7), (93, 12, 8), (95, 8, 5), (97, 1, 7),
  (101, 401, 3), (104, 16, 4), (106, 400, 2), (108, 400, 1), (117, 5, 12), (119, 5, 1)]
theorem tbs_ok : ∀ p ∈ tbs, rq p.1 0 = p.1 + 1 ∧ al (p.1 + 1) = p.2.1 * p.2.2 ∧ p.2.1 < 1000 ∧ 1 ≤ p.2.2 ∧ p.2.2 < 20 := by decide +kernel
def Fx (m : Mem) : Prop := ∀ p ∈ tbs, m p.1 1 = nI p.2.1 ∧ m p.1 2 = nI p.2.2
section TABS
variable {N t most wide n r c : Nat} {m : Mem}
theorem tb_small {a b : Nat} (h1 : most < 1000) (h2 : wide < 20) (h3 : a < most) (h4 : b < wide) : a * wide + b < most * wide ∧ most * wide < 20000 := by
  have e1 : (a + 1) * wide ≤ most * wide := Nat.mul_le_mul_right _ h3
  have e2 : most * wide ≤ 1000 * wide := Nat.mul_le_mul_right _ (by omega)
  rw [Nat.succ_mul] at e1
  omega
theorem e_at (hF : Fx m) (hp : (t, most, wide) ∈ tbs) (hn : m t 3 = nI n) (hnm : n ≤ most) (hr : r < n) (hc : c < wide) : f_X9_at N t (nI r) (nI c) m = some (m (t + 1) (r * wide + c), m) := by
  obtain ⟨o1, o2, o3, o4, o5⟩ := tbs_ok _ hp
  obtain ⟨q1, q2⟩ := hF _ hp
  simp only at o1 o2 o3 o4 o5 q1 q2
  obtain ⟨s1, s2⟩ := tb_small o3 o5 (show r < most by omega) hc
  unfold f_X9_at
  rw [if_neg (nI_pos (by omega)), hn, if_neg (nI_ge hr (by omega)), if_neg (nI_pos (by omega)), q2, if_pos (nI_lt hc (by omega)), o1, o2, bnd_s, pk_mul, nI_add, if_neg (nI_pos (by omega)),
    show Int32.ofNat (most * wide) = nI (most * wide) from rfl, if_neg (nI_ge s1 (by omega)), inb_nI s1 (by omega), chk_t, nI_clamp (by omega)]
theorem e_atR (hn : m t 3 = nI n) {a b : Int32} (h : a < 0 ∨ nI n ≤ a) : f_X9_at N t a b m = some (mo1, m) := by
  unfold f_X9_at
  rcases h with h | h
  · rw [if_pos h]; rfl
  · by_cases q : a < 0
    · rw [if_pos q]; rfl
    · rw [if_neg q, hn, if_pos h]; rfl
theorem e_atC (hF : Fx m) (hp : (t, most, wide) ∈ tbs) {a b : Int32} (h : b < 0 ∨ nI wide ≤ b) : f_X9_at N t a b m = some (mo1, m) := by
  obtain ⟨q1, q2⟩ := hF _ hp
  simp only at q1 q2
  unfold f_X9_at
  split
  · rfl
  · split
    · rfl
    · rcases h with h | h
      · rw [if_pos h]; rfl
      · split
        · rfl
        · rw [q2, if_neg (Int32.not_lt.mpr h)]; rfl
theorem e_put {v : Int32} (hF : Fx m) (hp : (t, most, wide) ∈ tbs) (hn : m t 3 = nI n) (hnm : n ≤ most) (hr : r < n) (hc : c < wide) : f_X9_put N t (nI r) (nI c) v m = some (0, mset m (t + 1) (r * wide + c) v) := by
  obtain ⟨o1, o2, o3, o4, o5⟩ := tbs_ok _ hp
  obtain ⟨q1, q2⟩ := hF _ hp
  simp only at o1 o2 o3 o4 o5 q1 q2
  obtain ⟨s1, s2⟩ := tb_small o3 o5 (show r < most by omega) hc
  unfold f_X9_put
  rw [if_neg (nI_pos (by omega)), hn, if_neg (nI_ge hr (by omega)), if_neg (nI_pos (by omega)), q2, if_pos (nI_lt hc (by omega)), o1, o2, bnd_s, pk_mul, nI_add, if_neg (nI_pos (by omega)),
    show Int32.ofNat (most * wide) = nI (most * wide) from rfl, if_neg (nI_ge s1 (by omega)), inb_nI s1 (by omega), chk_t, nI_clamp (by omega), bnd_s]
theorem e_has (hF : Fx m) (hp : (t, most, wide) ∈ tbs) (hn : m t 3 = nI n) (hnm : n ≤ most) (a : Int32) : f_X9_has N t a m = some (b2i (inb a n), m) := by
  obtain ⟨o1, o2, o3, o4, o5⟩ := tbs_ok _ hp
  obtain ⟨q1, q2⟩ := hF _ hp
  simp only at o1 o2 o3 o4 o5 q1 q2
  unfold f_X9_has
  rcases inb_cases a (n := n) (by omega) with ⟨e, h | h⟩ | ⟨k, hk, rfl⟩
  · rw [e, if_pos h]; rfl
  · rw [e, hn]
    split
    · rfl
    · first | rfl | (rw [if_pos h]; rfl)
  · rw [if_neg (nI_pos (by omega)), hn, if_neg (nI_ge hk (by omega)), q1, if_neg (nI_ge (by omega) (by omega)), inb_nI hk (by omega)]; rfl
def rowv (a b c d : Int32) (i : Nat) : Int32 := if i = 0 then a else if i = 1 then b else if i = 2 then c else if i = 3 then d else 0
def mrow (m : Mem) (t p k : Nat) (a b c d : Int32) : Mem := fun x j => if x = t + 1 ∧ p ≤ j ∧ j < p + k then rowv a b c d (j - p) else m x j
def madd (m : Mem) (t wide n : Nat) (a b c d : Int32) : Mem := mset (mrow m t (n * wide) wide a b c d) t 3 (nI (n + 1))
theorem mrow_0 {p : Nat} {a b c d : Int32} : mrow m t p 0 a b c d = m := by
  funext x j
  unfold mrow
  rw [if_neg (by omega)]
theorem mrow_s {p k : Nat} {a b c d : Int32} : mset (mrow m t p k a b c d) (t + 1) (p + k) (rowv a b c d k) = mrow m t p (k + 1) a b c d := by
  funext x j
  unfold mset mrow
  by_cases h1 : x = t + 1
  · subst h1
    by_cases h2 : j = p + k
    · subst h2
      rw [if_pos ⟨rfl, rfl⟩, if_pos ⟨rfl, by omega, by omega⟩, Nat.add_sub_cancel_left]
    · rw [if_neg (by omega)]
      by_cases h3 : p ≤ j ∧ j < p + k
      · rw [if_pos ⟨rfl, h3⟩, if_pos ⟨rfl, by omega, by omega⟩]
      · rw [if_neg (by omega), if_neg (by omega)]
  · rw [if_neg (by omega), if_neg (by omega), if_neg (by omega)]
theorem mrow_o {p k x j : Nat} {a b c d : Int32} (h : x ≠ t + 1) : mrow m t p k a b c d x j = m x j := by
  unfold mrow
  rw [if_neg (by omega)]
theorem e_add {a b c d : Int32} (hN : 20000 ≤ N) (hF : Fx m) (hp : (t, most, wide) ∈ tbs) (hn : m t 3 = nI n) (hnm : n < most) : f_X9_add N t a b c d m = some (1, madd m t wide n a b c d) := by
  obtain ⟨o1, o2, o3, o4, o5⟩ := tbs_ok _ hp
  obtain ⟨q1, q2⟩ := hF _ hp
  simp only at o1 o2 o3 o4 o5 q1 q2
  obtain ⟨s1, s2⟩ := tb_small o3 o5 hnm (show 0 < wide by omega)
  have s3 : n * wide + wide ≤ most * wide := by
    have := Nat.mul_le_mul_right wide (show n + 1 ≤ most by omega)
    rw [Nat.succ_mul] at this
    exact this
  unfold f_X9_add
  rw [hn, q2, bnd_s, pk_mul, if_neg (nI_pos (by omega)), q1, if_neg (nI_ge hnm (by omega)), if_neg (nI_pos (by omega)), o1, o2,
    show Int32.ofNat (most * wide) = nI (most * wide) from rfl, pk_sub (by omega), if_pos (nI_le (by omega) (by omega))]
  refine Wp.toEq ?_
  refine wp_it1 (fun q a1 m' => ∃ i, i ≤ wide ∧ q = wide - i ∧ a1 = nI i ∧ m' = mrow m t (n * wide) i a b c d) ?_ N wide _ _ (by omega) ⟨0, by omega, rfl, rfl, mrow_0.symm⟩
  rintro q X a1 m' ⟨i, hi, rfl, rfl, rfl⟩ hX
  unfold f_X9_add_L54
  rw [mrow_o (by omega), q2, mrow_o (by omega), hn, o1, o2, show Int32.ofNat (most * wide) = nI (most * wide) from rfl]
  refine wp_ite (fun q => ?_) (fun q => ?_)
  · rw [nI_leI (by omega) (by omega)] at q
    have : i = wide := by omega
    subst this
    refine wp_bnd (wp_ret ⟨rfl, ?_⟩)
    rw [show (1 : Int32) = nI 1 from rfl, nI_add]
    rfl
  · rw [nI_leI (by omega) (by omega)] at q
    rw [nI_add, if_neg (nI_ge (by omega) (by omega)), inb_nI (show n * wide + i < most * wide by omega) (by omega), nI_clamp (by omega)]
    have key : ∀ v, v = rowv a b c d i → Wp (bnd (mset (mrow m t (n * wide) i a b c d) (t + 1) (n * wide + i) v) fun m_126 => X (nI i + 1) m_126) (fun v m' => v = 1 ∧ m' = madd m t wide n a b c d) := by
      rintro v rfl
      rw [bnd_s, mrow_s, nI_1]
      exact hX (wide - (i + 1)) _ _ (by omega) ⟨i + 1, by omega, rfl, rfl, rfl⟩
    simp only [chk_t]
    refine wp_ite (fun q0 => ?_) (fun q0 => ?_)
    · refine key _ ?_
      rw [show (0 : Int32) = nI 0 from rfl, nI_eq (by omega) (by omega)] at q0
      simp [rowv, q0]
    · rw [show (0 : Int32) = nI 0 from rfl, nI_eq (by omega) (by omega)] at q0
      refine wp_ite (fun q1 => ?_) (fun q1 => ?_)
      · refine key _ ?_
        rw [show (1 : Int32) = nI 1 from rfl, nI_eq (by omega) (by omega)] at q1
        simp [rowv, q1]
      · rw [show (1 : Int32) = nI 1 from rfl, nI_eq (by omega) (by omega)] at q1
        refine wp_ite (fun q2 => ?_) (fun q2 => ?_)
        · refine key _ ?_
          rw [show (2 : Int32) = nI 2 from rfl, nI_eq (by omega) (by omega)] at q2
          simp [rowv, q2]
        · rw [show (2 : Int32) = nI 2 from rfl, nI_eq (by omega) (by omega)] at q2
          refine wp_ite (fun q3 => ?_) (fun q3 => ?_)
          · refine key _ ?_
            rw [show (3 : Int32) = nI 3 from rfl, nI_eq (by omega) (by omega)] at q3
            simp [rowv, q3]
          · refine key _ ?_
            rw [show (3 : Int32) = nI 3 from rfl, nI_eq (by omega) (by omega)] at q3
            simp [rowv, q0, q1, q2, q3]
theorem e_addF {a b c d : Int32} (hF : Fx m) (hp : (t, most, wide) ∈ tbs) (hn : m t 3 = nI most) : f_X9_add N t a b c d m = some (0, m) := by
  obtain ⟨o1, o2, o3, o4, o5⟩ := tbs_ok _ hp
  obtain ⟨q1, q2⟩ := hF _ hp
  simp only at o1 o2 o3 o4 o5 q1 q2
  unfold f_X9_add
  rw [hn, q2, bnd_s, if_neg (nI_pos (by omega)), q1, if_pos (nI_le (by omega) (by omega))]
def tcp (m : Mem) (t s z : Nat) : Mem := mset (mcpy m (s + 1) (t + 1) 0 0 z) t 3 (m s 3)
theorem e_copy {s : Nat} (hp : (t, most, wide) ∈ tbs) (hs : (s, most, wide) ∈ tbs) (hne : s ≠ t + 1) : f_X9_copy N t s m = some (0, tcp m t s (most * wide)) := by
  obtain ⟨o1, o2, o3, o4, o5⟩ := tbs_ok _ hp
  obtain ⟨z1, z2, -, -, -⟩ := tbs_ok _ hs
  simp only at o1 o2 o3 o4 o5 z1 z2
  have e2 : most * wide ≤ 1000 * wide := Nat.mul_le_mul_right _ (by omega)
  unfold f_X9_copy
  rw [z1, o1, z2, o2, if_pos rfl, show Int32.ofNat (most * wide) = nI (most * wide) from rfl]
  have hc : cpyOk 0 0 (nI (most * wide)) (most * wide) (most * wide) = true := by
    unfold cpyOk
    rw [nI_clamp (by omega), show (0 : Int32).toNatClampNeg = 0 from rfl]
    simp only [Bool.and_eq_true, decide_eq_true_eq]
    exact ⟨⟨⟨⟨by decide, by decide⟩, nI_pos' (by omega)⟩, by omega⟩, by omega⟩
  rw [hc, chk_t, nI_clamp (by omega), show (0 : Int32).toNatClampNeg = 0 from rfl, bnd_s, bnd_s]
  have : mcpy m (s + 1) (t + 1) 0 0 (most * wide) s 3 = m s 3 := by
    unfold mcpy
    rw [if_neg hne]
  rw [this]
  rfl
theorem tcp_in {s z j : Nat} (h : j < z) (ht : t ≠ t + 1) : tcp m t s z (t + 1) j = m (s + 1) j := by
  unfold tcp
  rw [mset_k (by omega)]
  unfold mcpy
  rw [if_pos rfl, pk_cpy_in (by omega) (by omega)]
  congr 1
  omega
theorem tcp_n {s z : Nat} : tcp m t s z t 3 = m s 3 := mset_at _ _ _ _
theorem tcp_o {s z x : Nat} (h1 : x ≠ t) (h2 : x ≠ t + 1) : tcp m t s z x = m x := by
  unfold tcp
  rw [mset_ne h1]
  funext j
  unfold mcpy
  rw [if_neg h2]
end TABS
theorem tbs_lo : ∀ p ∈ tbs, p.1 < 121 ∧ ∀ q ∈ tbs, q.1 + 1 ≠ p.1 := by decide +kernel
section FX
variable {m m1 : Mem}
theorem Fx.of (h : Fx m) (hq : ∀ p ∈ tbs, ∀ j, j = 1 ∨ j = 2 → m1 p.1 j = m p.1 j) : Fx m1 := fun p hp => by
  rw [hq p hp 1 (Or.inl rfl), hq p hp 2 (Or.inr rfl)]
  exact h p hp
theorem Fx.set (h : Fx m) {k j : Nat} {v : Int32} (hk : (tbs.all (fun p => decide (p.1 ≠ k)) || decide (j ≠ 1 ∧ j ≠ 2)) = true) : Fx (mset m k j v) := by
  refine h.of (fun p hp i hi => ?_)
  simp only [Bool.or_eq_true, List.all_eq_true, decide_eq_true_eq] at hk
  rcases hk with hk | hk
  · exact mset_k (hk p hp)
  · exact mset_j (by omega)
theorem Fx.cell (h : Fx m) {t most wide j : Nat} {v : Int32} (hp : (t, most, wide) ∈ tbs) : Fx (mset m (t + 1) j v) := by
  refine h.of (fun p hq i hi => ?_)
  have := (tbs_lo p hq).2 _ hp
  exact mset_k (fun q => this q.symm)
theorem Fx.add (h : Fx m) {t most wide n : Nat} {a b c d : Int32} (hp : (t, most, wide) ∈ tbs) : Fx (madd m t wide n a b c d) := by
  refine h.of (fun p hq i hi => ?_)
  have := (tbs_lo p hq).2 _ hp
  unfold madd
  rw [mset_j (by omega), mrow_o (fun q => this q.symm)]
theorem Fx.cp (h : Fx m) {t s most wide z : Nat} (hp : (t, most, wide) ∈ tbs) : Fx (tcp m t s z) := by
  refine h.of (fun p hq i hi => ?_)
  have h2 := (tbs_lo p hq).2 _ hp
  unfold tcp
  rw [mset_j (by omega)]
  unfold mcpy
  rw [if_neg (fun q => h2 q.symm)]
theorem Fx.out (h : Fx m) {k j : Nat} {v : Int32} (hk : tbs.all (fun p => decide (p.1 ≠ k)) = true) : Fx (mset m k j v) := h.set (by rw [hk]; rfl)
theorem Fx.fr (h : Fx m) {S : List (Nat × Nat)} (hf : Fr S m m1) (hS : tbs.all (fun q => S.all (fun p => decide (q.1 < p.1) || decide (p.2 < q.1))) = true) : Fx m1 :=
  h.of (fun p hp j _ => by rw [hf.at p.1 (List.all_eq_true.mp hS p hp)])
end FX
