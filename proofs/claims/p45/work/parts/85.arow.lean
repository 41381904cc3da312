/-! a row of the other texts as the reference reads it -/
def NF (p : Nat → Prop) (m m' : Mem) : Prop := (∀ x, x ≠ 123 → x ≠ 130 → m' x = m x) ∧ (∀ i, i < 17 ∨ 22 < i → m' 123 i = m 123 i) ∧ ∀ i, ¬ p i → m' 130 i = m 130 i
def BF (B : Nat → Nat) (n e j : Nat) (m' : Mem) : Prop := (0 < e ∧ e < 4) ∧ m' 123 21 = nI e ∧ m' 123 22 = nI (psT B n j)
section AROW
variable {N : Nat} {m m1 m' m2 : Mem} {B : Nat → Nat} {n M j k k0 r : Nat} {a b lo hi hH hD : Int32} {p q : Nat → Prop} {K : Nat → Nat} {V : Nat → Int32} {s : Rws}
theorem NF.rf : NF p m m := ⟨fun _ _ _ => rfl, fun _ _ => rfl, fun _ _ => rfl⟩
theorem NF.trans (h : NF p m m1) (h2 : NF p m1 m2) : NF p m m2 := ⟨fun x x1 x2 => by rw [h2.1 x x1 x2, h.1 x x1 x2], fun i hi => by rw [h2.2.1 i hi, h.2.1 i hi], fun i hi => by rw [h2.2.2 i hi, h.2.2 i hi]⟩
theorem NF.mono (h : NF p m m1) (hq : ∀ i, p i → q i) : NF q m m1 := ⟨h.1, h.2.1, fun i hi => h.2.2 i (fun z => hi (hq i z))⟩
theorem Lk.nf (h : Lk m m1) : NF p m m1 := ⟨fun x x1 _ => h.1 x x1, fun i hi => h.2 i (by omega), fun i _ => by rw [h.1 130 (by decide)]⟩
theorem woR_f {w : Nat} (h : s.1 ≠ 0) : woR K w s = s := if_pos h
theorem nu1_f (h : s.1 ≠ 0) : nu1 K V lo hi s = s := if_pos h
theorem nu2_f {al : Bool} (h : s.1 ≠ 0) : nu2 K V al lo hi s = s := if_pos h
theorem RT.isK {t d : Nat} (h : RT B n k j m) (hk : k < 4) (hd : trK k (tkK B n j) = t ↔ tkK B n j = d) (ht : t < 400) : m 123 18 = nI t ↔ tkK B n j = d := by
  have := trK_lt k hk _ h.c
  rw [h.2.1, nI_eq (by omega) (by omega)]
  exact hd
theorem w_wo {t w : Nat} (hN : 20000 ≤ N) (hk : k < 4) (h : RT B n k j m) (hd : trK k (tkK B n j) = t ↔ tkK B n j = w) (ht : t < 400) (a b : Int32) :
    Wp (f_X12_need N (nI t) m) (fun v m' => (v = nI 1 ∧ woR (tkK B n) w (0, j, a, b) = (0, j + 1, a, b) ∧ RT B n k (j + 1) m' ∧ Lk m m') ∨ (v = nI 0 ∧ woR (tkK B n) w (0, j, a, b) = (1, j, a, b) ∧ BF B n 1 j m' ∧ NF (fun _ => False) m m')) := by
  have i1 := h.isK hk hd ht
  unfold f_X12_need
  simp only [li_0, li_1, li_2, li_3, li_4, li_5, li_6, li_7, li_8, li_9, li_10, li_11, li_12, li_13, li_14, li_15, li_16, li_17, li_18, li_19, li_20, li_21, li_22, li_23, li_24, li_25, li_26, li_27, li_28, li_29, li_30, li_31, li_32, li_37, li_38, li_39, li_40, li_41, li_42, li_43, li_44, li_45, li_46, li_47, li_48, li_49, li_50, li_57, li_59, li_60, li_61, li_62, li_63, li_64, li_65, li_69, li_81, li_89, li_90, li_92, li_97, li_99, li_100, li_101, li_103, li_104, li_105, li_106, li_108, li_111, li_112, li_113, li_114, li_115, li_116, li_117, li_119, li_122, li_123, li_124, li_125, li_126, li_127, li_128, li_129, li_130, li_131, li_132, li_133, li_134, li_135, li_136, li_137, li_140, li_141, li_142, li_143, li_145, li_147, li_150, li_153, li_159, li_160, li_161, li_162, li_185, li_197, li_213, li_222, li_223, li_255, li_256, li_257, li_258, li_259, li_260, li_261, li_262, li_263, li_264, li_271, li_272, li_273, li_274, li_275, li_276, li_277, li_278, li_300, li_400, li_420, li_500, li_802, li_820, li_823, li_839, li_855, li_871, li_887, li_999, li_1000, li_1001, li_1002, li_1003, li_1004, li_1005, li_1006, li_1007, li_1008, li_1009, li_1010, li_1011, li_1012, li_1013, li_1014, li_1015, li_1016, li_1017, li_1018, li_1019, li_1020, li_1021, li_1022, li_1023, li_1707, li_4096, li_9999, li_65536, li_100000, li_1000000, li_1664525, li_100000000, li_252645135, li_858993459, li_1000000007, li_1013904223, li_1431655765, li_m1]
  by_cases q : tkK B n j = w
  · rw [if_pos (i1.mpr q)]
    refine wp_bind (h.nx hN (by omega)) ?_
    rintro _ m3 ⟨n1, n2⟩
    refine wp_ret (Or.inl ⟨rfl, ?_, n1, n2⟩)
    unfold woR
    rw [if_neg (by simp), if_pos q]
  · rw [if_neg (fun z => q (i1.mp z))]
    obtain ⟨m3, l1, l2, l3, l4, l5, l6⟩ := w_bad (N := N) h 1
    rw [l1, bd_s, show isB (nI 0) = true from rfl, chk_t]
    refine wp_ret (Or.inr ⟨rfl, ?_, ⟨by decide, l2, l3⟩, fun x x1 _ => l6 x x1, fun i hi => l5 i (by omega) (by omega), fun i _ => by rw [l6 130 (by decide)]⟩)
    unfold woR
    rw [if_neg (by simp), if_neg q]
theorem w_nuR {p0 : Nat} (hN : 20000 ≤ N) (hk : k < 4) (h : RT B n k j m) (hp : p0 < 48) :
    Wp (f_X12_number N (nI p0) lo hi m) (fun v m' => (v = nI 1 ∧ (tkK B n j = 1 ∧ lo ≤ tkV B n j ∧ tkV B n j ≤ hi) ∧ RT B n k (j + 1) m' ∧ m' 130 p0 = tkV B n j ∧ NF (fun i => i = p0) m m') ∨
      (v = nI 0 ∧ ∃ e, ((tkK B n j ≠ 1 ∧ e = 1) ∨ (tkK B n j = 1 ∧ ¬ (lo ≤ tkV B n j ∧ tkV B n j ≤ hi) ∧ e = 2)) ∧ BF B n e j m' ∧ NF (fun _ => False) m m')) := by
  have t2 : trK k (tkK B n j) = 2 ↔ tkK B n j = 1 := by
    have : ∀ k, k < 4 → ∀ c, c < 279 → (trK k c = 2 ↔ c = 1) := by decide +kernel
    exact this k hk _ h.c
  have i1 := h.isK hk t2 (by decide)
  unfold f_X12_number
  simp only [li_0, li_1, li_2, li_3, li_4, li_5, li_6, li_7, li_8, li_9, li_10, li_11, li_12, li_13, li_14, li_15, li_16, li_17, li_18, li_19, li_20, li_21, li_22, li_23, li_24, li_25, li_26, li_27, li_28, li_29, li_30, li_31, li_32, li_37, li_38, li_39, li_40, li_41, li_42, li_43, li_44, li_45, li_46, li_47, li_48, li_49, li_50, li_57, li_59, li_60, li_61, li_62, li_63, li_64, li_65, li_69, li_81, li_89, li_90, li_92, li_97, li_99, li_100, li_101, li_103, li_104, li_105, li_106, li_108, li_111, li_112, li_113, li_114, li_115, li_116, li_117, li_119, li_122, li_123, li_124, li_125, li_126, li_127, li_128, li_129, li_130, li_131, li_132, li_133, li_134, li_135, li_136, li_137, li_140, li_141, li_142, li_143, li_145, li_147, li_150, li_153, li_159, li_160, li_161, li_162, li_185, li_197, li_213, li_222, li_223, li_255, li_256, li_257, li_258, li_259, li_260, li_261, li_262, li_263, li_264, li_271, li_272, li_273, li_274, li_275, li_276, li_277, li_278, li_300, li_400, li_420, li_500, li_802, li_820, li_823, li_839, li_855, li_871, li_887, li_999, li_1000, li_1001, li_1002, li_1003, li_1004, li_1005, li_1006, li_1007, li_1008, li_1009, li_1010, li_1011, li_1012, li_1013, li_1014, li_1015, li_1016, li_1017, li_1018, li_1019, li_1020, li_1021, li_1022, li_1023, li_1707, li_4096, li_9999, li_65536, li_100000, li_1000000, li_1664525, li_100000000, li_252645135, li_858993459, li_1000000007, li_1013904223, li_1431655765, li_m1]
  have bad : ∀ e, ((tkK B n j ≠ 1 ∧ e = 1) ∨ (tkK B n j = 1 ∧ ¬ (lo ≤ tkV B n j ∧ tkV B n j ≤ hi) ∧ e = 2)) → Wp (bd (f_X12_bad N (nI e) m) fun r_28 m_28 => chk (isB r_28) (some (r_28, m_28))) (fun v m' => (v = nI 1 ∧ (tkK B n j = 1 ∧ lo ≤ tkV B n j ∧ tkV B n j ≤ hi) ∧ RT B n k (j + 1) m' ∧ m' 130 p0 = tkV B n j ∧ NF (fun i => i = p0) m m') ∨
      (v = nI 0 ∧ ∃ e, ((tkK B n j ≠ 1 ∧ e = 1) ∨ (tkK B n j = 1 ∧ ¬ (lo ≤ tkV B n j ∧ tkV B n j ≤ hi) ∧ e = 2)) ∧ BF B n e j m' ∧ NF (fun _ => False) m m')) := by
    intro e he
    obtain ⟨m3, l1, l2, l3, l4, l5, l6⟩ := w_bad (N := N) h e
    rw [l1, bd_s, show isB (nI 0) = true from rfl, chk_t]
    exact wp_ret (Or.inr ⟨rfl, e, he, ⟨by omega, l2, l3⟩, fun x x1 _ => l6 x x1, fun i hi => l5 i (by omega) (by omega), fun i _ => by rw [l6 130 (by decide)]⟩)
  by_cases q : tkK B n j = 1
  · rw [if_pos (i1.mpr q), h.2.2.2.2 q, e_isIn, bd_s, if_b2i]
    by_cases q2 : lo ≤ tkV B n j ∧ tkV B n j ≤ hi
    · rw [decide_eq_true q2, if_pos rfl, inb_nI hp (by omega), chk_t, nI_clamp (by omega), h.2.2.2.2 q, bnd_s]
      have h1 : RT B n k j (mset m 130 p0 (tkV B n j)) := h.lk (fun x x1 x2 x3 x4 => mset_ne x4) (fun i hi => mset_k (by decide))
      refine wp_bind (h1.nx hN (by omega)) ?_
      rintro _ m3 ⟨n1, n2⟩
      refine wp_ret (Or.inl ⟨rfl, ⟨q, q2⟩, n1, ?_, fun x x1 x2 => ?_, fun i hi => ?_, fun i hi => ?_⟩)
      · rw [n2.1 130 (by decide), mset_at]
      · rw [n2.1 x x1, mset_ne x2]
      · rw [n2.2 i (by omega), mset_k (by decide)]
      · rw [n2.1 130 (by decide), mset_j hi]
    · rw [decide_eq_false q2, if_neg (by decide)]
      exact bad 2 (Or.inr ⟨q, q2, rfl⟩)
  · rw [if_neg (fun z => q (i1.mp z))]
    exact bad 1 (Or.inl ⟨q, rfl⟩)
theorem nu1_y (h : K j = 1 ∧ lo ≤ V j ∧ V j ≤ hi) : nu1 K V lo hi (0, j, a, b) = (0, j + 1, V j, b) := by
  unfold nu1
  rw [if_neg (by simp), if_pos h.1, if_pos h.2]
theorem nu1_n {e : Nat} (h : (K j ≠ 1 ∧ e = 1) ∨ (K j = 1 ∧ ¬ (lo ≤ V j ∧ V j ≤ hi) ∧ e = 2)) : nu1 K V lo hi (0, j, a, b) = (e, j, a, b) := by
  unfold nu1
  rw [if_neg (by simp)]
  rcases h with ⟨h1, rfl⟩ | ⟨h1, h2, rfl⟩
  · rw [if_neg h1]
  · rw [if_pos h1, if_neg h2]
theorem nu2_y {al : Bool} (h : K j = 1 ∧ lo ≤ V j ∧ V j ≤ hi) (ha : al = true → a ≠ V j) : nu2 K V al lo hi (0, j, a, b) = (0, j + 1, a, V j) := by
  unfold nu2
  rw [if_neg (by simp), if_pos h.1, if_pos ⟨h.2, fun z => ha z.1 z.2⟩]
theorem nu2_n {al : Bool} {e : Nat} (h : (K j ≠ 1 ∧ e = 1) ∨ (K j = 1 ∧ ¬ (lo ≤ V j ∧ V j ≤ hi) ∧ e = 2)) : nu2 K V al lo hi (0, j, a, b) = (e, j, a, b) := by
  unfold nu2
  rw [if_neg (by simp)]
  rcases h with ⟨h1, rfl⟩ | ⟨h1, h2, rfl⟩
  · rw [if_neg h1]
  · rw [if_pos h1, if_neg (fun z => h2 z.1)]
theorem nu2_a (h : K j = 1) (ha : a = V j) : nu2 K V true lo hi (0, j, a, b) = (2, j, a, b) := by
  unfold nu2
  rw [if_neg (by simp), if_pos h, if_neg (fun z => z.2 ⟨rfl, ha⟩)]
/-- a word, and a number -/
theorem w_told {t w p0 : Nat} (hN : 20000 ≤ N) (hk : k < 4) (h : RT B n k j m) (hd : trK k (tkK B n j) = t ↔ tkK B n j = w) (ht : t < 400) (hp : p0 < 48) (a b : Int32) :
    Wp (f_X12_told N (nI p0) (nI t) lo hi m) (fun v m' => (v = nI 1 ∧ woR (tkK B n) w (0, j, a, b) = (0, j + 1, a, b) ∧ (tkK B n (j + 1) = 1 ∧ lo ≤ tkV B n (j + 1) ∧ tkV B n (j + 1) ≤ hi) ∧ RT B n k (j + 1 + 1) m' ∧ m' 130 p0 = tkV B n (j + 1) ∧ NF (fun i => i = p0) m m') ∨
      (v = nI 0 ∧ ∃ e j', ((woR (tkK B n) w (0, j, a, b) = (1, j, a, b) ∧ e = 1 ∧ j' = j) ∨ (woR (tkK B n) w (0, j, a, b) = (0, j + 1, a, b) ∧ ((tkK B n (j + 1) ≠ 1 ∧ e = 1) ∨ (tkK B n (j + 1) = 1 ∧ ¬ (lo ≤ tkV B n (j + 1) ∧ tkV B n (j + 1) ≤ hi) ∧ e = 2)) ∧ j' = j + 1)) ∧ BF B n e j' m' ∧ NF (fun _ => False) m m')) := by
  unfold f_X12_told
  simp only [li_0, li_1, li_2, li_3, li_4, li_5, li_6, li_7, li_8, li_9, li_10, li_11, li_12, li_13, li_14, li_15, li_16, li_17, li_18, li_19, li_20, li_21, li_22, li_23, li_24, li_25, li_26, li_27, li_28, li_29, li_30, li_31, li_32, li_37, li_38, li_39, li_40, li_41, li_42, li_43, li_44, li_45, li_46, li_47, li_48, li_49, li_50, li_57, li_59, li_60, li_61, li_62, li_63, li_64, li_65, li_69, li_81, li_89, li_90, li_92, li_97, li_99, li_100, li_101, li_103, li_104, li_105, li_106, li_108, li_111, li_112, li_113, li_114, li_115, li_116, li_117, li_119, li_122, li_123, li_124, li_125, li_126, li_127, li_128, li_129, li_130, li_131, li_132, li_133, li_134, li_135, li_136, li_137, li_140, li_141, li_142, li_143, li_145, li_147, li_150, li_153, li_159, li_160, li_161, li_162, li_185, li_197, li_213, li_222, li_223, li_255, li_256, li_257, li_258, li_259, li_260, li_261, li_262, li_263, li_264, li_271, li_272, li_273, li_274, li_275, li_276, li_277, li_278, li_300, li_400, li_420, li_500, li_802, li_820, li_823, li_839, li_855, li_871, li_887, li_999, li_1000, li_1001, li_1002, li_1003, li_1004, li_1005, li_1006, li_1007, li_1008, li_1009, li_1010, li_1011, li_1012, li_1013, li_1014, li_1015, li_1016, li_1017, li_1018, li_1019, li_1020, li_1021, li_1022, li_1023, li_1707, li_4096, li_9999, li_65536, li_100000, li_1000000, li_1664525, li_100000000, li_252645135, li_858993459, li_1000000007, li_1013904223, li_1431655765, li_m1]
  refine wp_bind (w_wo hN hk h hd ht a b) ?_
  rintro v m1 (⟨rfl, b1, b2, b3⟩ | ⟨rfl, b1, b2, b3⟩)
  · rw [if_neg (by decide)]
    refine wp_bind (w_nuR hN hk b2 hp) ?_
    rintro v m2 (⟨rfl, c1, c2, c3, c4⟩ | ⟨rfl, e, c1, c2, c3⟩)
    · rw [if_neg (by decide)]
      exact wp_ret (Or.inl ⟨rfl, b1, c1, c2, c3, b3.nf.trans c4⟩)
    · rw [if_pos rfl]
      exact wp_ret (Or.inr ⟨rfl, e, j + 1, Or.inr ⟨b1, c1, rfl⟩, c2, b3.nf.trans c3⟩)
  · rw [if_pos rfl]
    exact wp_ret (Or.inr ⟨rfl, 1, j, Or.inl ⟨b1, rfl, rfl⟩, b2, b3⟩)
theorem woNu {w e j' : Nat} {al : Bool} (h : (woR K w (0, j, a, b) = (1, j, a, b) ∧ e = 1 ∧ j' = j) ∨ (woR K w (0, j, a, b) = (0, j + 1, a, b) ∧ ((K (j + 1) ≠ 1 ∧ e = 1) ∨ (K (j + 1) = 1 ∧ ¬ (lo ≤ V (j + 1) ∧ V (j + 1) ≤ hi) ∧ e = 2)) ∧ j' = j + 1)) : nu2 K V al lo hi (woR K w (0, j, a, b)) = (e, j', a, b) := by
  rcases h with ⟨h1, rfl, rfl⟩ | ⟨h1, h2, rfl⟩
  · rw [h1, nu2_f (by simp)]
  · rw [h1, nu2_n h2]
/-- the end of a row -/
def rowOk (B : Nat → Nat) (n k r k0 : Nat) (m : Mem) (s : Rws) (v : Int32) (m' : Mem) : Prop :=
  (v = nI 1 ∧ s.1 = 0 ∧ RT B n k s.2.1 m' ∧ (if k = 1 then m' 130 (3 * r) = nI (trK 1 k0) ∧ m' 130 (3 * r + 1) = s.2.2.1 ∧ m' 130 (3 * r + 2) = s.2.2.2 else m' 130 (2 * r) = s.2.2.1 ∧ m' 130 (2 * r + 1) = s.2.2.2) ∧ NF (fun i => (if k = 1 then 3 * r else 2 * r) ≤ i) m m') ∨
  (v = nI 0 ∧ BF B n s.1 s.2.1 m' ∧ NF (fun i => (if k = 1 then 3 * r else 2 * r) ≤ i) m m')
theorem trK_r : ∀ c, c < 279 → (trK 1 c = 11 ↔ c = 273) ∧ (trK 1 c = 159 ↔ c = 59) ∧ (trK 2 c = 12 ↔ c = 277) ∧ (trK 2 c = 13 ↔ c = 278) ∧ (trK 2 c = 159 ↔ c = 59) ∧ (trK 3 c = 14 ↔ c = 263) := by decide +kernel
theorem trK_s : ∀ c, c < 279 → (trK 3 c = 15 ↔ c = 271) ∧ (trK 3 c = 159 ↔ c = 59) ∧ (trK 3 c = 2 ↔ c = 1) := by decide +kernel
/-- what follows when a row's numbers are read: its sign -/
theorem w_sign {x : Ans} {cells : Mem → Prop} (hN : 20000 ≤ N) (hk : k = 1 ∨ k = 2 ∨ k = 3) (hc : ∀ m1 m2, Lk m1 m2 → cells m1 → cells m2)
    (hcs : cells = fun m' => (if k = 1 then m' 130 (3 * r) = nI (trK 1 k0) ∧ m' 130 (3 * r + 1) = s.2.2.1 ∧ m' 130 (3 * r + 2) = s.2.2.2 else m' 130 (2 * r) = s.2.2.1 ∧ m' 130 (2 * r + 1) = s.2.2.2))
    (hx : Wp x (fun v m' => (v = nI 1 ∧ s.1 = 0 ∧ RT B n k s.2.1 m' ∧ cells m' ∧ NF (fun i => (if k = 1 then 3 * r else 2 * r) ≤ i) m m') ∨ (v = nI 0 ∧ BF B n s.1 s.2.1 m' ∧ NF (fun i => (if k = 1 then 3 * r else 2 * r) ≤ i) m m'))) :
    Wp (bd x fun r_9 m_9 => if r_9 = nI 0 then some (nI 0, m_9) else bd (f_X12_need N (nI 159) m_9) fun r_47 m_47 => if r_47 = nI 0 then some (nI 0, m_47) else some (nI 1, m_47)) (rowOk B n k r k0 m (woR (tkK B n) 59 s)) := by
  have hkk : k < 4 := by omega
  refine wp_bind hx ?_
  rintro v m1 (⟨rfl, a1, a2, a3, a4⟩ | ⟨rfl, a1, a2⟩)
  · rw [if_neg (by decide)]
    obtain ⟨f, j, a, b⟩ := s
    have a1 : f = 0 := a1
    subst a1
    have t59 : trK k (tkK B n j) = 159 ↔ tkK B n j = 59 := by
      have h1 := trK_r _ a2.c
      have h2 := trK_s _ a2.c
      rcases hk with rfl | rfl | rfl
      · exact h1.2.1
      · exact h1.2.2.2.2.1
      · exact h2.2.1
    refine wp_bind (w_wo hN hkk a2 t59 (by decide) a b) ?_
    rintro v m2 (⟨rfl, b1, b2, b3⟩ | ⟨rfl, b1, b2, b3⟩)
    · rw [if_neg (by decide)]
      refine wp_ret ?_
      rw [b1]
      have := hc m1 m2 b3 a3
      rw [hcs] at this
      exact Or.inl ⟨rfl, rfl, b2, this, a4.trans b3.nf⟩
    · rw [if_pos rfl]
      refine wp_ret ?_
      rw [b1]
      exact Or.inr ⟨rfl, b2, a4.trans (b3.mono (fun i z => z.elim))⟩
  · rw [if_pos rfl]
    refine wp_ret ?_
    rw [woR_f (by have := a1.1; omega)]
    exact Or.inr ⟨rfl, a1, a2⟩
theorem w_aRule (hN : 20000 ≤ N) (h : RT B n 1 j m) (hb : bgn 1 (tkK B n j) = true) (h15 : m 123 15 = nI r) (hr : r < 16) (hH1 : m 124 37 - nI 1 = hH) :
    ∃ s, woR (tkK B n) 59 s = rowS (tkK B n) (tkV B n) hH hD 1 (tkK B n j) (0, j + 1, nI 0, nI 0) ∧
    Wp (f_X12_aRule N m) (fun v m' => (v = nI 1 ∧ s.1 = 0 ∧ RT B n 1 s.2.1 m' ∧ (m' 130 (3 * r) = nI (trK 1 (tkK B n j)) ∧ m' 130 (3 * r + 1) = s.2.2.1 ∧ m' 130 (3 * r + 2) = s.2.2.2) ∧ NF (fun i => 3 * r ≤ i) m m') ∨ (v = nI 0 ∧ BF B n s.1 s.2.1 m' ∧ NF (fun i => 3 * r ≤ i) m m')) := by
  have hk0 : tkK B n j = 264 ∨ tkK B n j = 274 ∨ tkK B n j = 275 ∨ tkK B n j = 276 := by
    have : tkK B n j = 264 ∨ (274 ≤ tkK B n j ∧ tkK B n j ≤ 276) := of_decide_eq_true hb
    omega
  -- what stands before the first number
  have pre : ∀ (Q : Int32 → Mem → Prop), (∀ m1, RT B n 1 (j + 1) m1 → m1 130 (3 * r) = nI (trK 1 (tkK B n j)) → m1 130 (3 * r + 2) = nI 0 → NF (fun i => 3 * r ≤ i) m m1 →
      Wp (swt (Int32.toInt (nI (trK 1 (tkK B n j))) - (7)) [(bd (f_X12_number N (nI (3 * r + 1)) (nI 1) (nI 99) m1) fun r_67 m_67 => if r_67 = nI 0 then (some (nI 0, m_67)) else (bd (f_X12_told N (nI (3 * r + 2)) (nI 11) (nI 0) (nI 9999) m_67) fun r_83 m_83 => if r_83 = nI 0 then (some (nI 0, m_83)) else (some (nI 1, m_83)))),
        (bd (f_X12_number N (nI (3 * r + 1)) (nI 0) (nI 20) m1) fun r_102 m_102 => chk (isB r_102) (some (r_102, m_102))), (bd (f_X12_number N (nI (3 * r + 1)) (nI 0) ((m1 124 37) - nI 1) m1) fun r_120 m_120 => chk (isB r_120) (some (r_120, m_120)))]
        (bd (f_X12_number N (nI (3 * r + 1)) (nI 1) (nI 9999) m1) fun r_132 m_132 => chk (isB r_132) (some (r_132, m_132)))) Q) → Wp (f_X12_aRule N m) Q := by
    intro Q hQ
    unfold f_X12_aRule
    simp only [li_0, li_1, li_2, li_3, li_4, li_5, li_6, li_7, li_8, li_9, li_10, li_11, li_12, li_13, li_14, li_15, li_16, li_17, li_18, li_19, li_20, li_21, li_22, li_23, li_24, li_25, li_26, li_27, li_28, li_29, li_30, li_31, li_32, li_37, li_38, li_39, li_40, li_41, li_42, li_43, li_44, li_45, li_46, li_47, li_48, li_49, li_50, li_57, li_59, li_60, li_61, li_62, li_63, li_64, li_65, li_69, li_81, li_89, li_90, li_92, li_97, li_99, li_100, li_101, li_103, li_104, li_105, li_106, li_108, li_111, li_112, li_113, li_114, li_115, li_116, li_117, li_119, li_122, li_123, li_124, li_125, li_126, li_127, li_128, li_129, li_130, li_131, li_132, li_133, li_134, li_135, li_136, li_137, li_140, li_141, li_142, li_143, li_145, li_147, li_150, li_153, li_159, li_160, li_161, li_162, li_185, li_197, li_213, li_222, li_223, li_255, li_256, li_257, li_258, li_259, li_260, li_261, li_262, li_263, li_264, li_271, li_272, li_273, li_274, li_275, li_276, li_277, li_278, li_300, li_400, li_420, li_500, li_802, li_820, li_823, li_839, li_855, li_871, li_887, li_999, li_1000, li_1001, li_1002, li_1003, li_1004, li_1005, li_1006, li_1007, li_1008, li_1009, li_1010, li_1011, li_1012, li_1013, li_1014, li_1015, li_1016, li_1017, li_1018, li_1019, li_1020, li_1021, li_1022, li_1023, li_1707, li_4096, li_9999, li_65536, li_100000, li_1000000, li_1664525, li_100000000, li_252645135, li_858993459, li_1000000007, li_1013904223, li_1431655765, li_m1]
    rw [h15, pk_mul, bnd_s, bnd_s, inb_nI (by omega) (by omega), chk_t, nI_clamp (by omega), bnd_s, show nI (3 * r) + nI 2 = nI (3 * r + 2) from nI_add _ _, inb_nI (by omega) (by omega), chk_t, nI_clamp (by omega), bnd_s, h.2.1, show nI (3 * r) + nI 1 = nI (3 * r + 1) from nI_add _ _]
    have r1 : RT B n 1 j (mset (mset m 130 (3 * r) (nI (trK 1 (tkK B n j)))) 130 (3 * r + 2) (nI 0)) := h.lk (fun x x1 x2 x3 x4 => by rw [mset_ne x4, mset_ne x4]) (fun i hi => by rw [mset_k (by decide), mset_k (by decide)])
    refine wp_bind (r1.nx hN (by decide)) ?_
    rintro _ m3 ⟨n1, n2⟩
    refine hQ m3 n1 ?_ ?_ ⟨fun x x1 x2 => ?_, fun i hi => ?_, fun i hi => ?_⟩
    · rw [n2.1 130 (by decide), mset_j (by omega), mset_at]
    · rw [n2.1 130 (by decide), mset_at]
    · rw [n2.1 x x1, mset_ne x2, mset_ne x2]
    · rw [n2.2 i (by omega), mset_k (by decide), mset_k (by decide)]
    · rw [n2.1 130 (by decide), mset_j (by omega), mset_j (by omega)]
  -- a row of one number
  have one : ∀ (lo hi : Int32) (m1 : Mem), RT B n 1 (j + 1) m1 → m1 130 (3 * r) = nI (trK 1 (tkK B n j)) → m1 130 (3 * r + 2) = nI 0 → NF (fun i => 3 * r ≤ i) m m1 →
      Wp (bd (f_X12_number N (nI (3 * r + 1)) lo hi m1) fun r_102 m_102 => chk (isB r_102) (some (r_102, m_102))) (fun v m' => (v = nI 1 ∧ (nu1 (tkK B n) (tkV B n) lo hi (0, j + 1, nI 0, nI 0)).1 = 0 ∧ RT B n 1 (nu1 (tkK B n) (tkV B n) lo hi (0, j + 1, nI 0, nI 0)).2.1 m' ∧ (m' 130 (3 * r) = nI (trK 1 (tkK B n j)) ∧ m' 130 (3 * r + 1) = (nu1 (tkK B n) (tkV B n) lo hi (0, j + 1, nI 0, nI 0)).2.2.1 ∧ m' 130 (3 * r + 2) = (nu1 (tkK B n) (tkV B n) lo hi (0, j + 1, nI 0, nI 0)).2.2.2) ∧ NF (fun i => 3 * r ≤ i) m m') ∨ (v = nI 0 ∧ BF B n (nu1 (tkK B n) (tkV B n) lo hi (0, j + 1, nI 0, nI 0)).1 (nu1 (tkK B n) (tkV B n) lo hi (0, j + 1, nI 0, nI 0)).2.1 m' ∧ NF (fun i => 3 * r ≤ i) m m')) := by
    intro lo hi m1 r1 c0 c2 f1
    refine wp_bind (w_nuR hN (by decide) r1 (by omega)) ?_
    rintro v m2 (⟨rfl, a1, a2, a3, a4⟩ | ⟨rfl, e, a1, a2, a3⟩)
    · rw [show isB (nI 1) = true from rfl, chk_t, nu1_y a1]
      exact wp_ret (Or.inl ⟨rfl, rfl, a2, ⟨by rw [a4.2.2 _ (by omega)]; exact c0, a3, by rw [a4.2.2 _ (by omega)]; exact c2⟩, f1.trans (a4.mono (fun i z => by omega))⟩)
    · rw [show isB (nI 0) = true from rfl, chk_t, nu1_n a1]
      exact wp_ret (Or.inr ⟨rfl, a2, f1.trans (a3.mono (fun i z => z.elim))⟩)
  rcases hk0 with q | q | q | q
  · refine ⟨nu2 (tkK B n) (tkV B n) false (nI 0) (nI 9999) (woR (tkK B n) 273 (nu1 (tkK B n) (tkV B n) (nI 1) (nI 99) (0, j + 1, nI 0, nI 0))), by rw [q]; rfl, pre _ (fun m1 r1 c0 c2 f1 => ?_)⟩
    rw [q] at c0 ⊢
    refine wp_eq (swt_at 0 (by decide) rfl) ?_
    refine wp_bind (w_nuR hN (by decide) r1 (by omega)) ?_
    rintro v m2 (⟨rfl, a1, a2, a3, a4⟩ | ⟨rfl, e, a1, a2, a3⟩)
    · rw [if_neg (by decide), nu1_y a1]
      refine wp_bind (w_told (w := 273) hN (by decide) a2 (trK_r _ a2.c).1 (by decide) (by omega) (tkV B n (j + 1)) (nI 0)) ?_
      rintro v m3 (⟨rfl, b1, b3, b4, b5, b6⟩ | ⟨rfl, e, j', b1, b2, b3⟩)
      · rw [if_neg (by decide), b1, nu2_y b3 (fun z => by cases z)]
        refine wp_ret (Or.inl ⟨rfl, rfl, b4, ⟨?_, ?_, b5⟩, (f1.trans (a4.mono (fun i z => by omega))).trans (b6.mono (fun i z => by omega))⟩)
        · rw [b6.2.2 _ (by omega), a4.2.2 _ (by omega)]; exact c0
        · rw [b6.2.2 _ (by omega)]; exact a3
      · rw [if_pos rfl, woNu b1]
        exact wp_ret (Or.inr ⟨rfl, b2, (f1.trans (a4.mono (fun i z => by omega))).trans (b3.mono (fun i z => z.elim))⟩)
    · have he : e ≠ 0 := by omega
      rw [if_pos rfl, nu1_n a1, woR_f (by exact he), nu2_f (by exact he)]
      exact wp_ret (Or.inr ⟨rfl, a2, f1.trans (a3.mono (fun i z => z.elim))⟩)
  · refine ⟨nu1 (tkK B n) (tkV B n) (nI 0) (nI 20) (0, j + 1, nI 0, nI 0), by rw [q]; rfl, pre _ (fun m1 r1 c0 c2 f1 => ?_)⟩
    refine wp_eq (swt_at 1 (by rw [q]; decide) rfl) ?_
    exact one _ _ m1 r1 c0 c2 f1
  · refine ⟨nu1 (tkK B n) (tkV B n) (nI 0) hH (0, j + 1, nI 0, nI 0), by rw [q]; rfl, pre _ (fun m1 r1 c0 c2 f1 => ?_)⟩
    refine wp_eq (swt_at 2 (by rw [q]; decide) rfl) ?_
    rw [f1.1 124 (by decide) (by decide), hH1]
    exact one _ _ m1 r1 c0 c2 f1
  · refine ⟨nu1 (tkK B n) (tkV B n) (nI 1) (nI 9999) (0, j + 1, nI 0, nI 0), by rw [q]; rfl, pre _ (fun m1 r1 c0 c2 f1 => ?_)⟩
    refine wp_eq (swt_no (Or.inr (by rw [q]; simp; decide))) ?_
    exact one _ _ m1 r1 c0 c2 f1
end AROW
