/-! the reference's sums and products of THE LAW -/
/-- the steps that are laid -/
def SR (m : Mem) (S : List Spt) : Prop := m 123 14 = nI S.length ∧ ∀ i p, S[i]? = some p → m 129 (2 * i) = nI p.1 ∧ m 129 (2 * i + 1) = p.2
/-- what the grammar may change -/
def Gm (m m' : Mem) : Prop := (∀ x, x ≠ 123 → x ≠ 129 → m' x = m x) ∧ ∀ i, i ≠ 14 → (i < 17 ∨ 22 < i) → i ≠ 24 → m' 123 i = m 123 i
def GOk (B : Nat → Nat) (n M : Nat) (m : Mem) (j : Nat) (S : List Spt) (ok : Nat → List Spt → Prop) (no : Nat → Nat → Prop) (v : Int32) (m' : Mem) : Prop :=
  (v = nI 1 ∧ ∃ j' L, RT B n 0 j' m' ∧ SR m' (S ++ L) ∧ Gm m m' ∧ m' 123 24 = m 123 24 ∧ j < j' ∧ j' ≤ M ∧ L.length ≤ j' - j ∧ ok j' L) ∨
  (v = nI 0 ∧ ∃ j' e, m' 123 21 = nI e ∧ (0 < e ∧ e < 4) ∧ m' 123 22 = nI (psT B n j') ∧ Gm m m' ∧ j ≤ j' ∧ j' ≤ M ∧ no j' e)
theorem trK_a : ∀ c, c < 279 → (trK 0 c = 0 ↔ c = 0) ∧ (trK 0 c = 2 ↔ c = 1) ∧ (trK 0 c = 142 ↔ c = 42) ∧ (trK 0 c = 143 ↔ c = 43) ∧ (trK 0 c = 145 ↔ c = 45) ∧ (trK 0 c = 147 ↔ c = 47) := by decide +kernel
theorem trK_b : ∀ c, c < 279 → (trK 0 c = 140 ↔ c = 40) ∧ (trK 0 c = 141 ↔ c = 41) ∧ (trK 0 c = 160 ↔ c = 60) ∧ (trK 0 c = 161 ↔ c = 61) ∧ (trK 0 c = 162 ↔ c = 62) ∧ (trK 0 c = 159 ↔ c = 59) := by decide +kernel
theorem trK_c : ∀ c, c < 279 → (trK 0 c = 3 ↔ c = 259) ∧ (trK 0 c = 4 ↔ c = 260) ∧ (trK 0 c = 5 ↔ c = 261) ∧ (trK 0 c = 6 ↔ c = 262) := by decide +kernel
theorem trK_d : ∀ c, c < 279 → ((41 ≤ trK 0 c ∧ trK 0 c ≤ 50) ↔ (263 ≤ c ∧ c ≤ 272)) ∧ (263 ≤ c → c ≤ 272 → trK 0 c = c - 222) ∧ ((20 ≤ trK 0 c ∧ trK 0 c ≤ 22) ↔ (256 ≤ c ∧ c ≤ 258)) ∧ (256 ≤ c → c ≤ 258 → trK 0 c = c - 236) := by decide +kernel
theorem trK_lt : ∀ k, k < 4 → ∀ c, c < 279 → trK k c < 400 := by decide +kernel
section SUMS
variable {N : Nat} {m m1 m' m2 : Mem} {B : Nat → Nat} {n M j j1 k : Nat} {S L L1 : List Spt} {ok ok2 : Nat → List Spt → Prop} {no no2 : Nat → Nat → Prop} {v : Int32}
theorem Gm.rf : Gm m m := ⟨fun _ _ _ => rfl, fun _ _ _ _ => rfl⟩
theorem Gm.trans (h : Gm m m1) (h2 : Gm m1 m2) : Gm m m2 := ⟨fun x x1 x2 => by rw [h2.1 x x1 x2, h.1 x x1 x2], fun i i1 i2 i3 => by rw [h2.2 i i1 i2 i3, h.2 i i1 i2 i3]⟩
theorem Lk.gm (h : Lk m m1) : Gm m m1 := ⟨fun x x1 _ => h.1 x x1, fun i _ i2 _ => h.2 i (by omega)⟩
theorem SR.lk (h : SR m S) (hl : Lk m m1) : SR m1 S := ⟨by rw [hl.2 14 (by decide)]; exact h.1, by rw [hl.1 129 (by decide)]; exact h.2⟩
theorem RT.c (h : RT B n k j m) : tkK B n j < 279 := kT_lt h.1.2.2.2.2
/-- the reference's token is d as the class has it -/
theorem RT.is (h : RT B n 0 j m) {a d : Nat} (hd : trK 0 (tkK B n j) = a ↔ tkK B n j = d) (ha : a < 400) : m 123 18 = nI a ↔ tkK B n j = d := by
  have := trK_lt 0 (by decide) _ h.c
  rw [h.2.1, nI_eq (by omega) (by omega)]
  exact hd
theorem w_lay {k : Nat} (h : SR m S) (hS : S.length < 400) : f_X12_lay N (nI k) v m = some (0, mset (mset (mset m 129 (2 * S.length) (nI k)) 129 (2 * S.length + 1) v) 123 14 (nI (S.length + 1))) ∧
    SR (mset (mset (mset m 129 (2 * S.length) (nI k)) 129 (2 * S.length + 1) v) 123 14 (nI (S.length + 1))) (S ++ [(k, v)]) ∧ Gm m (mset (mset (mset m 129 (2 * S.length) (nI k)) 129 (2 * S.length + 1) v) 123 14 (nI (S.length + 1))) := by
  obtain ⟨h1, h2⟩ := h
  refine ⟨?_, ⟨?_, fun i p hp => ?_⟩, ?_⟩
  · unfold f_X12_lay
    simp only [li_0, li_1, li_2, li_3, li_4, li_5, li_6, li_7, li_8, li_9, li_10, li_11, li_12, li_13, li_14, li_15, li_16, li_17, li_18, li_19, li_20, li_21, li_22, li_23, li_24, li_25, li_26, li_27, li_28, li_29, li_30, li_31, li_32, li_37, li_38, li_39, li_40, li_41, li_42, li_43, li_44, li_45, li_46, li_47, li_48, li_49, li_50, li_57, li_59, li_60, li_61, li_62, li_63, li_64, li_65, li_69, li_81, li_89, li_90, li_92, li_97, li_99, li_100, li_101, li_103, li_104, li_105, li_106, li_108, li_111, li_112, li_113, li_114, li_115, li_116, li_117, li_119, li_122, li_123, li_124, li_125, li_126, li_127, li_128, li_129, li_130, li_131, li_132, li_133, li_134, li_135, li_136, li_137, li_140, li_141, li_142, li_143, li_145, li_147, li_150, li_153, li_159, li_160, li_161, li_162, li_185, li_197, li_213, li_222, li_223, li_255, li_256, li_257, li_258, li_259, li_260, li_261, li_262, li_263, li_264, li_271, li_272, li_273, li_274, li_275, li_276, li_277, li_278, li_300, li_400, li_420, li_500, li_802, li_820, li_823, li_839, li_855, li_871, li_887, li_999, li_1000, li_1001, li_1002, li_1003, li_1004, li_1005, li_1006, li_1007, li_1008, li_1009, li_1010, li_1011, li_1012, li_1013, li_1014, li_1015, li_1016, li_1017, li_1018, li_1019, li_1020, li_1021, li_1022, li_1023, li_1707, li_4096, li_9999, li_65536, li_100000, li_1000000, li_1664525, li_100000000, li_252645135, li_858993459, li_1000000007, li_1013904223, li_1431655765, li_m1]
    rw [h1, pk_mul, inb_nI (by omega) (by omega), chk_t, nI_clamp (by omega), bnd_s, mset_k (by decide), h1, pk_mul, nI_add, inb_nI (by omega) (by omega), chk_t, nI_clamp (by omega), bnd_s, mset_k (by decide), mset_k (by decide), h1, nI_add, bnd_s]
  · rw [mset_at, List.length_append]; rfl
  · rw [mset_ne (by decide)]
    by_cases e : i < S.length
    · rw [List.getElem?_append_left e] at hp
      rw [mset_j (by omega), mset_j (by omega), mset_j (by omega), mset_j (by omega)]
      exact h2 i p hp
    · rw [List.getElem?_append_right (by omega)] at hp
      have : i = S.length := by
        refine Decidable.by_contra fun z => ?_
        rw [List.getElem?_eq_none (by simp; omega)] at hp
        cases hp
      subst this
      rw [Nat.sub_self] at hp
      cases hp
      rw [mset_j (by omega), mset_at, mset_at]
      exact ⟨rfl, rfl⟩
  · refine ⟨fun x x1 x2 => ?_, fun i i1 i2 i3 => ?_⟩
    · rw [mset_ne x1, mset_ne x2, mset_ne x2]
    · rw [mset_j i1, mset_k (by decide), mset_k (by decide)]
theorem RT.gm (h : RT B n k j m) (g : Gm m m1) (hl : ∀ i, 17 ≤ i → i ≤ 20 → m1 123 i = m 123 i) : RT B n k j m1 :=
  h.lk (fun x x1 _ x3 _ => g.1 x x1 x3) (fun i hi => by
    rcases hi with rfl | hi
    · exact g.2 12 (by decide) (by decide) (by decide)
    · by_cases q : i = 16
      · subst q; exact g.2 16 (by decide) (by decide) (by decide)
      · exact hl i (by omega) (by omega))
/-- a step more: all it is said of -/
theorem RT.lay {k1 : Nat} (h : RT B n k j m) (hS : SR m S) (hl : S.length < 400) (v : Int32) : ∃ m2, f_X12_lay N (nI k1) v m = some (0, m2) ∧ SR m2 (S ++ [(k1, v)]) ∧ Gm m m2 ∧ RT B n k j m2 ∧ m2 123 24 = m 123 24 := by
  obtain ⟨h1, h2, h3⟩ := w_lay (N := N) (v := v) (k := k1) hS hl
  refine ⟨_, h1, h2, h3, h.gm h3 (fun i i1 i2 => ?_), ?_⟩
  · rw [mset_j (by omega), mset_k (by decide), mset_k (by decide)]
  · rw [mset_j (by omega), mset_k (by decide), mset_k (by decide)]
theorem w_bad (h : RT B n k j m) (e : Nat) : ∃ m2, f_X12_bad N (nI e) m = some (nI 0, m2) ∧ m2 123 21 = nI e ∧ m2 123 22 = nI (psT B n j) ∧ Gm m m2 ∧ (∀ i, i ≠ 21 → i ≠ 22 → m2 123 i = m 123 i) ∧ ∀ x, x ≠ 123 → m2 x = m x := by
  refine ⟨mset (mset m 123 21 (nI e)) 123 22 (psT B n j |> nI), ?_, ?_, mset_at _ _ _ _, ⟨fun x x1 x2 => ?_, fun i i1 i2 i3 => ?_⟩, fun i i1 i2 => ?_, fun x x1 => ?_⟩
  · unfold f_X12_bad
    simp only [li_0, li_1, li_2, li_3, li_4, li_5, li_6, li_7, li_8, li_9, li_10, li_11, li_12, li_13, li_14, li_15, li_16, li_17, li_18, li_19, li_20, li_21, li_22, li_23, li_24, li_25, li_26, li_27, li_28, li_29, li_30, li_31, li_32, li_37, li_38, li_39, li_40, li_41, li_42, li_43, li_44, li_45, li_46, li_47, li_48, li_49, li_50, li_57, li_59, li_60, li_61, li_62, li_63, li_64, li_65, li_69, li_81, li_89, li_90, li_92, li_97, li_99, li_100, li_101, li_103, li_104, li_105, li_106, li_108, li_111, li_112, li_113, li_114, li_115, li_116, li_117, li_119, li_122, li_123, li_124, li_125, li_126, li_127, li_128, li_129, li_130, li_131, li_132, li_133, li_134, li_135, li_136, li_137, li_140, li_141, li_142, li_143, li_145, li_147, li_150, li_153, li_159, li_160, li_161, li_162, li_185, li_197, li_213, li_222, li_223, li_255, li_256, li_257, li_258, li_259, li_260, li_261, li_262, li_263, li_264, li_271, li_272, li_273, li_274, li_275, li_276, li_277, li_278, li_300, li_400, li_420, li_500, li_802, li_820, li_823, li_839, li_855, li_871, li_887, li_999, li_1000, li_1001, li_1002, li_1003, li_1004, li_1005, li_1006, li_1007, li_1008, li_1009, li_1010, li_1011, li_1012, li_1013, li_1014, li_1015, li_1016, li_1017, li_1018, li_1019, li_1020, li_1021, li_1022, li_1023, li_1707, li_4096, li_9999, li_65536, li_100000, li_1000000, li_1664525, li_100000000, li_252645135, li_858993459, li_1000000007, li_1013904223, li_1431655765, li_m1]
    rw [bnd_s, mset_j (by decide), h.2.2.1, bnd_s]
  · rw [mset_j (by decide), mset_at]
  · rw [mset_ne x1, mset_ne x1]
  · rw [mset_j (by omega), mset_j (by omega)]
  · rw [mset_j i2, mset_j i1]
  · rw [mset_ne x1, mset_ne x1]
theorem GOk.bad {j' e : Nat} (hj : j ≤ j') (hj2 : j' ≤ M) (h : RT B n 0 j' m1) (g : Gm m m1) (he : 0 < e ∧ e < 4) (hno : no j' e) : Wp (bd (f_X12_bad N (nI e) m1) fun r m_2 => chk (isB r) (some (r, m_2))) (GOk B n M m j S ok no) := by
  obtain ⟨m2, h1, h2, h3, h4, -⟩ := w_bad (N := N) h e
  rw [h1, bd_s]
  exact wp_ret (Or.inr ⟨rfl, j', e, h2, he, h3, g.trans h4, hj, hj2, hno⟩)
/-- a unit -/
theorem w_unit (hN : 20000 ≤ N) (hM : Mt B n M) (h : RT B n 0 j m) (hS : SR m S) (hSj : S.length ≤ j) (hj : j ≤ M) :
    Wp (f_X12_unit N m) (GOk B n M m j S (fun j' L => j' = j + 1 ∧ ∃ p, L = [p] ∧ UP (tkK B n) (tkV B n) j p ∧ ∀ s : List Bool, s.length ≤ 21 → tcS [p] s = some (false :: s)) (fun j' e => j' = j ∧ e = 1 ∧ tkK B n j ≠ 1 ∧ ¬ (263 ≤ tkK B n j ∧ tkK B n j ≤ 272))) := by
  have hc := h.c
  have hM4 := hM.1
  have ht := trK_lt 0 (by decide) _ hc
  obtain ⟨t0, t1, -⟩ := trK_a _ hc
  obtain ⟨tn, tn2, -⟩ := trK_d _ hc
  have fin : ∀ (k1 : Nat) (x : Int32), j < M → UP (tkK B n) (tkV B n) j (k1, x) → k1 ≤ 10 → Wp (bd (f_X12_lay N (nI k1) x m) fun _ m_50 => bd (f_X12_next0 N m_50) fun _ m_54 => some (nI 1, m_54))
      (GOk B n M m j S (fun j' L => j' = j + 1 ∧ ∃ p, L = [p] ∧ UP (tkK B n) (tkV B n) j p ∧ ∀ s : List Bool, s.length ≤ 21 → tcS [p] s = some (false :: s)) (fun j' e => j' = j ∧ e = 1 ∧ tkK B n j ≠ 1 ∧ ¬ (263 ≤ tkK B n j ∧ tkK B n j ≤ 272))) := by
    intro k1 x hjM hu hk1
    obtain ⟨m2, l1, l2, l3, l4, l5⟩ := h.lay (N := N) (k1 := k1) hS (by omega) x
    rw [l1, bd_s]
    refine wp_bind (l4.nx hN (by decide)) ?_
    rintro _ m3 ⟨n1, n2⟩
    exact wp_ret (Or.inl ⟨rfl, j + 1, [(k1, x)], n1, l2.lk n2, l3.trans n2.gm, by rw [n2.2 24 (by decide)]; exact l5, by omega, by omega, by simp, rfl, _, rfl, hu, fun s hs => tc_val hk1 hs⟩)
  unfold f_X12_unit
  simp only [li_0, li_1, li_2, li_3, li_4, li_5, li_6, li_7, li_8, li_9, li_10, li_11, li_12, li_13, li_14, li_15, li_16, li_17, li_18, li_19, li_20, li_21, li_22, li_23, li_24, li_25, li_26, li_27, li_28, li_29, li_30, li_31, li_32, li_37, li_38, li_39, li_40, li_41, li_42, li_43, li_44, li_45, li_46, li_47, li_48, li_49, li_50, li_57, li_59, li_60, li_61, li_62, li_63, li_64, li_65, li_69, li_81, li_89, li_90, li_92, li_97, li_99, li_100, li_101, li_103, li_104, li_105, li_106, li_108, li_111, li_112, li_113, li_114, li_115, li_116, li_117, li_119, li_122, li_123, li_124, li_125, li_126, li_127, li_128, li_129, li_130, li_131, li_132, li_133, li_134, li_135, li_136, li_137, li_140, li_141, li_142, li_143, li_145, li_147, li_150, li_153, li_159, li_160, li_161, li_162, li_185, li_197, li_213, li_222, li_223, li_255, li_256, li_257, li_258, li_259, li_260, li_261, li_262, li_263, li_264, li_271, li_272, li_273, li_274, li_275, li_276, li_277, li_278, li_300, li_400, li_420, li_500, li_802, li_820, li_823, li_839, li_855, li_871, li_887, li_999, li_1000, li_1001, li_1002, li_1003, li_1004, li_1005, li_1006, li_1007, li_1008, li_1009, li_1010, li_1011, li_1012, li_1013, li_1014, li_1015, li_1016, li_1017, li_1018, li_1019, li_1020, li_1021, li_1022, li_1023, li_1707, li_4096, li_9999, li_65536, li_100000, li_1000000, li_1664525, li_100000000, li_252645135, li_858993459, li_1000000007, li_1013904223, li_1431655765, li_m1]
  rw [e_isIn, bd_s, h.2.1, rng_is (by omega) (by omega) (by omega)]
  by_cases q1 : tkK B n j = 1
  · have hjM := hM.lt hj q1 (by decide)
    rw [if_pos (by rw [t1.mpr q1]), decide_eq_false (fun z => by have := tn.mp z; omega)]
    unfold f_X12_unit_J30
    simp only [li_0, li_1, li_2, li_3, li_4, li_5, li_6, li_7, li_8, li_9, li_10, li_11, li_12, li_13, li_14, li_15, li_16, li_17, li_18, li_19, li_20, li_21, li_22, li_23, li_24, li_25, li_26, li_27, li_28, li_29, li_30, li_31, li_32, li_37, li_38, li_39, li_40, li_41, li_42, li_43, li_44, li_45, li_46, li_47, li_48, li_49, li_50, li_57, li_59, li_60, li_61, li_62, li_63, li_64, li_65, li_69, li_81, li_89, li_90, li_92, li_97, li_99, li_100, li_101, li_103, li_104, li_105, li_106, li_108, li_111, li_112, li_113, li_114, li_115, li_116, li_117, li_119, li_122, li_123, li_124, li_125, li_126, li_127, li_128, li_129, li_130, li_131, li_132, li_133, li_134, li_135, li_136, li_137, li_140, li_141, li_142, li_143, li_145, li_147, li_150, li_153, li_159, li_160, li_161, li_162, li_185, li_197, li_213, li_222, li_223, li_255, li_256, li_257, li_258, li_259, li_260, li_261, li_262, li_263, li_264, li_271, li_272, li_273, li_274, li_275, li_276, li_277, li_278, li_300, li_400, li_420, li_500, li_802, li_820, li_823, li_839, li_855, li_871, li_887, li_999, li_1000, li_1001, li_1002, li_1003, li_1004, li_1005, li_1006, li_1007, li_1008, li_1009, li_1010, li_1011, li_1012, li_1013, li_1014, li_1015, li_1016, li_1017, li_1018, li_1019, li_1020, li_1021, li_1022, li_1023, li_1707, li_4096, li_9999, li_65536, li_100000, li_1000000, li_1664525, li_100000000, li_252645135, li_858993459, li_1000000007, li_1013904223, li_1431655765, li_m1]
    rw [if_pos (by decide), h.2.2.2.2 q1]
    exact fin 0 (tkV B n j) hjM (fun W C sd md fn => sp_num q1) (by decide)
  · rw [if_neg (nI_ne (fun z => q1 (t1.mp z)) (by omega) (by omega)), if_b2i]
    by_cases q2 : 263 ≤ tkK B n j ∧ tkK B n j ≤ 272
    · have hjM := hM.lt (j := j) hj rfl (by omega)
      have e2 := tn2 q2.1 q2.2
      rw [decide_eq_true (tn.mpr q2), if_pos rfl]
      unfold f_X12_unit_J30
      simp only [li_0, li_1, li_2, li_3, li_4, li_5, li_6, li_7, li_8, li_9, li_10, li_11, li_12, li_13, li_14, li_15, li_16, li_17, li_18, li_19, li_20, li_21, li_22, li_23, li_24, li_25, li_26, li_27, li_28, li_29, li_30, li_31, li_32, li_37, li_38, li_39, li_40, li_41, li_42, li_43, li_44, li_45, li_46, li_47, li_48, li_49, li_50, li_57, li_59, li_60, li_61, li_62, li_63, li_64, li_65, li_69, li_81, li_89, li_90, li_92, li_97, li_99, li_100, li_101, li_103, li_104, li_105, li_106, li_108, li_111, li_112, li_113, li_114, li_115, li_116, li_117, li_119, li_122, li_123, li_124, li_125, li_126, li_127, li_128, li_129, li_130, li_131, li_132, li_133, li_134, li_135, li_136, li_137, li_140, li_141, li_142, li_143, li_145, li_147, li_150, li_153, li_159, li_160, li_161, li_162, li_185, li_197, li_213, li_222, li_223, li_255, li_256, li_257, li_258, li_259, li_260, li_261, li_262, li_263, li_264, li_271, li_272, li_273, li_274, li_275, li_276, li_277, li_278, li_300, li_400, li_420, li_500, li_802, li_820, li_823, li_839, li_855, li_871, li_887, li_999, li_1000, li_1001, li_1002, li_1003, li_1004, li_1005, li_1006, li_1007, li_1008, li_1009, li_1010, li_1011, li_1012, li_1013, li_1014, li_1015, li_1016, li_1017, li_1018, li_1019, li_1020, li_1021, li_1022, li_1023, li_1707, li_4096, li_9999, li_65536, li_100000, li_1000000, li_1664525, li_100000000, li_252645135, li_858993459, li_1000000007, li_1013904223, li_1431655765, li_m1]
      rw [if_neg (by decide), h.2.1, e2, pk_sub (by omega), show tkK B n j - 222 - 40 = tkK B n j - 262 by omega]
      refine fin (tkK B n j - 262) (m 123 20) hjM (fun W C sd md fn => ?_) (by omega)
      rw [sp_nam q2]
      have : trS (tkK B n j - 262, m 123 20) = [(nI 1, nI (tkK B n j - 263))] := by
        unfold trS
        rw [if_neg (by simp; omega), if_pos (by simp; omega), show tkK B n j - 262 - 1 = tkK B n j - 263 by omega]
      rw [this]
    · rw [decide_eq_false (fun z => q2 (tn.mp z)), if_neg (by decide)]
      exact GOk.bad (Nat.le_refl _) hj h Gm.rf (by decide) ⟨rfl, rfl, q1, q2⟩
theorem w_product (hN : 20000 ≤ N) (hM : Mt B n M) (h : RT B n 0 j m) (hS : SR m S) (hSj : S.length ≤ j) (hj : j ≤ M) :
    Wp (f_X12_product N m) (GOk B n M m j S (fun j' L => (∀ s : List Bool, s.length ≤ 20 → tcS L s = some (false :: s)) ∧ (tkK B n j' ≠ 42 ∧ tkK B n j' ≠ 47) ∧ MP (tkK B n) (tkV B n) 6 j j' L) (fun j' e => MB (tkK B n) (tkV B n) 6 j j' e)) := by
  have hM4 := hM.1
  unfold f_X12_product
  simp only [li_0, li_1, li_2, li_3, li_4, li_5, li_6, li_7, li_8, li_9, li_10, li_11, li_12, li_13, li_14, li_15, li_16, li_17, li_18, li_19, li_20, li_21, li_22, li_23, li_24, li_25, li_26, li_27, li_28, li_29, li_30, li_31, li_32, li_37, li_38, li_39, li_40, li_41, li_42, li_43, li_44, li_45, li_46, li_47, li_48, li_49, li_50, li_57, li_59, li_60, li_61, li_62, li_63, li_64, li_65, li_69, li_81, li_89, li_90, li_92, li_97, li_99, li_100, li_101, li_103, li_104, li_105, li_106, li_108, li_111, li_112, li_113, li_114, li_115, li_116, li_117, li_119, li_122, li_123, li_124, li_125, li_126, li_127, li_128, li_129, li_130, li_131, li_132, li_133, li_134, li_135, li_136, li_137, li_140, li_141, li_142, li_143, li_145, li_147, li_150, li_153, li_159, li_160, li_161, li_162, li_185, li_197, li_213, li_222, li_223, li_255, li_256, li_257, li_258, li_259, li_260, li_261, li_262, li_263, li_264, li_271, li_272, li_273, li_274, li_275, li_276, li_277, li_278, li_300, li_400, li_420, li_500, li_802, li_820, li_823, li_839, li_855, li_871, li_887, li_999, li_1000, li_1001, li_1002, li_1003, li_1004, li_1005, li_1006, li_1007, li_1008, li_1009, li_1010, li_1011, li_1012, li_1013, li_1014, li_1015, li_1016, li_1017, li_1018, li_1019, li_1020, li_1021, li_1022, li_1023, li_1707, li_4096, li_9999, li_65536, li_100000, li_1000000, li_1664525, li_100000000, li_252645135, li_858993459, li_1000000007, li_1013904223, li_1431655765, li_m1]
  refine wp_bind (w_unit hN hM h hS hSj hj) ?_
  rintro v m1 (⟨rfl, j1, L1, a1, a2, a3, a4, a5, a6, a7, rfl, p, rfl, a8, a9⟩ | ⟨rfl, j1, e, a1, a2, a3, a4, a5, a6, rfl, rfl, a7, a8⟩)
  · rw [if_neg (by decide)]
    refine wp_it0 (fun c m' => ∃ j2 L2, c = M - j2 ∧ RT B n 0 j2 m' ∧ SR m' (S ++ L2) ∧ Gm m m' ∧ m' 123 24 = m 123 24 ∧ j < j2 ∧ j2 ≤ M ∧ L2.length ≤ j2 - j ∧ (∀ s : List Bool, s.length ≤ 20 → tcS L2 s = some (false :: s)) ∧ MP (tkK B n) (tkV B n) 6 j j2 L2) ?_ N (M - (j + 1)) _ (by omega)
      ⟨j + 1, [p], rfl, a1, a2, a3, a4, a5, a6, a7, fun s hs => a9 s (by omega), a8.mp⟩
    rintro c X m2 ⟨j2, L2, rfl, b1, b2, b3, b4, b5, b6, b7, b8, b9⟩ hX
    have hc := b1.c
    obtain ⟨-, -, t42, -, -, t47⟩ := trK_a _ hc
    have i42 := b1.is t42 (by decide)
    have i47 := b1.is t47 (by decide)
    unfold f_X12_product_L9
    simp only [li_0, li_1, li_2, li_3, li_4, li_5, li_6, li_7, li_8, li_9, li_10, li_11, li_12, li_13, li_14, li_15, li_16, li_17, li_18, li_19, li_20, li_21, li_22, li_23, li_24, li_25, li_26, li_27, li_28, li_29, li_30, li_31, li_32, li_37, li_38, li_39, li_40, li_41, li_42, li_43, li_44, li_45, li_46, li_47, li_48, li_49, li_50, li_57, li_59, li_60, li_61, li_62, li_63, li_64, li_65, li_69, li_81, li_89, li_90, li_92, li_97, li_99, li_100, li_101, li_103, li_104, li_105, li_106, li_108, li_111, li_112, li_113, li_114, li_115, li_116, li_117, li_119, li_122, li_123, li_124, li_125, li_126, li_127, li_128, li_129, li_130, li_131, li_132, li_133, li_134, li_135, li_136, li_137, li_140, li_141, li_142, li_143, li_145, li_147, li_150, li_153, li_159, li_160, li_161, li_162, li_185, li_197, li_213, li_222, li_223, li_255, li_256, li_257, li_258, li_259, li_260, li_261, li_262, li_263, li_264, li_271, li_272, li_273, li_274, li_275, li_276, li_277, li_278, li_300, li_400, li_420, li_500, li_802, li_820, li_823, li_839, li_855, li_871, li_887, li_999, li_1000, li_1001, li_1002, li_1003, li_1004, li_1005, li_1006, li_1007, li_1008, li_1009, li_1010, li_1011, li_1012, li_1013, li_1014, li_1015, li_1016, li_1017, li_1018, li_1019, li_1020, li_1021, li_1022, li_1023, li_1707, li_4096, li_9999, li_65536, li_100000, li_1000000, li_1664525, li_100000000, li_252645135, li_858993459, li_1000000007, li_1013904223, li_1431655765, li_m1]
    by_cases q42 : tkK B n j2 = 42
    · have hjM := hM.lt b6 q42 (by decide)
      rw [if_pos (i42.mpr q42)]
      unfold f_X12_product_J29
      simp only [li_0, li_1, li_2, li_3, li_4, li_5, li_6, li_7, li_8, li_9, li_10, li_11, li_12, li_13, li_14, li_15, li_16, li_17, li_18, li_19, li_20, li_21, li_22, li_23, li_24, li_25, li_26, li_27, li_28, li_29, li_30, li_31, li_32, li_37, li_38, li_39, li_40, li_41, li_42, li_43, li_44, li_45, li_46, li_47, li_48, li_49, li_50, li_57, li_59, li_60, li_61, li_62, li_63, li_64, li_65, li_69, li_81, li_89, li_90, li_92, li_97, li_99, li_100, li_101, li_103, li_104, li_105, li_106, li_108, li_111, li_112, li_113, li_114, li_115, li_116, li_117, li_119, li_122, li_123, li_124, li_125, li_126, li_127, li_128, li_129, li_130, li_131, li_132, li_133, li_134, li_135, li_136, li_137, li_140, li_141, li_142, li_143, li_145, li_147, li_150, li_153, li_159, li_160, li_161, li_162, li_185, li_197, li_213, li_222, li_223, li_255, li_256, li_257, li_258, li_259, li_260, li_261, li_262, li_263, li_264, li_271, li_272, li_273, li_274, li_275, li_276, li_277, li_278, li_300, li_400, li_420, li_500, li_802, li_820, li_823, li_839, li_855, li_871, li_887, li_999, li_1000, li_1001, li_1002, li_1003, li_1004, li_1005, li_1006, li_1007, li_1008, li_1009, li_1010, li_1011, li_1012, li_1013, li_1014, li_1015, li_1016, li_1017, li_1018, li_1019, li_1020, li_1021, li_1022, li_1023, li_1707, li_4096, li_9999, li_65536, li_100000, li_1000000, li_1664525, li_100000000, li_252645135, li_858993459, li_1000000007, li_1013904223, li_1431655765, li_m1]
      rw [if_neg (fun z => by have := i47.mp z; omega)]
      unfold f_X12_product_J44
      simp only [li_0, li_1, li_2, li_3, li_4, li_5, li_6, li_7, li_8, li_9, li_10, li_11, li_12, li_13, li_14, li_15, li_16, li_17, li_18, li_19, li_20, li_21, li_22, li_23, li_24, li_25, li_26, li_27, li_28, li_29, li_30, li_31, li_32, li_37, li_38, li_39, li_40, li_41, li_42, li_43, li_44, li_45, li_46, li_47, li_48, li_49, li_50, li_57, li_59, li_60, li_61, li_62, li_63, li_64, li_65, li_69, li_81, li_89, li_90, li_92, li_97, li_99, li_100, li_101, li_103, li_104, li_105, li_106, li_108, li_111, li_112, li_113, li_114, li_115, li_116, li_117, li_119, li_122, li_123, li_124, li_125, li_126, li_127, li_128, li_129, li_130, li_131, li_132, li_133, li_134, li_135, li_136, li_137, li_140, li_141, li_142, li_143, li_145, li_147, li_150, li_153, li_159, li_160, li_161, li_162, li_185, li_197, li_213, li_222, li_223, li_255, li_256, li_257, li_258, li_259, li_260, li_261, li_262, li_263, li_264, li_271, li_272, li_273, li_274, li_275, li_276, li_277, li_278, li_300, li_400, li_420, li_500, li_802, li_820, li_823, li_839, li_855, li_871, li_887, li_999, li_1000, li_1001, li_1002, li_1003, li_1004, li_1005, li_1006, li_1007, li_1008, li_1009, li_1010, li_1011, li_1012, li_1013, li_1014, li_1015, li_1016, li_1017, li_1018, li_1019, li_1020, li_1021, li_1022, li_1023, li_1707, li_4096, li_9999, li_65536, li_100000, li_1000000, li_1664525, li_100000000, li_252645135, li_858993459, li_1000000007, li_1013904223, li_1431655765, li_m1]
      refine wp_bind (b1.nx hN (by decide)) ?_
      rintro _ m3 ⟨n1, n2⟩
      rw [if_pos trivial]
      refine wp_bind (w_unit hN hM n1 (b2.lk n2) (by rw [List.length_append]; omega) (by omega)) ?_
      rintro v m4 (⟨rfl, j3, L3, c1, c2, c3, c4, c5, c6, c7, rfl, p3, rfl, c8, c9⟩ | ⟨rfl, j3, e, c1, c2, c3, c4, c5, c6, rfl, rfl, c7, c8⟩)
      · rw [if_neg (by decide)]
        obtain ⟨m5, l1, l2, l3, l4, l5⟩ := c1.lay (N := N) (k1 := 25) c2 (by simp only [List.length_append, List.length_cons, List.length_nil]; omega) (nI 0)
        rw [l1, bd_s]
        refine hX (M - (j2 + 1 + 1)) _ (by omega) ⟨j2 + 1 + 1, L2 ++ ([p3] ++ [(25, nI 0)]), rfl, l4, ?_, ((b3.trans n2.gm).trans c3).trans l3, ?_, by omega, by omega, ?_, fun s hs => ?_, b9.times b5 q42 c8⟩
        · rw [← List.append_assoc, ← List.append_assoc]
          exact l2
        · rw [l5, c4, n2.2 24 (by decide), b4]
        · simp only [List.length_append, List.length_cons, List.length_nil]
          omega
        · rw [tcS_app (b8 s hs), tcS_app (c9 (false :: s) (by simp; omega))]
          exact tc_ari (by decide)
      · rw [if_pos rfl]
        exact wp_ret (Or.inr ⟨rfl, j2 + 1, 1, c1, by decide, c3, (b3.trans n2.gm).trans c4, by omega, c6, MB.times b9 b5 q42 ⟨c7, c8⟩⟩)
    · rw [if_neg (fun z => q42 (i42.mp z))]
      by_cases q47 : tkK B n j2 = 47
      · have hjM := hM.lt b6 q47 (by decide)
        rw [if_pos (i47.mpr q47)]
        unfold f_X12_product_J29
        simp only [li_0, li_1, li_2, li_3, li_4, li_5, li_6, li_7, li_8, li_9, li_10, li_11, li_12, li_13, li_14, li_15, li_16, li_17, li_18, li_19, li_20, li_21, li_22, li_23, li_24, li_25, li_26, li_27, li_28, li_29, li_30, li_31, li_32, li_37, li_38, li_39, li_40, li_41, li_42, li_43, li_44, li_45, li_46, li_47, li_48, li_49, li_50, li_57, li_59, li_60, li_61, li_62, li_63, li_64, li_65, li_69, li_81, li_89, li_90, li_92, li_97, li_99, li_100, li_101, li_103, li_104, li_105, li_106, li_108, li_111, li_112, li_113, li_114, li_115, li_116, li_117, li_119, li_122, li_123, li_124, li_125, li_126, li_127, li_128, li_129, li_130, li_131, li_132, li_133, li_134, li_135, li_136, li_137, li_140, li_141, li_142, li_143, li_145, li_147, li_150, li_153, li_159, li_160, li_161, li_162, li_185, li_197, li_213, li_222, li_223, li_255, li_256, li_257, li_258, li_259, li_260, li_261, li_262, li_263, li_264, li_271, li_272, li_273, li_274, li_275, li_276, li_277, li_278, li_300, li_400, li_420, li_500, li_802, li_820, li_823, li_839, li_855, li_871, li_887, li_999, li_1000, li_1001, li_1002, li_1003, li_1004, li_1005, li_1006, li_1007, li_1008, li_1009, li_1010, li_1011, li_1012, li_1013, li_1014, li_1015, li_1016, li_1017, li_1018, li_1019, li_1020, li_1021, li_1022, li_1023, li_1707, li_4096, li_9999, li_65536, li_100000, li_1000000, li_1664525, li_100000000, li_252645135, li_858993459, li_1000000007, li_1013904223, li_1431655765, li_m1]
        rw [if_pos (i47.mpr q47)]
        unfold f_X12_product_J44
        simp only [li_0, li_1, li_2, li_3, li_4, li_5, li_6, li_7, li_8, li_9, li_10, li_11, li_12, li_13, li_14, li_15, li_16, li_17, li_18, li_19, li_20, li_21, li_22, li_23, li_24, li_25, li_26, li_27, li_28, li_29, li_30, li_31, li_32, li_37, li_38, li_39, li_40, li_41, li_42, li_43, li_44, li_45, li_46, li_47, li_48, li_49, li_50, li_57, li_59, li_60, li_61, li_62, li_63, li_64, li_65, li_69, li_81, li_89, li_90, li_92, li_97, li_99, li_100, li_101, li_103, li_104, li_105, li_106, li_108, li_111, li_112, li_113, li_114, li_115, li_116, li_117, li_119, li_122, li_123, li_124, li_125, li_126, li_127, li_128, li_129, li_130, li_131, li_132, li_133, li_134, li_135, li_136, li_137, li_140, li_141, li_142, li_143, li_145, li_147, li_150, li_153, li_159, li_160, li_161, li_162, li_185, li_197, li_213, li_222, li_223, li_255, li_256, li_257, li_258, li_259, li_260, li_261, li_262, li_263, li_264, li_271, li_272, li_273, li_274, li_275, li_276, li_277, li_278, li_300, li_400, li_420, li_500, li_802, li_820, li_823, li_839, li_855, li_871, li_887, li_999, li_1000, li_1001, li_1002, li_1003, li_1004, li_1005, li_1006, li_1007, li_1008, li_1009, li_1010, li_1011, li_1012, li_1013, li_1014, li_1015, li_1016, li_1017, li_1018, li_1019, li_1020, li_1021, li_1022, li_1023, li_1707, li_4096, li_9999, li_65536, li_100000, li_1000000, li_1664525, li_100000000, li_252645135, li_858993459, li_1000000007, li_1013904223, li_1431655765, li_m1]
        refine wp_bind (b1.nx hN (by decide)) ?_
        rintro _ m3 ⟨n1, n2⟩
        rw [if_neg (by decide), bnd_s]
        obtain ⟨-, t1, -⟩ := trK_a _ n1.c
        have i1 := n1.is t1 (by decide)
        by_cases q1 : tkK B n (j2 + 1) = 1
        · have hjM2 := hM.lt (show j2 + 1 ≤ M by omega) q1 (by decide)
          rw [if_pos (i1.mpr q1), n1.2.2.2.2 q1]
          by_cases qv : tkV B n (j2 + 1) = nI 0
          · rw [if_pos qv]
            exact GOk.bad (j' := j2 + 1) (by omega) (by omega) n1 (b3.trans n2.gm) (by decide) (MB.by_ b9 b5 q47 (Or.inr ⟨q1, qv, rfl⟩))
          · rw [if_neg qv]
            refine wp_bind (n1.nx hN (by decide)) ?_
            rintro _ m4 ⟨o1, o2⟩
            obtain ⟨m5, l1, l2, l3, l4, l5⟩ := o1.lay (N := N) (k1 := 26) ((b2.lk n2).lk o2) (by simp only [List.length_append]; omega) (tkV B n (j2 + 1))
            rw [l1, bd_s]
            refine hX (M - (j2 + 1 + 1)) _ (by omega) ⟨j2 + 1 + 1, L2 ++ [(26, tkV B n (j2 + 1))], rfl, l4, ?_, ((b3.trans n2.gm).trans o2.gm).trans l3, ?_, by omega, by omega, ?_, fun s hs => ?_, b9.by_ b5 q47 q1 qv⟩
            · rw [← List.append_assoc]; exact l2
            · rw [l5, o2.2 24 (by decide), n2.2 24 (by decide), b4]
            · simp only [List.length_append, List.length_cons, List.length_nil]
              omega
            · rw [tcS_app (b8 s hs)]
              exact tc_part qv hs
        · rw [if_neg (fun z => q1 (i1.mp z))]
          exact GOk.bad (j' := j2 + 1) (by omega) (by omega) n1 (b3.trans n2.gm) (by decide) (MB.by_ b9 b5 q47 (Or.inl ⟨q1, rfl⟩))
      · rw [if_neg (fun z => q47 (i47.mp z))]
        exact wp_ret (Or.inl ⟨rfl, j2, L2, b1, b2, b3, b4, b5, b6, b7, b8, ⟨q42, q47⟩, b9⟩)
  · rw [if_pos rfl]
    refine wp_ret (Or.inr ⟨rfl, j1, 1, a1, by decide, a3, a4, a5, a6, ?_⟩)
    intro W C sd md fn hW
    obtain ⟨t, r1, r2⟩ := Bad.one (j' := j1) (e := 1) (sp_nou (K := tkK B n) (V := tkV B n) (W := W) (C := C) (sd := sd) (md := md) (fn := fn) (fl := 0) a7 a8) rfl rfl rfl
    exact ⟨t, r1.mono (by omega), r2⟩
theorem w_sumUp (hN : 20000 ≤ N) (hM : Mt B n M) (h : RT B n 0 j m) (hS : SR m S) (hSj : S.length ≤ j) (hj : j ≤ M) :
    Wp (f_X12_sumUp N m) (GOk B n M m j S (fun j' L => (∀ s : List Bool, s.length ≤ 19 → tcS L s = some (false :: s)) ∧ (tkK B n j' ≠ 42 ∧ tkK B n j' ≠ 47 ∧ tkK B n j' ≠ 43 ∧ tkK B n j' ≠ 45) ∧ MP (tkK B n) (tkV B n) 5 j j' L) (fun j' e => MB (tkK B n) (tkV B n) 5 j j' e)) := by
  have hM4 := hM.1
  unfold f_X12_sumUp
  simp only [li_0, li_1, li_2, li_3, li_4, li_5, li_6, li_7, li_8, li_9, li_10, li_11, li_12, li_13, li_14, li_15, li_16, li_17, li_18, li_19, li_20, li_21, li_22, li_23, li_24, li_25, li_26, li_27, li_28, li_29, li_30, li_31, li_32, li_37, li_38, li_39, li_40, li_41, li_42, li_43, li_44, li_45, li_46, li_47, li_48, li_49, li_50, li_57, li_59, li_60, li_61, li_62, li_63, li_64, li_65, li_69, li_81, li_89, li_90, li_92, li_97, li_99, li_100, li_101, li_103, li_104, li_105, li_106, li_108, li_111, li_112, li_113, li_114, li_115, li_116, li_117, li_119, li_122, li_123, li_124, li_125, li_126, li_127, li_128, li_129, li_130, li_131, li_132, li_133, li_134, li_135, li_136, li_137, li_140, li_141, li_142, li_143, li_145, li_147, li_150, li_153, li_159, li_160, li_161, li_162, li_185, li_197, li_213, li_222, li_223, li_255, li_256, li_257, li_258, li_259, li_260, li_261, li_262, li_263, li_264, li_271, li_272, li_273, li_274, li_275, li_276, li_277, li_278, li_300, li_400, li_420, li_500, li_802, li_820, li_823, li_839, li_855, li_871, li_887, li_999, li_1000, li_1001, li_1002, li_1003, li_1004, li_1005, li_1006, li_1007, li_1008, li_1009, li_1010, li_1011, li_1012, li_1013, li_1014, li_1015, li_1016, li_1017, li_1018, li_1019, li_1020, li_1021, li_1022, li_1023, li_1707, li_4096, li_9999, li_65536, li_100000, li_1000000, li_1664525, li_100000000, li_252645135, li_858993459, li_1000000007, li_1013904223, li_1431655765, li_m1]
  refine wp_bind (w_product hN hM h hS hSj hj) ?_
  rintro v m1 (⟨rfl, j1, L1, a1, a2, a3, a4, a5, a6, a7, a8, a9, a10⟩ | ⟨rfl, j1, e, a1, a2, a3, a4, a5, a6, a7⟩)
  · rw [if_neg (by decide)]
    refine wp_it0 (fun c m' => ∃ j2 L2, c = M - j2 ∧ RT B n 0 j2 m' ∧ SR m' (S ++ L2) ∧ Gm m m' ∧ m' 123 24 = m 123 24 ∧ j < j2 ∧ j2 ≤ M ∧ L2.length ≤ j2 - j ∧ (∀ s : List Bool, s.length ≤ 19 → tcS L2 s = some (false :: s)) ∧ (tkK B n j2 ≠ 42 ∧ tkK B n j2 ≠ 47) ∧ MP (tkK B n) (tkV B n) 5 j j2 L2) ?_ N (M - j1) _ (by omega)
      ⟨j1, L1, rfl, a1, a2, a3, a4, a5, a6, a7, fun s hs => a8 s (by omega), a9, a10.down⟩
    rintro c X m2 ⟨j2, L2, rfl, b1, b2, b3, b4, b5, b6, b7, b8, b9, b10⟩ hX
    have hc := b1.c
    obtain ⟨-, -, -, t43, t45, -⟩ := trK_a _ hc
    have i43 := b1.is t43 (by decide)
    have i45 := b1.is t45 (by decide)
    have go : ∀ (k1 o : Nat), j2 < M → opO (tkK B n j2) = o → o = 4 ∨ o = 5 → opK k1 = o → (k1 = 23 ∨ k1 = 24) → Wp (f_X12_sumUp_J46 N X (nI k1) m2) (GOk B n M m j S (fun j' L => (∀ s : List Bool, s.length ≤ 19 → tcS L s = some (false :: s)) ∧ (tkK B n j' ≠ 42 ∧ tkK B n j' ≠ 47 ∧ tkK B n j' ≠ 43 ∧ tkK B n j' ≠ 45) ∧ MP (tkK B n) (tkV B n) 5 j j' L) (fun j' e => MB (tkK B n) (tkV B n) 5 j j' e)) := by
      intro k1 o hjM ho1 ho2 ho3 ho4
      unfold f_X12_sumUp_J46
      simp only [li_0, li_1, li_2, li_3, li_4, li_5, li_6, li_7, li_8, li_9, li_10, li_11, li_12, li_13, li_14, li_15, li_16, li_17, li_18, li_19, li_20, li_21, li_22, li_23, li_24, li_25, li_26, li_27, li_28, li_29, li_30, li_31, li_32, li_37, li_38, li_39, li_40, li_41, li_42, li_43, li_44, li_45, li_46, li_47, li_48, li_49, li_50, li_57, li_59, li_60, li_61, li_62, li_63, li_64, li_65, li_69, li_81, li_89, li_90, li_92, li_97, li_99, li_100, li_101, li_103, li_104, li_105, li_106, li_108, li_111, li_112, li_113, li_114, li_115, li_116, li_117, li_119, li_122, li_123, li_124, li_125, li_126, li_127, li_128, li_129, li_130, li_131, li_132, li_133, li_134, li_135, li_136, li_137, li_140, li_141, li_142, li_143, li_145, li_147, li_150, li_153, li_159, li_160, li_161, li_162, li_185, li_197, li_213, li_222, li_223, li_255, li_256, li_257, li_258, li_259, li_260, li_261, li_262, li_263, li_264, li_271, li_272, li_273, li_274, li_275, li_276, li_277, li_278, li_300, li_400, li_420, li_500, li_802, li_820, li_823, li_839, li_855, li_871, li_887, li_999, li_1000, li_1001, li_1002, li_1003, li_1004, li_1005, li_1006, li_1007, li_1008, li_1009, li_1010, li_1011, li_1012, li_1013, li_1014, li_1015, li_1016, li_1017, li_1018, li_1019, li_1020, li_1021, li_1022, li_1023, li_1707, li_4096, li_9999, li_65536, li_100000, li_1000000, li_1664525, li_100000000, li_252645135, li_858993459, li_1000000007, li_1013904223, li_1431655765, li_m1]
      refine wp_bind (b1.nx hN (by decide)) ?_
      rintro _ m3 ⟨n1, n2⟩
      refine wp_bind (w_product hN hM n1 (b2.lk n2) (by rw [List.length_append]; omega) (by omega)) ?_
      rintro v m4 (⟨rfl, j3, L3, c1, c2, c3, c4, c5, c6, c7, c8, c9, c10⟩ | ⟨rfl, j3, e, c1, c2, c3, c4, c5, c6, c7⟩)
      · rw [if_neg (by decide)]
        obtain ⟨m5, l1, l2, l3, l4, l5⟩ := c1.lay (N := N) (k1 := k1) c2 (by simp only [List.length_append]; omega) (nI 0)
        rw [l1, bd_s]
        refine hX (M - j3) _ (by omega) ⟨j3, L2 ++ (L3 ++ [(k1, nI 0)]), rfl, l4, ?_, ((b3.trans n2.gm).trans c3).trans l3, ?_, by omega, by omega, ?_, fun s hs => ?_, c9, b10.plus b5 ho1 ho2 ho3 (by omega) c5 c10⟩
        · rw [← List.append_assoc, ← List.append_assoc]
          exact l2
        · rw [l5, c4, n2.2 24 (by decide), b4]
        · simp only [List.length_append, List.length_cons, List.length_nil]
          omega
        · rw [tcS_app (b8 s hs), tcS_app (c8 (false :: s) (by simp; omega))]
          exact tc_ari (by omega)
      · rw [if_pos rfl]
        exact wp_ret (Or.inr ⟨rfl, j3, e, c1, c2, c3, (b3.trans n2.gm).trans c4, by omega, c6, MB.plus b10 b5 ho1 ho2 c5 c7⟩)
    unfold f_X12_sumUp_L9 f_X12_sumUp_J29
    simp only [li_0, li_1, li_2, li_3, li_4, li_5, li_6, li_7, li_8, li_9, li_10, li_11, li_12, li_13, li_14, li_15, li_16, li_17, li_18, li_19, li_20, li_21, li_22, li_23, li_24, li_25, li_26, li_27, li_28, li_29, li_30, li_31, li_32, li_37, li_38, li_39, li_40, li_41, li_42, li_43, li_44, li_45, li_46, li_47, li_48, li_49, li_50, li_57, li_59, li_60, li_61, li_62, li_63, li_64, li_65, li_69, li_81, li_89, li_90, li_92, li_97, li_99, li_100, li_101, li_103, li_104, li_105, li_106, li_108, li_111, li_112, li_113, li_114, li_115, li_116, li_117, li_119, li_122, li_123, li_124, li_125, li_126, li_127, li_128, li_129, li_130, li_131, li_132, li_133, li_134, li_135, li_136, li_137, li_140, li_141, li_142, li_143, li_145, li_147, li_150, li_153, li_159, li_160, li_161, li_162, li_185, li_197, li_213, li_222, li_223, li_255, li_256, li_257, li_258, li_259, li_260, li_261, li_262, li_263, li_264, li_271, li_272, li_273, li_274, li_275, li_276, li_277, li_278, li_300, li_400, li_420, li_500, li_802, li_820, li_823, li_839, li_855, li_871, li_887, li_999, li_1000, li_1001, li_1002, li_1003, li_1004, li_1005, li_1006, li_1007, li_1008, li_1009, li_1010, li_1011, li_1012, li_1013, li_1014, li_1015, li_1016, li_1017, li_1018, li_1019, li_1020, li_1021, li_1022, li_1023, li_1707, li_4096, li_9999, li_65536, li_100000, li_1000000, li_1664525, li_100000000, li_252645135, li_858993459, li_1000000007, li_1013904223, li_1431655765, li_m1]
    by_cases q43 : tkK B n j2 = 43
    · have hjM := hM.lt b6 q43 (by decide)
      rw [if_pos (i43.mpr q43), if_pos (i43.mpr q43)]
      exact go 23 4 hjM (by rw [q43]; rfl) (by decide) rfl (by decide)
    · rw [if_neg (fun z => q43 (i43.mp z))]
      by_cases q45 : tkK B n j2 = 45
      · have hjM := hM.lt b6 q45 (by decide)
        rw [if_pos (i45.mpr q45), if_neg (fun z => q43 (i43.mp z))]
        exact go 24 5 hjM (by rw [q45]; rfl) (by decide) rfl (by decide)
      · rw [if_neg (fun z => q45 (i45.mp z))]
        exact wp_ret (Or.inl ⟨rfl, j2, L2, b1, b2, b3, b4, b5, b6, b7, b8, ⟨b9.1, b9.2, q43, q45⟩, b10⟩)
  · rw [if_pos rfl]
    exact wp_ret (Or.inr ⟨rfl, j1, e, a1, a2, a3, a4, a5, a6, MB.down a7⟩)
end SUMS
