/-! THE LAW as the reference reads it -/
def rF (m : Mem) (S : List Spt) (C : Cod) (R : List Rw4) (i : Nat) (l : Lin) (f c : Nat) : Prop :=
  (m 128 (4 * i + 0) = nI f ∧ m 128 (4 * i + 1) = nI (f + l.2.1.length) ∧ m 128 (4 * i + 2) = nI (f + l.2.1.length + l.2.2.length) ∧ m 128 (4 * i + 3) = nI (20 + l.1)) ∧
  f + l.2.1.length + l.2.2.length ≤ S.length ∧ (∀ x p, (l.2.1 ++ l.2.2)[x]? = some p → S[f + x]? = some p) ∧
  R[i]? = some (256 + l.1, nI c, nI (c + (flt l.2.1).length), nI (c + (flt l.2.1).length + (flt l.2.2).length)) ∧
  c + (flt l.2.1).length + (flt l.2.2).length ≤ C.length ∧ ∀ x p, (flt l.2.1 ++ flt l.2.2)[x]? = some p → C[c + x]? = some p
/-- the lines that are read stand on both sides -/
def LnQ (m : Mem) (S : List Spt) (C : Cod) (R : List Rw4) (LN : List Lin) : Prop := R.length = LN.length ∧ C = flt S ∧ (∀ i l, LN[i]? = some l → ∃ f c, rF m S C R i l f c) ∧ ∀ l ∈ LN, lnOk l
section RSLAW
variable {N : Nat} {m m1 m' m2 : Mem} {B : Nat → Nat} {n M j i : Nat} {S : List Spt} {C : Cod} {R : List Rw4} {LN : List Lin} {hH hD : Int32}
theorem app_at {α : Type} {L1 L2 : List α} {i : Nat} {p : α} (h : L1[i]? = some p) : (L1 ++ L2)[i]? = some p := by
  have hi : i < L1.length := by
    refine Nat.lt_of_not_le fun q => ?_
    rw [List.getElem?_eq_none q] at h
    cases h
  rw [List.getElem?_append_left hi]
  exact h
theorem app_in {α : Type} {L1 L2 : List α} {x : Nat} {p : α} (h : L2[x]? = some p) : (L1 ++ L2)[L1.length + x]? = some p := by
  rw [List.getElem?_append_right (by omega), Nat.add_sub_cancel_left]
  exact h
theorem LnQ.snoc {A D : List Spt} {t : Nat} (h : LnQ m S C R LN) (hm : ∀ l, l < 4 * LN.length → m' 128 l = m 128 l) (hok : lnOk (t, A, D))
    (h0 : m' 128 (4 * LN.length + 0) = nI S.length) (h1 : m' 128 (4 * LN.length + 1) = nI (S.length + A.length)) (h2 : m' 128 (4 * LN.length + 2) = nI (S.length + A.length + D.length)) (h3 : m' 128 (4 * LN.length + 3) = nI (20 + t)) :
    LnQ m' (S ++ (A ++ D)) (C ++ flt A ++ flt D) (R ++ [(256 + t, nI C.length, nI (C ++ flt A).length, nI (C ++ flt A ++ flt D).length)]) (LN ++ [(t, A, D)]) := by
  obtain ⟨a1, a2, a3, a4⟩ := h
  refine ⟨by simp only [List.length_append, List.length_cons, List.length_nil, a1], by rw [flt_app, flt_app, a2, List.append_assoc], fun i l hl => ?_, fun l hl => ?_⟩
  · by_cases e : i < LN.length
    · rw [List.getElem?_append_left e] at hl
      obtain ⟨f, c, ⟨b0, b1, b2, b3⟩, b4, b5, b6, b7, b8⟩ := a3 i l hl
      refine ⟨f, c, ⟨by rw [hm _ (by omega)]; exact b0, by rw [hm _ (by omega)]; exact b1, by rw [hm _ (by omega)]; exact b2, by rw [hm _ (by omega)]; exact b3⟩, by rw [List.length_append]; omega, fun x p hp => app_at (b5 x p hp), app_at b6, ?_, fun x p hp => ?_⟩
      · simp only [List.length_append]; omega
      · rw [List.append_assoc]
        exact app_at (b8 x p hp)
    · rw [List.getElem?_append_right (by omega)] at hl
      have : i = LN.length := by
        refine Decidable.by_contra fun z => ?_
        rw [List.getElem?_eq_none (by simp; omega)] at hl
        cases hl
      subst this
      rw [Nat.sub_self] at hl
      cases hl
      refine ⟨S.length, C.length, ⟨h0, h1, h2, h3⟩, by simp only [List.length_append]; omega, fun x p hp => app_in hp, ?_, by simp only [List.length_append]; omega, fun x p hp => ?_⟩
      · rw [← a1, List.getElem?_append_right (Nat.le_refl _), Nat.sub_self]
        simp only [List.length_append]
        rfl
      · rw [List.append_assoc]
        exact app_in hp
  · rcases List.mem_append.mp hl with hl | hl
    · exact a4 l hl
    · rw [List.mem_singleton.mp hl]
      exact hok
/-- what reading may change in the reference -/
def Gr (m m' : Mem) : Prop := (∀ x, x ≠ 123 → x ≠ 128 → x ≠ 129 → x ≠ 130 → m' x = m x) ∧ ∀ l, (l < 13 ∨ l = 16 ∨ 22 < l) → l ≠ 24 → m' 123 l = m 123 l
theorem Gr.rf : Gr m m := ⟨fun _ _ _ _ _ => rfl, fun _ _ _ => rfl⟩
theorem Gr.trans (h : Gr m m1) (h2 : Gr m1 m2) : Gr m m2 := ⟨fun x x1 x2 x3 x4 => by rw [h2.1 x x1 x2 x3 x4, h.1 x x1 x2 x3 x4], fun l l1 l2 => by rw [h2.2 l l1 l2, h.2 l l1 l2]⟩
theorem Gl.gr (h : Gl i m m1) : Gr m m1 := ⟨fun x x1 x2 x3 _ => h.1 x x1 x2 x3, fun l l1 l2 => h.2.1 l (by omega) (by omega) l2⟩
theorem Lk.gr (h : Lk m m1) : Gr m m1 := ⟨fun x x1 _ _ _ => h.1 x x1, fun l l1 l2 => h.2 l (by omega)⟩
/-- it is blamed, as the class blames -/
def rdN (B : Nat → Nat) (n k : Nat) (hH hD : Int32) (m m' : Mem) : Prop :=
  ∃ c, fnl (tkK B n) (itt (tpS (tkK B n) (tkV B n) hH hD k) c (0, 0, [], [])) ∧ (itt (tpS (tkK B n) (tkV B n) hH hD k) c (0, 0, [], [])).1 ≠ 0 ∧ m' 123 21 = nI (itt (tpS (tkK B n) (tkV B n) hH hD k) c (0, 0, [], [])).1 ∧ m' 123 22 = nI (psT B n (itt (tpS (tkK B n) (tkV B n) hH hD k) c (0, 0, [], [])).2.1) ∧ Gr m m'
theorem w_readsLaw (hN : 20000 ≤ N) (hM : Mt B n M) (h : RT B n 0 0 m) :
    Wp (f_X12_readsLaw N m) (fun v m' => (v = nI 1 ∧ ∃ c j C R S LN, itt (tpS (tkK B n) (tkV B n) hH hD 0) c (0, 0, [], []) = (0, j, C, R) ∧ tkK B n j = 0 ∧ LnQ m' S C R LN ∧ SR m' S ∧ S.length ≤ 400 ∧ m' 123 13 = nI R.length ∧ R.length ≤ 16 ∧ Gr m m') ∨ (v = nI 0 ∧ rdN B n 0 hH hD m m')) := by
  have hM4 := hM.1
  unfold f_X12_readsLaw
  simp only [li_0, li_1, li_2, li_3, li_4, li_5, li_6, li_7, li_8, li_9, li_10, li_11, li_12, li_13, li_14, li_15, li_16, li_17, li_18, li_19, li_20, li_21, li_22, li_23, li_24, li_25, li_26, li_27, li_28, li_29, li_30, li_31, li_32, li_37, li_38, li_39, li_40, li_41, li_42, li_43, li_44, li_45, li_46, li_47, li_48, li_49, li_50, li_57, li_59, li_60, li_61, li_62, li_63, li_64, li_65, li_69, li_81, li_89, li_90, li_92, li_97, li_99, li_100, li_101, li_103, li_104, li_105, li_106, li_108, li_111, li_112, li_113, li_114, li_115, li_116, li_117, li_119, li_122, li_123, li_124, li_125, li_126, li_127, li_128, li_129, li_130, li_131, li_132, li_133, li_134, li_135, li_136, li_137, li_140, li_141, li_142, li_143, li_145, li_147, li_150, li_153, li_159, li_160, li_161, li_162, li_185, li_197, li_213, li_222, li_223, li_255, li_256, li_257, li_258, li_259, li_260, li_261, li_262, li_263, li_264, li_271, li_272, li_273, li_274, li_275, li_276, li_277, li_278, li_300, li_400, li_420, li_500, li_802, li_820, li_823, li_839, li_855, li_871, li_887, li_999, li_1000, li_1001, li_1002, li_1003, li_1004, li_1005, li_1006, li_1007, li_1008, li_1009, li_1010, li_1011, li_1012, li_1013, li_1014, li_1015, li_1016, li_1017, li_1018, li_1019, li_1020, li_1021, li_1022, li_1023, li_1707, li_4096, li_9999, li_65536, li_100000, li_1000000, li_1664525, li_100000000, li_252645135, li_858993459, li_1000000007, li_1013904223, li_1431655765, li_m1]
  rw [bnd_s, bnd_s]
  have r1 : RT B n 0 0 (mset (mset m 123 13 (nI 0)) 123 14 (nI 0)) := h.lk (fun x x1 x2 x3 x4 => by rw [mset_ne x1, mset_ne x1]) (fun i hi => by rw [mset_j (by omega), mset_j (by omega)])
  have e13 : (mset (mset m 123 13 (nI 0)) 123 14 (nI 0)) 123 13 = nI 0 := by rw [mset_j (by decide), mset_at]
  have e14 : (mset (mset m 123 13 (nI 0)) 123 14 (nI 0)) 123 14 = nI 0 := mset_at _ _ _ _
  have g1 : Gr m (mset (mset m 123 13 (nI 0)) 123 14 (nI 0)) := ⟨fun x x1 x2 x3 x4 => by rw [mset_ne x1, mset_ne x1], fun l l1 l2 => by rw [mset_j (by omega), mset_j (by omega)]⟩
  revert r1 e13 e14 g1
  generalize mset (mset m 123 13 (nI 0)) 123 14 (nI 0) = m1
  intro r1 e13 e14 g1
  refine wp_it1 (fun q a m' => (∃ c j C R S LN, q = M + 1 - j ∧ a = nI 1 ∧ itt (tpS (tkK B n) (tkV B n) hH hD 0) c (0, 0, [], []) = (0, j, C, R) ∧ LnQ m' S C R LN ∧ SR m' S ∧ S.length ≤ j ∧ j ≤ M ∧ m' 123 13 = nI R.length ∧ R.length ≤ 16 ∧ RT B n 0 j m' ∧ Gr m m') ∨ (q = 0 ∧ a = nI 0 ∧ rdN B n 0 hH hD m m')) ?_ N (M + 1) _ _ (by omega)
    (Or.inl ⟨0, 0, [], [], [], [], rfl, rfl, rfl, ⟨rfl, rfl, fun i l hl => by simp at hl, fun l hl => by cases hl⟩, ⟨e14, fun i p hp => by simp at hp⟩, by simp, Nat.zero_le _, e13, by simp, r1, g1⟩)
  rintro q X a m2 (⟨c, j, C, R, S, LN, rfl, rfl, b1, b2, b3, b4, b5, b6, b7, b8, b9⟩ | ⟨rfl, rfl, b1⟩) hX
  · obtain ⟨t0, -⟩ := trK_a _ b8.c
    have i0 := b8.is t0 (by decide)
    unfold f_X12_readsLaw_L12
    simp only [li_0, li_1, li_2, li_3, li_4, li_5, li_6, li_7, li_8, li_9, li_10, li_11, li_12, li_13, li_14, li_15, li_16, li_17, li_18, li_19, li_20, li_21, li_22, li_23, li_24, li_25, li_26, li_27, li_28, li_29, li_30, li_31, li_32, li_37, li_38, li_39, li_40, li_41, li_42, li_43, li_44, li_45, li_46, li_47, li_48, li_49, li_50, li_57, li_59, li_60, li_61, li_62, li_63, li_64, li_65, li_69, li_81, li_89, li_90, li_92, li_97, li_99, li_100, li_101, li_103, li_104, li_105, li_106, li_108, li_111, li_112, li_113, li_114, li_115, li_116, li_117, li_119, li_122, li_123, li_124, li_125, li_126, li_127, li_128, li_129, li_130, li_131, li_132, li_133, li_134, li_135, li_136, li_137, li_140, li_141, li_142, li_143, li_145, li_147, li_150, li_153, li_159, li_160, li_161, li_162, li_185, li_197, li_213, li_222, li_223, li_255, li_256, li_257, li_258, li_259, li_260, li_261, li_262, li_263, li_264, li_271, li_272, li_273, li_274, li_275, li_276, li_277, li_278, li_300, li_400, li_420, li_500, li_802, li_820, li_823, li_839, li_855, li_871, li_887, li_999, li_1000, li_1001, li_1002, li_1003, li_1004, li_1005, li_1006, li_1007, li_1008, li_1009, li_1010, li_1011, li_1012, li_1013, li_1014, li_1015, li_1016, li_1017, li_1018, li_1019, li_1020, li_1021, li_1022, li_1023, li_1707, li_4096, li_9999, li_65536, li_100000, li_1000000, li_1664525, li_100000000, li_252645135, li_858993459, li_1000000007, li_1013904223, li_1431655765, li_m1]
    rw [if_neg (by decide)]
    by_cases q0 : tkK B n j = 0
    · rw [if_pos (i0.mpr q0), show isB (nI 1) = true from rfl, chk_t]
      exact wp_ret (Or.inl ⟨rfl, c, j, C, R, S, LN, b1, q0, b2, b3, by omega, b6, b7, b9⟩)
    · have hjM := hM.lt b5 rfl q0
      have hnf : ¬ fnl (tkK B n) (0, j, C, R) := fun z => z.elim (fun y => y rfl) q0
      have ei := itt_s (F := tpS (tkK B n) (tkV B n) hH hD 0) (s := (0, 0, [], [])) c
      rw [b1] at ei
      rw [if_neg (fun z => q0 (i0.mp z))]
      refine wp_bind (w_aLine (hH := hH) (hD := hD) (C := C) hN hM b8 b3 b4 b5 q0 b6 b7) ?_
      rintro v m3 (⟨rfl, j', t, A, D, c1, c2, c3, c4, c5, c6, c7, c8, c9, c10, c11, c12⟩ | ⟨rfl, j', e, c1, c2, c3, c4, c5, c6⟩)
      · have hl : LN.length = R.length := b2.1.symm
        rw [if_neg (by decide), c3.2.1 13 (by decide) (by decide) (by decide), b6, nI_up, bnd_s]
        rw [c12] at ei
        have hl16 : R.length < 16 := by
          refine Nat.lt_of_not_le fun z => ?_
          have e16 : R.length = 16 := by omega
          by_cases qb : bgn 0 (tkK B n j) = true
          · rw [tpS_16 q0 qb e16] at c12
            cases c12
          · have qb : bgn 0 (tkK B n j) = false := by cases y : bgn 0 (tkK B n j) with
              | true => exact absurd y qb
              | false => rfl
            rw [tpS_nb q0 qb] at c12
            cases c12
        refine hX (M + 1 - j') _ _ (by omega) (Or.inl ⟨c + 1, j', C ++ flt A ++ flt D, _, S ++ (A ++ D), LN ++ [(t, A, D)], rfl, rfl, ei, ?_, ?_, ?_, c5, ?_, ?_, ?_, ?_⟩)
        · have := b2.snoc (m' := mset m3 123 13 (nI (R.length + 1))) (A := A) (D := D) (t := t) (fun l hl2 => by rw [mset_ne (by decide)]; exact c3.2.2 l (by omega)) c7
          rw [hl] at this
          exact this (by rw [mset_k (by decide)]; exact c8) (by rw [mset_k (by decide)]; exact c9) (by rw [mset_k (by decide)]; exact c10) (by rw [mset_k (by decide)]; exact c11)
        · exact ⟨by rw [mset_j (by decide)]; exact c2.1, by rw [mset_ne (by decide)]; exact c2.2⟩
        · rw [List.length_append]; omega
        · rw [mset_at, List.length_append]; rfl
        · rw [List.length_append]; simp; omega
        · exact c1.lk (fun x x1 x2 x3 x4 => mset_ne x1) (fun i hi => mset_j (by omega))
        · exact (b9.trans c3.gr).trans ⟨fun x x1 x2 x3 x4 => mset_ne x1, fun l l1 l2 => mset_j (by omega)⟩
      · rw [if_pos rfl, bnd_s]
        refine hX 0 _ _ (by omega) (Or.inr ⟨rfl, rfl, c + 1, ?_, ?_, ?_, ?_, ?_⟩)
        · rw [ei]; exact Or.inl (by rw [c5]; omega)
        · rw [ei, c5]; omega
        · rw [ei, c5, mset_j (by decide)]; exact c1
        · rw [ei, c6, mset_j (by decide)]; exact c3
        · exact (b9.trans c4.gr).trans ⟨fun x x1 x2 x3 x4 => mset_ne x1, fun l l1 l2 => mset_j (by omega)⟩
  · unfold f_X12_readsLaw_L12
    simp only [li_0, li_1, li_2, li_3, li_4, li_5, li_6, li_7, li_8, li_9, li_10, li_11, li_12, li_13, li_14, li_15, li_16, li_17, li_18, li_19, li_20, li_21, li_22, li_23, li_24, li_25, li_26, li_27, li_28, li_29, li_30, li_31, li_32, li_37, li_38, li_39, li_40, li_41, li_42, li_43, li_44, li_45, li_46, li_47, li_48, li_49, li_50, li_57, li_59, li_60, li_61, li_62, li_63, li_64, li_65, li_69, li_81, li_89, li_90, li_92, li_97, li_99, li_100, li_101, li_103, li_104, li_105, li_106, li_108, li_111, li_112, li_113, li_114, li_115, li_116, li_117, li_119, li_122, li_123, li_124, li_125, li_126, li_127, li_128, li_129, li_130, li_131, li_132, li_133, li_134, li_135, li_136, li_137, li_140, li_141, li_142, li_143, li_145, li_147, li_150, li_153, li_159, li_160, li_161, li_162, li_185, li_197, li_213, li_222, li_223, li_255, li_256, li_257, li_258, li_259, li_260, li_261, li_262, li_263, li_264, li_271, li_272, li_273, li_274, li_275, li_276, li_277, li_278, li_300, li_400, li_420, li_500, li_802, li_820, li_823, li_839, li_855, li_871, li_887, li_999, li_1000, li_1001, li_1002, li_1003, li_1004, li_1005, li_1006, li_1007, li_1008, li_1009, li_1010, li_1011, li_1012, li_1013, li_1014, li_1015, li_1016, li_1017, li_1018, li_1019, li_1020, li_1021, li_1022, li_1023, li_1707, li_4096, li_9999, li_65536, li_100000, li_1000000, li_1664525, li_100000000, li_252645135, li_858993459, li_1000000007, li_1013904223, li_1431655765, li_m1]
    rw [if_pos trivial, show isB (nI 0) = true from rfl, chk_t]
    exact wp_ret (Or.inr ⟨rfl, b1⟩)
end RSLAW
