/-! a text as the class reads it -/
abbrev Rw4 : Type := Nat × Int32 × Int32 × Int32
abbrev Ts : Type := Nat × Nat × Cod × List Rw4
def bgn (k k0 : Nat) : Bool := if k = 0 then decide (256 ≤ k0 ∧ k0 ≤ 258) else if k = 1 then decide (k0 = 264 ∨ (274 ≤ k0 ∧ k0 ≤ 276)) else if k = 2 then decide (k0 = 277) else decide (k0 = 263)
def lnM (K : Nat → Nat) (V : Nat → Int32) (j : Nat) (C : Cod) : Mst := itn K V 802 (1, j, [], C, 0, 0, 0, 0)
def tpS (K : Nat → Nat) (V : Nat → Int32) (hH hD : Int32) (k : Nat) (s : Ts) : Ts :=
  if s.1 ≠ 0 ∨ K s.2.1 = 0 then s
  else if bgn k (K s.2.1) = false then (1, s.2)
  else if s.2.2.2.length = 16 then (3, s.2)
  else if k = 0 then ((lnM K V (s.2.1 + 1) s.2.2.1).2.2.2.2.2.2.2, (lnM K V (s.2.1 + 1) s.2.2.1).2.1, (lnM K V (s.2.1 + 1) s.2.2.1).2.2.2.1, s.2.2.2 ++ [(K s.2.1, nI s.2.2.1.length, nI (lnM K V (s.2.1 + 1) s.2.2.1).2.2.2.2.2.1, nI (lnM K V (s.2.1 + 1) s.2.2.1).2.2.2.2.2.2.1)])
  else ((rowS K V hH hD k (K s.2.1) (0, s.2.1 + 1, nI 0, nI 0)).1, (rowS K V hH hD k (K s.2.1) (0, s.2.1 + 1, nI 0, nI 0)).2.1, s.2.2.1, s.2.2.2 ++ [(K s.2.1, (rowS K V hH hD k (K s.2.1) (0, s.2.1 + 1, nI 0, nI 0)).2.2.1, (rowS K V hH hD k (K s.2.1) (0, s.2.1 + 1, nI 0, nI 0)).2.2.2, nI 0)])
def itt (F : Ts → Ts) : Nat → Ts → Ts
  | 0, s => s
  | c + 1, s => itt F c (F s)
def fnl (K : Nat → Nat) (s : Ts) : Prop := s.1 ≠ 0 ∨ K s.2.1 = 0
def rwA (m : Mem) (i : Nat) (q : Rw4) : Prop := m 105 (i * 4 + 0) = nI q.1 ∧ m 105 (i * 4 + 1) = q.2.1 ∧ m 105 (i * 4 + 2) = q.2.2.1 ∧ m 105 (i * 4 + 3) = q.2.2.2
def rwsA (m : Mem) (R : List Rw4) : Prop := ∀ i q, R[i]? = some q → rwA m i q
def TxC (B : Nat → Nat) (n M : Nat) (h1 d1 : Int32) (m0 m : Mem) (s : Ts) : Prop :=
  (CT B n M s.2.1 m ∧ s.2.1 ≤ M) ∧ Fx m ∧ m 106 3 = nI s.2.2.1.length ∧ cdR (m 107) s.2.2.1 ∧ m 104 3 = nI s.2.2.2.length ∧ s.2.2.2.length ≤ 16 ∧ rwsA m s.2.2.2 ∧ m 103 3 = nI s.1 ∧ ((s.1 ≠ 0 → m 103 4 = nI (psT B n s.2.1)) ∧ (s.1 = 0 → m 103 4 = mo1)) ∧
  m 103 10 = h1 ∧ m 103 11 = d1 ∧ s.2.2.1.length ≤ s.2.1 ∧ ∀ x, x < 99 ∨ 109 < x → m x = m0 x
section READ
variable {N : Nat} {m0 m m1 m' : Mem} {B : Nat → Nat} {n M li k k0 : Nat} {s t : Ts} {f j : Nat} {C : Cod} {R : List Rw4} {a b h1 d1 : Int32} {K : Nat → Nat} {V : Nat → Int32} {F : Ts → Ts}
theorem itt_add : ∀ (a b : Nat) (s : Ts), itt F (a + b) s = itt F b (itt F a s)
  | 0, b, s => by rw [Nat.zero_add]; rfl
  | a + 1, b, s => by
    rw [show a + 1 + b = (a + b) + 1 by omega]
    exact itt_add a b (F s)
theorem itt_fix (h : F s = s) : ∀ c, itt F c s = s
  | 0 => rfl
  | c + 1 => by
    show itt F c (F s) = s
    rw [h]
    exact itt_fix h c
theorem tpS_fix {hH hD : Int32} (h : fnl K s) : tpS K V hH hD k s = s := if_pos h
/-- where a reading ends is one place alone -/
theorem itt_one {hH hD : Int32} {c d : Nat} {s0 : Ts} (hc : fnl K (itt (tpS K V hH hD k) c s0)) (hd : fnl K (itt (tpS K V hH hD k) d s0)) : itt (tpS K V hH hD k) c s0 = itt (tpS K V hH hD k) d s0 := by
  by_cases q : c ≤ d
  · obtain ⟨e, rfl⟩ : ∃ e, d = c + e := ⟨d - c, by omega⟩
    rw [itt_add, itt_fix (tpS_fix hc)]
  · obtain ⟨e, rfl⟩ : ∃ e, c = d + e := ⟨c - d, by omega⟩
    rw [itt_add, itt_fix (tpS_fix hd)]
theorem stp_up (s : Mst) : s.2.1 ≤ (stp K V s).2.1 := by
  unfold stp stp0 stp1 stp2 stp3 stp4
  repeat' split
  all_goals first | exact Nat.le_refl _ | exact Nat.le_succ _
theorem itn_up : ∀ (c : Nat) (s : Mst), s.2.1 ≤ (itn K V c s).2.1
  | 0, _ => Nat.le_refl _
  | c + 1, s => Nat.le_trans (stp_up s) (itn_up c _)
theorem woR_up {word : Nat} (s : Rws) : s.2.1 ≤ (woR K word s).2.1 := by
  unfold woR
  repeat' split
  all_goals first | exact Nat.le_refl _ | exact Nat.le_succ _
theorem nu1_up {lo hi : Int32} (s : Rws) : s.2.1 ≤ (nu1 K V lo hi s).2.1 := by
  unfold nu1
  repeat' split
  all_goals first | exact Nat.le_refl _ | exact Nat.le_succ _
theorem nu2_up {lo hi : Int32} {al : Bool} (s : Rws) : s.2.1 ≤ (nu2 K V al lo hi s).2.1 := by
  unfold nu2
  repeat' split
  all_goals first | exact Nat.le_refl _ | exact Nat.le_succ _
theorem rowS_up {hH hD : Int32} (s : Rws) : s.2.1 ≤ (rowS K V hH hD k k0 s).2.1 := by
  unfold rowS
  split
  · refine Nat.le_trans ?_ (woR_up _)
    split
    · exact Nat.le_trans (nu1_up s) (Nat.le_trans (woR_up _) (nu2_up _))
    · split
      · exact nu1_up s
      · split
        · exact nu1_up s
        · exact nu1_up s
  · split
    · exact Nat.le_trans (nu1_up s) (Nat.le_trans (woR_up _) (Nat.le_trans (nu2_up _) (woR_up _)))
    · exact Nat.le_trans (nu1_up s) (Nat.le_trans (woR_up _) (Nat.le_trans (nu2_up _) (woR_up _)))
theorem w_rowS {hH hD : Int32} {s : Rws} (hM : Mt B n M) (hk : k = 1 ∨ k = 2 ∨ k = 3) (hb : bgn k k0 = true) (hli : li < 16) (h : RxC B n M li k0 m0 m s) (hs : s.1 < 4) (hH1 : m 103 10 - nI 1 = hH) (hD1 : m 103 11 - nI 1 = hD) :
    Wp (swt (Int32.toInt (nI k) - (0)) [(bd (f_X6_readLaw N m) fun _ m_89 => some (nI 0, m_89)), (bd (f_X6_readStatute N (nI k0) m) fun _ m_97 => some (nI 0, m_97)),
      (bd (f_X6_readNumber N (nI 1) (nI 0) (nI 9999) m) fun _ m_109 => bd (f_X6_readWord N (nI 278) m_109) fun _ m_116 => bd (f_X6_readNumber N (nI 2) (nI 0) ((m_116 103 11) - nI 1) m_116) fun _ m_128 => bd (f_X6_readWord N (nI 59) m_128) fun _ m_134 => some (nI 0, m_134))]
      (bd (f_X6_readNumber N (nI 1) (nI 0) ((m 103 10) - nI 1) m) fun _ m_149 => bd (f_X6_readWord N (nI 271) m_149) fun _ m_156 => bd (f_X6_readNumber N (nI 2) (nI 0) ((m_156 103 10) - nI 1) m_156) fun _ m_168 => bd (f_X6_readWord N (nI 59) m_168) fun _ m_174 => some (nI 0, m_174)))
      (fun _ m' => RxC B n M li k0 m0 m' (rowS (tkK B n) (tkV B n) hH hD k k0 s)) := by
  have e10 : ∀ {m2 : Mem} {s2 : Rws}, RxC B n M li k0 m0 m2 s2 → m2 103 10 = m 103 10 ∧ m2 103 11 = m 103 11 := fun h2 => by
    obtain ⟨-, -, -, -, -, -, -, -, -, -, -, g⟩ := h
    obtain ⟨-, -, -, -, -, -, -, -, -, -, -, g2⟩ := h2
    exact ⟨by rw [g 10 (by decide) (by decide), g2 10 (by decide) (by decide)], by rw [g 11 (by decide) (by decide), g2 11 (by decide) (by decide)]⟩
  rcases hk with rfl | rfl | rfl
  · refine wp_eq (swt_at 1 (by decide) rfl) ?_
    have hk0 : k0 = 264 ∨ k0 = 274 ∨ k0 = 275 ∨ k0 = 276 := by
      have : k0 = 264 ∨ (274 ≤ k0 ∧ k0 ≤ 276) := of_decide_eq_true hb
      omega
    unfold f_X6_readStatute
    simp only [li_0, li_1, li_2, li_3, li_4, li_5, li_6, li_7, li_8, li_9, li_10, li_11, li_12, li_13, li_14, li_15, li_16, li_17, li_18, li_19, li_20, li_21, li_22, li_23, li_24, li_25, li_26, li_27, li_28, li_29, li_30, li_31, li_32, li_37, li_38, li_39, li_40, li_41, li_42, li_43, li_44, li_45, li_46, li_47, li_48, li_49, li_50, li_57, li_59, li_60, li_61, li_62, li_63, li_64, li_65, li_69, li_81, li_89, li_90, li_92, li_97, li_99, li_100, li_101, li_103, li_104, li_105, li_106, li_108, li_111, li_112, li_113, li_114, li_115, li_116, li_117, li_119, li_122, li_123, li_124, li_125, li_126, li_127, li_128, li_129, li_130, li_131, li_132, li_133, li_134, li_135, li_136, li_137, li_140, li_141, li_142, li_143, li_145, li_147, li_150, li_153, li_159, li_160, li_161, li_162, li_185, li_197, li_213, li_222, li_223, li_255, li_256, li_257, li_258, li_259, li_260, li_261, li_262, li_263, li_264, li_271, li_272, li_273, li_274, li_275, li_276, li_277, li_278, li_300, li_400, li_420, li_500, li_802, li_820, li_823, li_839, li_855, li_871, li_887, li_999, li_1000, li_1001, li_1002, li_1003, li_1004, li_1005, li_1006, li_1007, li_1008, li_1009, li_1010, li_1011, li_1012, li_1013, li_1014, li_1015, li_1016, li_1017, li_1018, li_1019, li_1020, li_1021, li_1022, li_1023, li_1707, li_4096, li_9999, li_65536, li_100000, li_1000000, li_1664525, li_100000000, li_252645135, li_858993459, li_1000000007, li_1013904223, li_1431655765, li_m1]
    unfold rowS
    rw [if_pos rfl]
    rcases hk0 with rfl | rfl | rfl | rfl
    · rw [if_pos rfl, if_pos rfl]
      refine wp_bind (wp_bind (w_rN1 hM h hs hli) ?_) (fun v m2 h2 => wp_ret h2)
      rintro _ m2 ⟨h2, s2⟩
      refine wp_bind (w_rW hM h2 s2 (by decide)) ?_
      rintro _ m3 ⟨h3, s3⟩
      refine wp_bind (w_rN2 (al := false) hM h3 s3 hli (by decide) (by decide)) ?_
      rintro _ m4 ⟨h4, s4⟩
      refine wp_bind (w_rW hM h4 s4 (by decide)) ?_
      rintro _ m5 ⟨h5, s5⟩
      exact wp_ret h5
    · rw [if_neg (by decide), if_pos rfl, if_neg (by decide), if_pos rfl]
      refine wp_bind (wp_bind (w_rN1 hM h hs hli) ?_) (fun v m2 h2 => wp_ret h2)
      rintro _ m2 ⟨h2, s2⟩
      refine wp_bind (w_rW hM h2 s2 (by decide)) ?_
      rintro _ m3 ⟨h3, s3⟩
      exact wp_ret h3
    · rw [if_neg (by decide), if_neg (by decide), if_pos rfl, if_neg (by decide), if_neg (by decide), if_pos rfl, hH1]
      refine wp_bind (wp_bind (w_rN1 hM h hs hli) ?_) (fun v m2 h2 => wp_ret h2)
      rintro _ m2 ⟨h2, s2⟩
      refine wp_bind (w_rW hM h2 s2 (by decide)) ?_
      rintro _ m3 ⟨h3, s3⟩
      exact wp_ret h3
    · rw [if_neg (by decide), if_neg (by decide), if_neg (by decide), if_neg (by decide), if_neg (by decide), if_neg (by decide)]
      refine wp_bind (wp_bind (w_rN1 hM h hs hli) ?_) (fun v m2 h2 => wp_ret h2)
      rintro _ m2 ⟨h2, s2⟩
      refine wp_bind (w_rW hM h2 s2 (by decide)) ?_
      rintro _ m3 ⟨h3, s3⟩
      exact wp_ret h3
  · refine wp_eq (swt_at 2 (by decide) rfl) ?_
    have hk0 : k0 = 277 := of_decide_eq_true hb
    subst hk0
    unfold rowS
    rw [if_neg (by decide), if_pos rfl]
    refine wp_bind (w_rN1 hM h hs hli) ?_
    rintro _ m2 ⟨h2, s2⟩
    refine wp_bind (w_rW hM h2 s2 (by decide)) ?_
    rintro _ m3 ⟨h3, s3⟩
    rw [(e10 h3).2, hD1]
    refine wp_bind (w_rN2 (al := false) hM h3 s3 hli (by decide) (by decide)) ?_
    rintro _ m4 ⟨h4, s4⟩
    refine wp_bind (w_rW hM h4 s4 (by decide)) ?_
    rintro _ m5 ⟨h5, s5⟩
    exact wp_ret h5
  · refine wp_eq (swt_no (Or.inr (by simp; decide))) ?_
    have hk0 : k0 = 263 := of_decide_eq_true hb
    subst hk0
    unfold rowS
    rw [if_neg (by decide), if_neg (by decide), hH1]
    refine wp_bind (w_rN1 hM h hs hli) ?_
    rintro _ m2 ⟨h2, s2⟩
    refine wp_bind (w_rW hM h2 s2 (by decide)) ?_
    rintro _ m3 ⟨h3, s3⟩
    rw [(e10 h3).1, hH1]
    refine wp_bind (w_rN2 (al := true) hM h3 s3 hli (by decide) (by decide)) ?_
    rintro _ m4 ⟨h4, s4⟩
    refine wp_bind (w_rW hM h4 s4 (by decide)) ?_
    rintro _ m5 ⟨h5, s5⟩
    exact wp_ret h5
theorem e_begins (hk : k ≤ 3) (hk0 : k0 < 279) : f_X6_begins N (nI k) (nI k0) m = some (b2i (bgn k k0), m) := by
  have : k = 0 ∨ k = 1 ∨ k = 2 ∨ k = 3 := by omega
  unfold f_X6_begins
  simp only [li_0, li_1, li_2, li_3, li_4, li_5, li_6, li_7, li_8, li_9, li_10, li_11, li_12, li_13, li_14, li_15, li_16, li_17, li_18, li_19, li_20, li_21, li_22, li_23, li_24, li_25, li_26, li_27, li_28, li_29, li_30, li_31, li_32, li_37, li_38, li_39, li_40, li_41, li_42, li_43, li_44, li_45, li_46, li_47, li_48, li_49, li_50, li_57, li_59, li_60, li_61, li_62, li_63, li_64, li_65, li_69, li_81, li_89, li_90, li_92, li_97, li_99, li_100, li_101, li_103, li_104, li_105, li_106, li_108, li_111, li_112, li_113, li_114, li_115, li_116, li_117, li_119, li_122, li_123, li_124, li_125, li_126, li_127, li_128, li_129, li_130, li_131, li_132, li_133, li_134, li_135, li_136, li_137, li_140, li_141, li_142, li_143, li_145, li_147, li_150, li_153, li_159, li_160, li_161, li_162, li_185, li_197, li_213, li_222, li_223, li_255, li_256, li_257, li_258, li_259, li_260, li_261, li_262, li_263, li_264, li_271, li_272, li_273, li_274, li_275, li_276, li_277, li_278, li_300, li_400, li_420, li_500, li_802, li_820, li_823, li_839, li_855, li_871, li_887, li_999, li_1000, li_1001, li_1002, li_1003, li_1004, li_1005, li_1006, li_1007, li_1008, li_1009, li_1010, li_1011, li_1012, li_1013, li_1014, li_1015, li_1016, li_1017, li_1018, li_1019, li_1020, li_1021, li_1022, li_1023, li_1707, li_4096, li_9999, li_65536, li_100000, li_1000000, li_1664525, li_100000000, li_252645135, li_858993459, li_1000000007, li_1013904223, li_1431655765, li_m1]
  unfold bgn
  rcases this with rfl | rfl | rfl | rfl
  · rw [swt_at 0 (by decide) rfl, e_within, rng_is (by omega) (by omega) (by omega), bd_s, isB_b2i, chk_t, if_pos rfl]
  · rw [swt_at 1 (by decide) rfl, if_neg (show ¬ (1 : Nat) = 0 by decide), if_pos (show (1 : Nat) = 1 from rfl)]
    by_cases q : k0 = 264
    · rw [if_pos (by rw [q]), decide_eq_true (Or.inl q)]; rfl
    · rw [if_neg (nI_ne q (by omega) (by omega)), e_within, rng_is (by omega) (by omega) (by omega), bd_s, if_b2i]
      by_cases q2 : 274 ≤ k0 ∧ k0 ≤ 276
      · rw [decide_eq_true q2, decide_eq_true (Or.inr q2)]; rfl
      · rw [decide_eq_false q2, decide_eq_false (fun z => z.elim q q2)]; rfl
  · rw [swt_at 2 (by decide) rfl, if_neg (show ¬ (2 : Nat) = 0 by decide), if_neg (show ¬ (2 : Nat) = 1 by decide), if_pos (show (2 : Nat) = 2 from rfl)]
    by_cases q : k0 = 277
    · rw [if_pos (by rw [q]), decide_eq_true q]; rfl
    · rw [if_neg (nI_ne q (by omega) (by omega)), decide_eq_false q]; rfl
  · rw [swt_no (Or.inr (by simp; decide)), if_neg (show ¬ (3 : Nat) = 0 by decide), if_neg (show ¬ (3 : Nat) = 1 by decide), if_neg (show ¬ (3 : Nat) = 2 by decide)]
    by_cases q : k0 = 263
    · rw [if_pos (by rw [q]), decide_eq_true q]; rfl
    · rw [if_neg (nI_ne q (by omega) (by omega)), decide_eq_false q]; rfl
theorem rwsA.snoc (h : rwsA m R) (hk : ∀ i, i < R.length * 4 → m' 105 i = m 105 i) {q : Rw4} (hq : rwA m' R.length q) : rwsA m' (R ++ [q]) := by
  intro i p hp
  by_cases e : i < R.length
  · rw [List.getElem?_append_left e] at hp
    have := h i p hp
    unfold rwA at this ⊢
    rw [hk _ (by omega), hk _ (by omega), hk _ (by omega), hk _ (by omega)]
    exact this
  · rw [List.getElem?_append_right (by omega)] at hp
    have : i = R.length := by
      refine Decidable.by_contra fun z => ?_
      rw [List.getElem?_eq_none (by simp; omega)] at hp
      cases hp
    subst this
    rw [Nat.sub_self] at hp
    cases hp
    exact hq
end READ
