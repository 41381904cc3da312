/-! the image -/
section IMAGE
variable {w w' : Arr} {LN : List Lin} {m m' m2 : Mem} {N b c : Nat}
theorem stAt.cgB : ∀ {L : List Spt} {x : Nat}, stAt w x L → x + L.length ≤ 400 → (∀ i, i < 1707 → w' i = w i) → stAt w' x L
  | [], _, _, _, _ => trivial
  | p :: r, x, h, hl, hw => by
    have hl : x + (r.length + 1) ≤ 400 := hl
    exact ⟨by rw [hw _ (by omega)]; exact h.1, by rw [hw _ (by omega)]; exact h.2.1, stAt.cgB h.2.2 (by omega) hw⟩
theorem lawW.cgB (h : lawW w LN) (hw : ∀ i, i < 1707 → w' i = w i) : lawW w' LN := by
  obtain ⟨h1, h2, h3⟩ := h
  refine ⟨by rw [hw 40 (by omega)]; exact h1, h2, fun i l hl => ?_⟩
  have hi : i < 16 := by
    obtain ⟨q, -⟩ := List.getElem?_eq_some_iff.mp hl
    omega
  obtain ⟨f, g1, g2, g3, g4, g5, g6, g7⟩ := h3 i l hl
  refine ⟨f, ?_, ?_, ?_, ?_, g5, g6.cgB (by omega) hw, g7.cgB (by omega) hw⟩
  · rw [hw _ (by omega)]; exact g1
  · rw [hw _ (by omega)]; exact g2
  · rw [hw _ (by omega)]; exact g3
  · rw [hw _ (by omega)]; exact g4
theorem ownF_lt {i : Nat} (h : ownF i = true) : i < 1707 := by
  refine Nat.lt_of_not_le (fun q => ?_)
  simp [ownF, own] at h
  omega
theorem Good.cgB (G : Good LN w) (hw : ∀ i, i < 1707 → w' i = w i) : Good LN w' := by
  obtain ⟨a, ⟨x, y, h0, h4, h5, h6⟩, d⟩ := G
  exact ⟨a.cg (fun i hi => hw i (ownF_lt hi)), ⟨x, y, by rw [hw 0 (by omega)]; exact h0, by rw [hw 4 (by omega)]; exact h4, h5, h6⟩, d.cgB hw⟩
theorem own_lt {j i : Nat} (hj : j ∈ cmps) (h : own j i = true) : i < 1707 := by
  refine Nat.lt_of_not_le (fun q => ?_)
  have hj' : j = 1 ∨ j = 3 ∨ j = 5 ∨ j = 7 ∨ j = 13 ∨ j = 15 ∨ j = 17 ∨ j = 19 ∨ j = 21 := by simpa [cmps] using hj
  rcases hj' with rfl | rfl | rfl | rfl | rfl | rfl | rfl | rfl | rfl <;> simp [own] at h <;> omega
theorem HRep.cgB (H : HRep b LN w m) (hs : sml w) (hw : ∀ i, i < 1707 → w' i = w i) : HRep b LN w' m := H.cg hs H.fx (fun _ _ _ => rfl) (fun _ hj i hi => hw i (own_lt hj hi))
theorem cdAt.cgB {a a' : Arr} : ∀ {L : List (Int32 × Int32)} {x : Nat}, cdAt a x L → x + L.length ≤ 400 → (∀ i, i < 800 → a' i = a i) → cdAt a' x L
  | [], _, _, _, _ => trivial
  | p :: r, x, h, hl, hw => by
    have hl : x + (r.length + 1) ≤ 400 := hl
    exact ⟨by rw [hw _ (by omega)]; exact h.1, by rw [hw _ (by omega)]; exact h.2.1, cdAt.cgB h.2.2 (by omega) hw⟩
theorem lawC.cp {t t' : Nat} (h : lawC t m LN) (hl : LN.length ≤ 16) (h1 : m' t' 3 = m t 3) (h2 : ∀ j, j < 64 → m' (t' + 1) j = m (t + 1) j) (h3 : m' (t' + 2) 3 = m (t + 2) 3) (h4 : ∀ j, j < 800 → m' (t' + 3) j = m (t + 3) j) : lawC t' m' LN := by
  obtain ⟨a, n, hn, d, e⟩ := h
  refine ⟨by rw [h1, a], n, hn, by rw [h3, d], fun i l hl' => ?_⟩
  have hi : i < 16 := by
    obtain ⟨q, -⟩ := List.getElem?_eq_some_iff.mp hl'
    omega
  obtain ⟨k, k1, k2, k3, k4, k5, k6, k7⟩ := e i l hl'
  refine ⟨k, ?_, ?_, ?_, ?_, k5, k6.cgB (by omega) h4, k7.cgB (by omega) h4⟩
  · rw [h2 _ (by omega)]; exact k1
  · rw [h2 _ (by omega)]; exact k2
  · rw [h2 _ (by omega)]; exact k3
  · rw [h2 _ (by omega)]; exact k4
def szf (i : Nat) : Nat := [96, 40, 7, 600, 64, 800, 64, 64, 64, 16, 10].getD i 0
def cpA (b c : Nat) : Nat → Mem → Mem
  | 0, m => m
  | k + 1, m => tcp (cpA b c k m) (c + 1 + 2 * k) (b + 1 + 2 * k) (szf k)
theorem cpA_o {k x : Nat} (h : x < c + 1 ∨ c + 1 + 2 * k ≤ x) : cpA b c k m x = m x := by
  induction k with
  | zero => rfl
  | succ k ih =>
    unfold cpA
    rw [tcp_o (by omega) (by omega), ih (by omega)]
theorem cpA_k {k n x : Nat} (h : x < c + 1 + 2 * k) : cpA b c (k + n) m x = cpA b c k m x := by
  induction n with
  | zero => rfl
  | succ n ih =>
    show tcp (cpA b c (k + n) m) (c + 1 + 2 * (k + n)) (b + 1 + 2 * (k + n)) (szf (k + n)) x = _
    rw [tcp_o (by omega) (by omega), ih]
theorem rq_b : ∀ i, i < 11 → rq 2 i = 2 + 1 + 2 * i ∧ rq 25 i = 25 + 1 + 2 * i := by decide +kernel
theorem w_cpH (hbc : (b = 2 ∧ c = 25) ∨ (b = 25 ∧ c = 2)) (H : HRep b LN w m) (W0 : WFc w) : Wp (f_X1_copy N c b m) (fun _ m' => HRep c LN w m' ∧ ∀ x, (x < c + 1 ∨ c + 22 < x) → m' x = m x) := by
  have s := W0.sml
  have hr : ∀ i, i < 11 → rq b i = b + 1 + 2 * i ∧ rq c i = c + 1 + 2 * i := by
    intro i hi
    rcases hbc with ⟨rfl, rfl⟩ | ⟨rfl, rfl⟩
    · exact rq_b i hi
    · exact (rq_b i hi).symm
  have hall : ∀ i, i < 11 → ∃ p : Nat × Nat, szf i = p.1 * p.2 ∧ (c + 1 + 2 * i, p.1, p.2) ∈ tbs ∧ (b + 1 + 2 * i, p.1, p.2) ∈ tbs := by
    intro i hi
    have q : ∀ i, i < 11 → szf i = ([(12, 8), (8, 5), (1, 7), (150, 4), (16, 4), (400, 2), (16, 4), (16, 4), (16, 4), (8, 2), (10, 1)].getD i (0, 0)).1 * ([(12, 8), (8, 5), (1, 7), (150, 4), (16, 4), (400, 2), (16, 4), (16, 4), (16, 4), (8, 2), (10, 1)].getD i (0, 0)).2 ∧
      (25 + 1 + 2 * i, ([(12, 8), (8, 5), (1, 7), (150, 4), (16, 4), (400, 2), (16, 4), (16, 4), (16, 4), (8, 2), (10, 1)].getD i (0, 0)).1, ([(12, 8), (8, 5), (1, 7), (150, 4), (16, 4), (400, 2), (16, 4), (16, 4), (16, 4), (8, 2), (10, 1)].getD i (0, 0)).2) ∈ tbs ∧
      (2 + 1 + 2 * i, ([(12, 8), (8, 5), (1, 7), (150, 4), (16, 4), (400, 2), (16, 4), (16, 4), (16, 4), (8, 2), (10, 1)].getD i (0, 0)).1, ([(12, 8), (8, 5), (1, 7), (150, 4), (16, 4), (400, 2), (16, 4), (16, 4), (16, 4), (8, 2), (10, 1)].getD i (0, 0)).2) ∈ tbs := by decide +kernel
    obtain ⟨q1, q2, q3⟩ := q i hi
    rcases hbc with ⟨rfl, rfl⟩ | ⟨rfl, rfl⟩
    · exact ⟨_, q1, q2, q3⟩
    · exact ⟨_, q1, q3, q2⟩
  have hne : ∀ i, b + 1 + 2 * i ≠ c + 1 + 2 * i + 1 := fun i => by omega
  have st : ∀ i, i < 11 → f_X9_copy N (rq c i) (rq b i) (cpA b c i m) = some (0, cpA b c (i + 1) m) := by
    intro i hi
    obtain ⟨⟨p, q⟩, h1, h2, h3⟩ := hall i hi
    rw [(hr i hi).1, (hr i hi).2, e_copy h2 h3 (hne i)]
    show _ = some (0, tcp _ _ _ (szf i))
    rw [h1]
  unfold f_X1_copy
  have s0 := st 0 (by decide)
  rw [show cpA b c 0 m = m from rfl] at s0
  rw [s0, bd_s, st 1 (by decide), bd_s, st 2 (by decide), bd_s, st 3 (by decide), bd_s, st 4 (by decide), bd_s, st 5 (by decide), bd_s, st 6 (by decide), bd_s, st 7 (by decide), bd_s, st 8 (by decide), bd_s, st 9 (by decide), bd_s, st 10 (by decide), bd_s]
  have hx : ∀ k, k ≤ 11 → Fx (cpA b c k m) := by
    intro k
    induction k with
    | zero => exact fun _ => H.fx
    | succ k ih =>
      intro hk
      obtain ⟨⟨p, q⟩, h1, h2, h3⟩ := hall k (by omega)
      exact (ih (by omega)).cp h2
  have src : ∀ k x, b < x → x ≤ b + 22 → k ≤ 11 → cpA b c k m x = m x := fun k x h1 h2 hk => cpA_o (by omega)
  have n3 : ∀ i, i < 11 → cpA b c 11 m (c + 1 + 2 * i) 3 = m (b + 1 + 2 * i) 3 := by
    intro i hi
    have e := cpA_k (b := b) (c := c) (m := m) (k := i + 1) (n := 10 - i) (x := c + 1 + 2 * i) (by omega)
    rw [show i + 1 + (10 - i) = 11 by omega] at e
    rw [e]
    show tcp _ _ _ _ _ 3 = _
    rw [tcp_n, src i _ (by omega) (by omega) (by omega)]
  have nj : ∀ i, i < 11 → ∀ j, j < szf i → cpA b c 11 m (c + 1 + 2 * i + 1) j = m (b + 1 + 2 * i + 1) j := by
    intro i hi j hj
    have e := cpA_k (b := b) (c := c) (m := m) (k := i + 1) (n := 10 - i) (x := c + 1 + 2 * i + 1) (by omega)
    rw [show i + 1 + (10 - i) = 11 by omega] at e
    rw [e]
    show tcp _ _ _ _ _ j = _
    rw [tcp_in hj (by omega), src i _ (by omega) (by omega) (by omega)]
  refine wp_ret ⟨⟨hx 11 (by decide), fun j hj => ?_, ?_, H.lawk⟩, fun x hx => cpA_o (by omega)⟩
  · have cp : ∀ i, i < 11 → j = 1 + 2 * i → csize j = szf i → Cmp j (c + j) w (cpA b c 11 m) := by
      rintro i hi rfl hz
      have h0 : Cmp (1 + 2 * i) (b + (1 + 2 * i)) w (cpA b c i m) := Cmp.cg hj s (H.2.1 _ hj) (by rw [src i _ (by omega) (by omega) (by omega)]) (src i _ (by omega) (by omega) (by omega)) (fun _ _ => rfl)
      have h1 := Cmp.cp (t := c + (1 + 2 * i)) hj s h0
      rw [hz] at h1
      have e : tcp (cpA b c i m) (c + (1 + 2 * i)) (b + (1 + 2 * i)) (szf i) = cpA b c (i + 1) m := by
        show _ = tcp _ _ _ _
        rw [show c + (1 + 2 * i) = c + 1 + 2 * i by omega, show b + (1 + 2 * i) = b + 1 + 2 * i by omega]
      rw [e] at h1
      have e2 : ∀ x, x < c + 1 + 2 * (i + 1) → cpA b c 11 m x = cpA b c (i + 1) m x := by
        intro x hx
        have e := cpA_k (b := b) (c := c) (m := m) (k := i + 1) (n := 10 - i) (x := x) hx
        rw [show i + 1 + (10 - i) = 11 by omega] at e
        exact e
      exact Cmp.cg hj s h1 (by rw [e2 _ (by omega)]) (e2 _ (by omega)) (fun _ _ => rfl)
    have hj' : j = 1 ∨ j = 3 ∨ j = 5 ∨ j = 7 ∨ j = 13 ∨ j = 15 ∨ j = 17 ∨ j = 19 ∨ j = 21 := by simpa [cmps] using hj
    rcases hj' with rfl | rfl | rfl | rfl | rfl | rfl | rfl | rfl | rfl
    · exact cp 0 (by decide) rfl rfl
    · exact cp 1 (by decide) rfl rfl
    · exact cp 2 (by decide) rfl rfl
    · exact cp 3 (by decide) rfl rfl
    · exact cp 6 (by decide) rfl rfl
    · exact cp 7 (by decide) rfl rfl
    · exact cp 8 (by decide) rfl rfl
    · exact cp 9 (by decide) rfl rfl
    · exact cp 10 (by decide) rfl rfl
  · exact H.lawc.cp H.lawk.1 (n3 4 (by decide)) (fun j hj => nj 4 (by decide) j hj) (n3 5 (by decide)) (fun j hj => nj 5 (by decide) j hj)
/-- the reference copies 1707 cells -/
theorem w_imgM {a : Int32} {K : Mem → Ans} {Q : Int32 → Mem → Prop} (hN : 20000 ≤ N) {s t : Nat} (hst : if a = 0 then s = 125 ∧ t = 124 else s = 124 ∧ t = 125)
    (hK : ∀ m1, (∀ j, j < 1707 → m1 t j = m s j) → (∀ x, x ≠ t → m1 x = m x) → Wp (K m1) Q) : Wp (it1 (f_X12_image_L15 N a K) N 0 m) Q := by
  refine wp_it1 (fun n x m' => ∃ i, i ≤ 1707 ∧ n = 1707 - i ∧ x = nI i ∧ (∀ j, j < i → m' t j = m s j) ∧ (∀ x, x ≠ t → m' x = m x)) ?_ N 1707 _ _ (by omega) ⟨0, by omega, rfl, rfl, fun j hj => absurd hj (by omega), fun _ _ => rfl⟩
  rintro n X x m' ⟨i, hi, rfl, rfl, h1, h2⟩ hX
  have hne : s ≠ t := by
    split at hst <;> omega
  unfold f_X12_image_L15
  simp only [li_0, li_1, li_2, li_3, li_4, li_5, li_6, li_7, li_8, li_9, li_10, li_11, li_12, li_13, li_14, li_15, li_16, li_17, li_18, li_19, li_20, li_21, li_22, li_23, li_24, li_25, li_26, li_27, li_28, li_29, li_30, li_31, li_32, li_37, li_38, li_39, li_40, li_41, li_42, li_43, li_44, li_45, li_46, li_47, li_48, li_49, li_50, li_57, li_59, li_60, li_61, li_62, li_63, li_64, li_65, li_69, li_81, li_89, li_90, li_92, li_97, li_99, li_100, li_101, li_103, li_104, li_105, li_106, li_108, li_111, li_112, li_113, li_114, li_115, li_116, li_117, li_119, li_122, li_123, li_124, li_125, li_126, li_127, li_128, li_129, li_130, li_131, li_132, li_133, li_134, li_135, li_136, li_137, li_140, li_141, li_142, li_143, li_145, li_147, li_150, li_153, li_159, li_160, li_161, li_162, li_185, li_197, li_213, li_222, li_223, li_255, li_256, li_257, li_258, li_259, li_260, li_261, li_262, li_263, li_264, li_271, li_272, li_273, li_274, li_275, li_276, li_277, li_278, li_300, li_400, li_420, li_500, li_802, li_820, li_823, li_839, li_855, li_871, li_887, li_999, li_1000, li_1001, li_1002, li_1003, li_1004, li_1005, li_1006, li_1007, li_1008, li_1009, li_1010, li_1011, li_1012, li_1013, li_1014, li_1015, li_1016, li_1017, li_1018, li_1019, li_1020, li_1021, li_1022, li_1023, li_1707, li_4096, li_9999, li_65536, li_100000, li_1000000, li_1664525, li_100000000, li_252645135, li_858993459, li_1000000007, li_1013904223, li_1431655765, li_m1]
  refine wp_ite (fun q => ?_) (fun q => ?_)
  · rw [nI_leI (by decide) (by omega)] at q
    have : i = 1707 := by omega
    subst this
    exact hK m' h1 h2
  · rw [nI_leI (by decide) (by omega)] at q
    have key : ∀ t1, t1 = t → Wp (bnd (mset m' t1 i (m' s i)) fun m_52 => X (nI i + nI 1) m_52) Q := by
      rintro t1 rfl
      rw [bnd_s, nI_up]
      refine hX (1707 - (i + 1)) _ _ (by omega) ⟨i + 1, by omega, rfl, rfl, fun j hj => ?_, fun x hx => by rw [mset_ne hx]; exact h2 x hx⟩
      by_cases e : j = i
      · subst e
        rw [mset_at, h2 s hne]
      · rw [mset_j e]; exact h1 j (by omega)
    rw [inb_nI (by omega) (by omega), chk_t, chk_t, chk_t, chk_t, nI_clamp (by omega)]
    refine wp_ite (fun q0 => ?_) (fun q0 => ?_)
    · rw [show a = 0 from q0, if_pos rfl] at hst
      obtain ⟨rfl, rfl⟩ := hst
      exact key 124 rfl
    · rw [if_neg (show ¬ a = 0 from q0)] at hst
      obtain ⟨rfl, rfl⟩ := hst
      exact key 125 rfl
theorem pr_image {a : Int32} (hN : 20000 ≤ N) : Pr (f_X11_image N a) (f_X12_image N a) := by
  intro m hI
  obtain ⟨LN, H, G, P, hIm, hT, hF, h4⟩ := id hI
  unfold f_X11_image
  simp only [li_0, li_1, li_2, li_3, li_4, li_5, li_6, li_7, li_8, li_9, li_10, li_11, li_12, li_13, li_14, li_15, li_16, li_17, li_18, li_19, li_20, li_21, li_22, li_23, li_24, li_25, li_26, li_27, li_28, li_29, li_30, li_31, li_32, li_37, li_38, li_39, li_40, li_41, li_42, li_43, li_44, li_45, li_46, li_47, li_48, li_49, li_50, li_57, li_59, li_60, li_61, li_62, li_63, li_64, li_65, li_69, li_81, li_89, li_90, li_92, li_97, li_99, li_100, li_101, li_103, li_104, li_105, li_106, li_108, li_111, li_112, li_113, li_114, li_115, li_116, li_117, li_119, li_122, li_123, li_124, li_125, li_126, li_127, li_128, li_129, li_130, li_131, li_132, li_133, li_134, li_135, li_136, li_137, li_140, li_141, li_142, li_143, li_145, li_147, li_150, li_153, li_159, li_160, li_161, li_162, li_185, li_197, li_213, li_222, li_223, li_255, li_256, li_257, li_258, li_259, li_260, li_261, li_262, li_263, li_264, li_271, li_272, li_273, li_274, li_275, li_276, li_277, li_278, li_300, li_400, li_420, li_500, li_802, li_820, li_823, li_839, li_855, li_871, li_887, li_999, li_1000, li_1001, li_1002, li_1003, li_1004, li_1005, li_1006, li_1007, li_1008, li_1009, li_1010, li_1011, li_1012, li_1013, li_1014, li_1015, li_1016, li_1017, li_1018, li_1019, li_1020, li_1021, li_1022, li_1023, li_1707, li_4096, li_9999, li_65536, li_100000, li_1000000, li_1664525, li_100000000, li_252645135, li_858993459, li_1000000007, li_1013904223, li_1431655765, li_m1]
  refine wp_ite (fun q => ?_) (fun q => ?_)
  · subst q
    rcases hIm with ⟨i1, i2⟩ | ⟨i1, i2, L1, H1, G1⟩
    · rw [i1, if_pos rfl]
      refine wp_ret ?_
      unfold f_X12_image
      simp only [li_0, li_1, li_2, li_3, li_4, li_5, li_6, li_7, li_8, li_9, li_10, li_11, li_12, li_13, li_14, li_15, li_16, li_17, li_18, li_19, li_20, li_21, li_22, li_23, li_24, li_25, li_26, li_27, li_28, li_29, li_30, li_31, li_32, li_37, li_38, li_39, li_40, li_41, li_42, li_43, li_44, li_45, li_46, li_47, li_48, li_49, li_50, li_57, li_59, li_60, li_61, li_62, li_63, li_64, li_65, li_69, li_81, li_89, li_90, li_92, li_97, li_99, li_100, li_101, li_103, li_104, li_105, li_106, li_108, li_111, li_112, li_113, li_114, li_115, li_116, li_117, li_119, li_122, li_123, li_124, li_125, li_126, li_127, li_128, li_129, li_130, li_131, li_132, li_133, li_134, li_135, li_136, li_137, li_140, li_141, li_142, li_143, li_145, li_147, li_150, li_153, li_159, li_160, li_161, li_162, li_185, li_197, li_213, li_222, li_223, li_255, li_256, li_257, li_258, li_259, li_260, li_261, li_262, li_263, li_264, li_271, li_272, li_273, li_274, li_275, li_276, li_277, li_278, li_300, li_400, li_420, li_500, li_802, li_820, li_823, li_839, li_855, li_871, li_887, li_999, li_1000, li_1001, li_1002, li_1003, li_1004, li_1005, li_1006, li_1007, li_1008, li_1009, li_1010, li_1011, li_1012, li_1013, li_1014, li_1015, li_1016, li_1017, li_1018, li_1019, li_1020, li_1021, li_1022, li_1023, li_1707, li_4096, li_9999, li_65536, li_100000, li_1000000, li_1664525, li_100000000, li_252645135, li_858993459, li_1000000007, li_1013904223, li_1431655765, li_m1]
      rw [if_pos trivial, i2, if_pos rfl]
      exact wp_ret ⟨rfl, hI⟩
    · rw [i1, if_neg (by decide)]
      refine wp_bind (w_cpH (Or.inr ⟨rfl, rfl⟩) H1 G1.1) ?_
      rintro _ m1 ⟨H2, o1⟩
      rw [e_forget, bd_s]
      refine wp_ret ?_
      have e123 : mset m1 48 2 (nI 0) 123 = m 123 := by rw [mset_ne (by decide)]; exact o1 123 (by omega)
      unfold f_X12_image f_X12_image_J13
      simp only [li_0, li_1, li_2, li_3, li_4, li_5, li_6, li_7, li_8, li_9, li_10, li_11, li_12, li_13, li_14, li_15, li_16, li_17, li_18, li_19, li_20, li_21, li_22, li_23, li_24, li_25, li_26, li_27, li_28, li_29, li_30, li_31, li_32, li_37, li_38, li_39, li_40, li_41, li_42, li_43, li_44, li_45, li_46, li_47, li_48, li_49, li_50, li_57, li_59, li_60, li_61, li_62, li_63, li_64, li_65, li_69, li_81, li_89, li_90, li_92, li_97, li_99, li_100, li_101, li_103, li_104, li_105, li_106, li_108, li_111, li_112, li_113, li_114, li_115, li_116, li_117, li_119, li_122, li_123, li_124, li_125, li_126, li_127, li_128, li_129, li_130, li_131, li_132, li_133, li_134, li_135, li_136, li_137, li_140, li_141, li_142, li_143, li_145, li_147, li_150, li_153, li_159, li_160, li_161, li_162, li_185, li_197, li_213, li_222, li_223, li_255, li_256, li_257, li_258, li_259, li_260, li_261, li_262, li_263, li_264, li_271, li_272, li_273, li_274, li_275, li_276, li_277, li_278, li_300, li_400, li_420, li_500, li_802, li_820, li_823, li_839, li_855, li_871, li_887, li_999, li_1000, li_1001, li_1002, li_1003, li_1004, li_1005, li_1006, li_1007, li_1008, li_1009, li_1010, li_1011, li_1012, li_1013, li_1014, li_1015, li_1016, li_1017, li_1018, li_1019, li_1020, li_1021, li_1022, li_1023, li_1707, li_4096, li_9999, li_65536, li_100000, li_1000000, li_1664525, li_100000000, li_252645135, li_858993459, li_1000000007, li_1013904223, li_1431655765, li_m1]
      rw [if_pos trivial, e123, i2, if_neg (by decide)]
      refine w_imgM (s := 125) (t := 124) hN (by rw [if_pos (show nI 0 = 0 from rfl)]; exact ⟨rfl, rfl⟩) ?_
      intro m3 g1 g2
      rw [if_pos trivial, e_forgets, bd_s, bnd_s]
      have e125 : mset m1 48 2 (nI 0) 125 = m 125 := by rw [mset_ne (by decide)]; exact o1 125 (by omega)
      rw [e125] at g1
      have G3 : Good L1 (m3 124) := G1.cgB g1
      have H3 : HRep 2 L1 (m3 124) (mset (mset m3 123 4 (nI 0)) 123 5 (nI 1)) := by
        have : HRep 2 L1 (m 125) (mset (mset m3 123 4 (nI 0)) 123 5 (nI 1)) := by
          refine H2.cg G1.1.sml ?_ (fun k h1 h2 => ?_) (fun _ _ _ _ => rfl)
          · refine H2.fx.of (fun p hp j hj => ?_)
            have : ∀ p ∈ tbs, p.1 ≠ 124 ∧ p.1 ≠ 123 ∧ p.1 ≠ 48 := by decide
            obtain ⟨a, b, c⟩ := this p hp
            rw [mset_ne b, mset_ne b, g2 _ a, mset_ne c]
          · rw [mset_ne (by omega), mset_ne (by omega), g2 _ (by omega), mset_ne (by omega)]
        exact this.cgB G1.1.sml g1
      obtain ⟨k, p, hk, hp, -, e1, -, -⟩ := id P
      refine wp_ret ⟨rfl, ?_⟩
      refine hI.re (LN := L1) (w' := m3 124) H3 (by rw [mset_ne (by decide), mset_ne (by decide)]) G3 (PastR.zero hp ?_ ?_ ?_) (fun k hk => ?_) ?_ ?_ ?_
      · rw [mset_ne (by decide), mset_ne (by decide), g2 48 (by decide), mset_j (by decide), o1 48 (by omega)]; exact e1
      · rw [mset_ne (by decide), mset_ne (by decide), g2 48 (by decide), mset_at]
      · rw [mset_j (by decide), mset_at]
      · rw [mset_ne (by omega), mset_ne (by omega), g2 k (by omega), mset_ne (by omega), o1 k (by omega)]
      · rw [mset_ne (by decide), mset_ne (by decide), g2 103 (by decide), mset_ne (by decide), o1 103 (by omega)]; exact ⟨rfl, rfl⟩
      · rw [mset_ne (by decide), mset_ne (by decide), g2 113 (by decide), mset_ne (by decide), o1 113 (by omega)]
      · intro j hj
        by_cases e : j = 5
        · subst e; rw [mset_at]; exact i2.symm
        · rw [mset_j e, mset_j (by omega), g2 123 (by decide), e123]
  · refine wp_bind (w_cpH (Or.inl ⟨rfl, rfl⟩) H G.1) ?_
    rintro _ m1 ⟨H2, o1⟩
    rw [bnd_s]
    refine wp_ret ?_
    unfold f_X12_image f_X12_image_J13
    simp only [li_0, li_1, li_2, li_3, li_4, li_5, li_6, li_7, li_8, li_9, li_10, li_11, li_12, li_13, li_14, li_15, li_16, li_17, li_18, li_19, li_20, li_21, li_22, li_23, li_24, li_25, li_26, li_27, li_28, li_29, li_30, li_31, li_32, li_37, li_38, li_39, li_40, li_41, li_42, li_43, li_44, li_45, li_46, li_47, li_48, li_49, li_50, li_57, li_59, li_60, li_61, li_62, li_63, li_64, li_65, li_69, li_81, li_89, li_90, li_92, li_97, li_99, li_100, li_101, li_103, li_104, li_105, li_106, li_108, li_111, li_112, li_113, li_114, li_115, li_116, li_117, li_119, li_122, li_123, li_124, li_125, li_126, li_127, li_128, li_129, li_130, li_131, li_132, li_133, li_134, li_135, li_136, li_137, li_140, li_141, li_142, li_143, li_145, li_147, li_150, li_153, li_159, li_160, li_161, li_162, li_185, li_197, li_213, li_222, li_223, li_255, li_256, li_257, li_258, li_259, li_260, li_261, li_262, li_263, li_264, li_271, li_272, li_273, li_274, li_275, li_276, li_277, li_278, li_300, li_400, li_420, li_500, li_802, li_820, li_823, li_839, li_855, li_871, li_887, li_999, li_1000, li_1001, li_1002, li_1003, li_1004, li_1005, li_1006, li_1007, li_1008, li_1009, li_1010, li_1011, li_1012, li_1013, li_1014, li_1015, li_1016, li_1017, li_1018, li_1019, li_1020, li_1021, li_1022, li_1023, li_1707, li_4096, li_9999, li_65536, li_100000, li_1000000, li_1664525, li_100000000, li_252645135, li_858993459, li_1000000007, li_1013904223, li_1431655765, li_m1]
    rw [if_neg q]
    refine w_imgM (s := 124) (t := 125) hN (by rw [if_neg (show ¬ a = 0 from q)]; exact ⟨rfl, rfl⟩) ?_
    intro m3 g1 g2
    rw [if_neg q, bnd_s]
    have e124 : mset m1 0 2 (nI 1) 124 = m 124 := by rw [mset_ne (by decide)]; exact o1 124 (by omega)
    rw [e124] at g1
    have ok : ∀ k, k ≠ 0 → k ≠ 123 → k ≠ 125 → (k < 26 ∨ 47 < k) → mset m3 123 5 (nI 1) k = m k := fun k a b c d => by rw [mset_ne b, g2 k c, mset_ne a, o1 k (by omega)]
    have hx : Fx (mset m3 123 5 (nI 1)) := by
      refine H2.fx.of (fun p hp j hj => ?_)
      have : ∀ p ∈ tbs, p.1 ≠ 125 ∧ p.1 ≠ 123 ∧ p.1 ≠ 0 := by decide
      obtain ⟨a, b, c⟩ := this p hp
      rw [mset_ne b, g2 _ a, mset_ne c]
    have w124 := ok 124 (by decide) (by decide) (by decide) (by decide)
    have j123 : ∀ j, j ≠ 5 → mset m3 123 5 (nI 1) 123 j = m 123 j := fun j hj => by rw [mset_j hj, g2 123 (by decide), mset_ne (by decide), o1 123 (by omega)]
    refine wp_ret ⟨rfl, LN, ?_, ?_, ?_, Or.inr ⟨?_, mset_at _ _ _ _, LN, ?_, ?_⟩, ?_, ?_, ?_⟩
    · rw [w124]
      exact H.cg G.1.sml hx (fun k a b => ok k (by omega) (by omega) (by omega) (by omega)) (fun _ _ _ _ => rfl)
    · rw [w124]; exact G
    · rw [w124]
      exact P.cg G.1 (fun k a b => ok k (by omega) (by omega) (by omega) (by omega)) ⟨by rw [ok 48 (by decide) (by decide) (by decide) (by decide)], by rw [ok 48 (by decide) (by decide) (by decide) (by decide)]⟩ (j123 4 (by decide)) (ok 126 (by decide) (by decide) (by decide) (by decide)) (fun _ _ => rfl)
    · rw [mset_ne (by decide), g2 0 (by decide), mset_at]
    · have e : HRep 25 LN (m 124) (mset m3 123 5 (nI 1)) := H2.cg G.1.sml hx (fun k a b => by rw [mset_ne (by omega), g2 k (by omega), mset_ne (by omega)]) (fun _ _ _ _ => rfl)
      rw [mset_ne (by decide)]
      exact e.cgB G.1.sml g1
    · rw [mset_ne (by decide)]
      exact G.cgB g1
    · obtain ⟨L, h1, h2, h3, h5⟩ := hT
      refine ⟨L, h1, by rw [ok 99 (by decide) (by decide) (by decide) (by decide)]; exact h2, by rw [j123 16 (by decide)]; exact h3, fun i hi => ?_⟩
      rw [ok 100 (by decide) (by decide) (by decide) (by decide), ok 131 (by decide) (by decide) (by decide) (by decide)]
      exact h5 i hi
    · unfold FltR
      rw [ok 103 (by decide) (by decide) (by decide) (by decide), j123 23 (by decide), j123 25 (by decide)]
      exact hF
    · rw [ok 113 (by decide) (by decide) (by decide) (by decide)]; exact h4
end IMAGE
