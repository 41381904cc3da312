/-! text: the class -/
def rwT (t : Nat) (m : Mem) (R : List Rw4) : Prop := m t 3 = nI R.length ∧ ∀ i q, R[i]? = some q → m (t + 1) (i * 4 + 0) = nI q.1 ∧ m (t + 1) (i * 4 + 1) = q.2.1 ∧ m (t + 1) (i * 4 + 2) = q.2.2.1 ∧ m (t + 1) (i * 4 + 3) = q.2.2.2
def rK (R : List Rw4) (i : Nat) : Nat := match R[i]? with | some q => q.1 | none => 0
def rX (R : List Rw4) (i : Nat) : Int32 := match R[i]? with | some q => q.2.1 | none => 0
def TkC (k z : Nat) (C : Cod) (R : List Rw4) (m m3 : Mem) : Prop :=
  (k = 0 ∧ (∀ x, x < 99 → x ≠ 11 → x ≠ 12 → x ≠ 13 → x ≠ 14 → m3 x = m x) ∧ rwT 11 m3 R ∧ m3 13 3 = nI C.length ∧ C.length ≤ 400 ∧ cdR (m3 14) C) ∨
  (k ≠ 0 ∧ m3 48 2 = nI 0 ∧ m3 48 1 = m 48 1 ∧ (∀ q ∈ R, ∃ hD, vR k (nI z - nI 1) hD q ∧ hD = m 5 3 - nI 1) ∧
    ((k = 1 ∧ (∀ x, x < 99 → x ≠ 4 → x ≠ 15 → x ≠ 16 → x ≠ 48 → m3 x = m x) ∧ rwT 15 m3 R ∧ (∀ h, h < z → m3 4 (h * 8 + 7) = nI (if anR (rK R) (rX R) h R.length = true then 2 else 1)) ∧ ∀ h c, h < z → c < 7 → m3 4 (h * 8 + c) = m 4 (h * 8 + c)) ∨
     (k = 2 ∧ (∀ x, x < 99 → x ≠ 17 → x ≠ 18 → x ≠ 48 → m3 x = m x) ∧ rwT 17 m3 R) ∨
     (k = 3 ∧ (∀ x, x < 99 → x ≠ 4 → x ≠ 19 → x ≠ 20 → x ≠ 48 → m3 x = m x) ∧ rwT 19 m3 R ∧ (∀ h, h < z → m3 4 (h * 8 + 6) = nI (gvR (rA R) (rD R) h R.length)) ∧ ∀ h c, h < z → c < 8 → c ≠ 6 → m3 4 (h * 8 + c) = m 4 (h * 8 + c))))
section TEXTC
variable {N : Nat} {m m1 m' m2 m3 : Mem} {B : Nat → Nat} {n M k z : Nat} {C : Cod} {R : List Rw4}
theorem vR1 {q : Rw4} {hD : Int32} (h : vR 1 (nI z - nI 1) hD q) (hz : z ≤ 12) (h5 : q.1 = 275) : ∃ x, x < z ∧ q.2.1 = nI x := by
  obtain ⟨-, -, h1, -, -⟩ := h
  obtain ⟨-, -, -, a1, -⟩ := h1 rfl
  have a1 := a1 h5
  have b1 := rng_inb (a := q.2.1) (n := z) (by omega)
  rw [decide_eq_true a1] at b1
  exact inb_of b1.symm (by omega)
theorem rK_at {q : Rw4} {i : Nat} (h : R[i]? = some q) : rK R i = q.1 ∧ rX R i = q.2.1 := by
  unfold rK rX
  rw [h]
  exact ⟨rfl, rfl⟩
theorem bgn_lt {k k0 : Nat} (h : bgn k k0 = true) (hk : k ≤ 3) : k0 < 300 := by
  have : k = 0 ∨ k = 1 ∨ k = 2 ∨ k = 3 := by omega
  rcases this with rfl | rfl | rfl | rfl
  · have : 256 ≤ k0 ∧ k0 ≤ 258 := of_decide_eq_true h
    omega
  · have : k0 = 264 ∨ (274 ≤ k0 ∧ k0 ≤ 276) := of_decide_eq_true h
    omega
  · have : k0 = 277 := of_decide_eq_true h
    omega
  · have : k0 = 263 := of_decide_eq_true h
    omega
/-- a table copied from what is read -/
theorem rw_cp {t : Nat} (h : m 104 3 = nI R.length) (hr : R.length ≤ 16) (hR : rwsA m R) : rwT t (tcp m t 104 64) R := by
  refine ⟨by rw [tcp_n]; exact h, fun i q hq => ?_⟩
  have hi : i < R.length := (List.getElem?_eq_some_iff.mp hq).1
  rw [tcp_in (by omega) (by omega), tcp_in (by omega) (by omega), tcp_in (by omega) (by omega), tcp_in (by omega) (by omega)]
  exact hR i q hq
theorem rwT.cg {t : Nat} (h : rwT t m R) (h1 : m' t = m t) (h2 : m' (t + 1) = m (t + 1)) : rwT t m' R := by
  unfold rwT at h ⊢
  rw [h1, h2]
  exact h
theorem w_textC (hN : 20000 ≤ N) (hF : Fx m) (h : BT m B n) (hk : k ≤ 3) (h3 : m 3 3 = nI z) (hz : z ≤ 12) :
    Wp (f_X11_text N (nI k) m) (fun v m3 => ∃ M c u, Mt B n M ∧ u = itt (tpS (tkK B n) (tkV B n) (nI z - nI 1) (m 5 3 - nI 1) k) c (0, 0, [], []) ∧ fnl (tkK B n) u ∧ Fx m3 ∧ (∀ x, 109 < x → m3 x = m x) ∧ m3 99 2 = nI 0 ∧ m3 103 3 = nI u.1 ∧ ((u.1 ≠ 0 → m3 103 4 = nI (psT B n u.2.1)) ∧ (u.1 = 0 → m3 103 4 = mo1)) ∧
      ((u.1 ≠ 0 ∧ v = mo1 ∧ ∀ x, x < 99 → m3 x = m x) ∨ (u.1 = 0 ∧ v = nI u.2.2.2.length ∧ u.2.2.2.length ≤ 16 ∧ TkC k z u.2.2.1 u.2.2.2 m m3))) := by
  unfold f_X11_text
  simp only [li_0, li_1, li_2, li_3, li_4, li_5, li_6, li_7, li_8, li_9, li_10, li_11, li_12, li_13, li_14, li_15, li_16, li_17, li_18, li_19, li_20, li_21, li_22, li_23, li_24, li_25, li_26, li_27, li_28, li_29, li_30, li_31, li_32, li_37, li_38, li_39, li_40, li_41, li_42, li_43, li_44, li_45, li_46, li_47, li_48, li_49, li_50, li_57, li_59, li_60, li_61, li_62, li_63, li_64, li_65, li_69, li_81, li_89, li_90, li_92, li_97, li_99, li_100, li_101, li_103, li_104, li_105, li_106, li_108, li_111, li_112, li_113, li_114, li_115, li_116, li_117, li_119, li_122, li_123, li_124, li_125, li_126, li_127, li_128, li_129, li_130, li_131, li_132, li_133, li_134, li_135, li_136, li_137, li_140, li_141, li_142, li_143, li_145, li_147, li_150, li_153, li_159, li_160, li_161, li_162, li_185, li_197, li_213, li_222, li_223, li_255, li_256, li_257, li_258, li_259, li_260, li_261, li_262, li_263, li_264, li_271, li_272, li_273, li_274, li_275, li_276, li_277, li_278, li_300, li_400, li_420, li_500, li_802, li_820, li_823, li_839, li_855, li_871, li_887, li_999, li_1000, li_1001, li_1002, li_1003, li_1004, li_1005, li_1006, li_1007, li_1008, li_1009, li_1010, li_1011, li_1012, li_1013, li_1014, li_1015, li_1016, li_1017, li_1018, li_1019, li_1020, li_1021, li_1022, li_1023, li_1707, li_4096, li_9999, li_65536, li_100000, li_1000000, li_1664525, li_100000000, li_252645135, li_858993459, li_1000000007, li_1013904223, li_1431655765, li_m1]
  rw [h3]
  refine wp_bind (w_read (h1 := nI z) (d1 := m 5 3) hN hF h hk) ?_
  rintro _ m1 ⟨M, c, hM, hfn, hT⟩
  have hv : (k = 1 ∨ k = 2 ∨ k = 3) → (itt (tpS (tkK B n) (tkV B n) (nI z - nI 1) (m 5 3 - nI 1) k) c (0, 0, [], [])).1 = 0 → ∀ q ∈ (itt (tpS (tkK B n) (tkV B n) (nI z - nI 1) (m 5 3 - nI 1) k) c (0, 0, [], [])).2.2.2, vR k (nI z - nI 1) (m 5 3 - nI 1) q := fun hkk h0 => itt_v hkk c h0
  have hf4 := itt_f4 (k := k) (K := tkK B n) (V := tkV B n) (hH := nI z - nI 1) (hD := m 5 3 - nI 1) c (0, 0, [], []) (by simp)
  refine wp_mono (Q := fun v m3 => ∃ u, u = itt (tpS (tkK B n) (tkV B n) (nI z - nI 1) (m 5 3 - nI 1) k) c (0, 0, [], []) ∧ Fx m3 ∧ (∀ x, 109 < x → m3 x = m x) ∧ m3 99 2 = nI 0 ∧ m3 103 3 = nI u.1 ∧ ((u.1 ≠ 0 → m3 103 4 = nI (psT B n u.2.1)) ∧ (u.1 = 0 → m3 103 4 = mo1)) ∧
      ((u.1 ≠ 0 ∧ v = mo1 ∧ ∀ x, x < 99 → m3 x = m x) ∨ (u.1 = 0 ∧ v = nI u.2.2.2.length ∧ u.2.2.2.length ≤ 16 ∧ TkC k z u.2.2.1 u.2.2.2 m m3))) ?_ (fun v m3 ⟨u, e1, e2⟩ => ⟨M, c, u, hM, e1, by rw [e1]; exact hfn, e2⟩)
  clear hfn
  revert hT hv hf4
  generalize itt (tpS (tkK B n) (tkV B n) (nI z - nI 1) (m 5 3 - nI 1) k) c (0, 0, [], []) = u
  intro hT hv hf4
  obtain ⟨f, j, C, R⟩ := u
  obtain ⟨⟨a1, a2⟩, a3, a4, a5, a6, a7, a8, a9, a10, a11, a12, a13, a14⟩ := hT
  simp only at a4 a5 a6 a7 a8 a9 a10 a13 hv hf4
  have hM4 := hM.1
  have hjM : j ≤ M := a2
  rw [bnd_s, e_within, bd_s, rng_is (by omega) (by omega) (by omega), decide_eq_true (⟨Nat.zero_le _, hk⟩ : 0 ≤ k ∧ k ≤ 3), if_neg (by decide)]
  have g2 : ∀ x, x ≠ 99 → (mset m1 99 2 (nI 0)) x = m1 x := fun x hx => mset_ne hx
  have g9 : (mset m1 99 2 (nI 0)) 99 2 = nI 0 := mset_at _ _ _ _
  have gF : Fx (mset m1 99 2 (nI 0)) := a3.out (by decide)
  revert g2 g9 gF
  generalize mset m1 99 2 (nI 0) = m2
  intro g2 g9 gF
  rw [show m2 103 3 = nI f by rw [g2 103 (by decide)]; exact a9]
  have hi : ∀ x, 109 < x → m2 x = m x := fun x hx => by rw [g2 x (by omega), a14 x (Or.inr hx)]
  have lo : ∀ x, x < 99 → m2 x = m x := fun x hx => by rw [g2 x (by omega), a14 x (Or.inl hx)]
  have e1034 : (f ≠ 0 → m2 103 4 = nI (psT B n j)) ∧ (f = 0 → m2 103 4 = mo1) := by rw [g2 103 (by decide)]; exact a10
  have e1033 : m2 103 3 = nI f := by rw [g2 103 (by decide)]; exact a9
  by_cases f0 : f = 0
  · subst f0
    rw [if_pos rfl]
    have e104 : m2 104 3 = nI R.length := by rw [g2 104 (by decide)]; exact a6
    have eR : rwsA m2 R := by
      intro i q hq
      unfold rwA
      rw [g2 105 (by decide)]
      exact a8 i q hq
    have e3 : m2 3 3 = nI z := by rw [lo 3 (by decide)]; exact h3
    have t104 : (104, 16, 4) ∈ tbs := by decide
    -- what follows a taking
    have fin : ∀ m3, Fx m3 → (∀ x, 98 < x → m3 x = m2 x) → (k = 0 → TkC k z C R m m3) → (k ≠ 0 → ∀ m4, m4 = mset m3 48 2 (nI 0) → TkC k z C R m m4) → Wp (if nI k = nI 0 then some (m3 104 3, m3) else bd (f_X4_forget N m3) fun _ m_87 => some (m_87 104 3, m_87))
        (fun v m3 => ∃ u, u = (0, j, C, R) ∧ Fx m3 ∧ (∀ x, 109 < x → m3 x = m x) ∧ m3 99 2 = nI 0 ∧ m3 103 3 = nI u.1 ∧ ((u.1 ≠ 0 → m3 103 4 = nI (psT B n u.2.1)) ∧ (u.1 = 0 → m3 103 4 = mo1)) ∧
          ((u.1 ≠ 0 ∧ v = mo1 ∧ ∀ x, x < 99 → m3 x = m x) ∨ (u.1 = 0 ∧ v = nI u.2.2.2.length ∧ u.2.2.2.length ≤ 16 ∧ TkC k z u.2.2.1 u.2.2.2 m m3))) := by
      intro m3 hF3 h98 t0 t1
      by_cases k0 : k = 0
      · rw [if_pos (by rw [k0])]
        exact wp_ret ⟨_, rfl, hF3, fun x hx => by rw [h98 x (by omega)]; exact hi x hx, by rw [h98 99 (by decide)]; exact g9, by rw [h98 103 (by decide)]; exact e1033, by rw [h98 103 (by decide)]; exact e1034, Or.inr ⟨rfl, by rw [h98 104 (by decide)]; exact e104, a7, t0 k0⟩⟩
      · rw [if_neg (nI_ne k0 (by omega) (by omega)), e_forget, bd_s]
        have h98' : ∀ x, 98 < x → (mset m3 48 2 (nI 0)) x = m2 x := fun x hx => by rw [mset_ne (by omega)]; exact h98 x hx
        exact wp_ret ⟨_, rfl, hF3.out (by decide), fun x hx => by rw [h98' x (by omega)]; exact hi x hx, by rw [h98' 99 (by decide)]; exact g9, by rw [h98' 103 (by decide)]; exact e1033, by rw [h98' 103 (by decide)]; exact e1034, Or.inr ⟨rfl, by rw [h98' 104 (by decide)]; exact e104, a7, t1 k0 _ rfl⟩⟩
    have : k = 0 ∨ k = 1 ∨ k = 2 ∨ k = 3 := by omega
    unfold f_X1_takeText
    rcases this with rfl | rfl | rfl | rfl
    · refine wp_bind (R := fun _ m3 => Fx m3 ∧ (∀ x, 98 < x → m3 x = m2 x) ∧ TkC 0 z C R m m3) (wp_eq (swt_at 0 (by decide) rfl) ?_) (fun _ m3 ⟨b1, b2, b3⟩ => fin m3 b1 b2 (fun _ => b3) (fun z => absurd rfl z))
      rw [e_copy (t := 11) (s := 104) (most := 16) (wide := 4) (by decide) t104 (by decide), bd_s, e_copy (t := 13) (s := 106) (most := 400) (wide := 2) (by decide) (by decide) (by decide), bd_s]
      have o1 : ∀ x, x ≠ 11 → x ≠ 12 → tcp m2 11 104 64 x = m2 x := fun x x1 x2 => tcp_o x1 x2
      refine wp_ret ⟨(gF.cp (t := 11) (most := 16) (wide := 4) (by decide)).cp (t := 13) (most := 400) (wide := 2) (by decide), fun x hx => by rw [tcp_o (by omega) (by omega)]; exact o1 x (by omega) (by omega), Or.inl ⟨rfl, fun x x0 x1 x2 x3 x4 => by rw [tcp_o x3 x4, o1 x x1 x2]; exact lo x x0, (rw_cp (t := 11) e104 a7 eR).cg (tcp_o (by decide) (by decide)) (tcp_o (by decide) (by decide)), ?_, by omega, ?_⟩⟩
      · rw [tcp_n, o1 106 (by decide) (by decide), g2 106 (by decide)]; exact a4
      · intro r p hp
        have hr : r < C.length := (List.getElem?_eq_some_iff.mp hp).1
        rw [tcp_in (t := 13) (by omega) (by omega), tcp_in (t := 13) (by omega) (by omega), show (106 + 1 : Nat) = 107 from rfl, o1 107 (by decide) (by decide), g2 107 (by decide)]
        exact a5 r p hp
    · refine wp_bind (R := fun _ m3 => Fx m3 ∧ (∀ x, 98 < x → m3 x = m2 x) ∧ ∀ m4, m4 = mset m3 48 2 (nI 0) → TkC 1 z C R m m4) (wp_eq (swt_at 1 (by decide) rfl) ?_) (fun _ m3 ⟨b1, b2, b3⟩ => fin m3 b1 b2 (fun z => absurd z (by decide)) (fun _ => b3))
      rw [e_copy (t := 15) (s := 104) (most := 16) (wide := 4) (by decide) t104 (by decide), bd_s]
      have o1 : ∀ x, x ≠ 15 → x ≠ 16 → tcp m2 15 104 64 x = m2 x := fun x x1 x2 => tcp_o x1 x2
      have r1 := rw_cp (t := 15) e104 a7 eR
      have v1 := hv (Or.inl rfl) rfl
      refine wp_bind (w_countHands (kd := rK R) (xv := rX R) hN (gF.cp (t := 15) (most := 16) (wide := 4) (by decide)) (by rw [o1 3 (by decide) (by decide)]; exact e3) hz r1.1 a7 (fun i hi => ?_)) ?_
      · obtain ⟨q, hq⟩ := get_lt hi
        obtain ⟨c1, c2, -⟩ := r1.2 i q hq
        obtain ⟨k1, k2⟩ := rK_at hq
        have vq := v1 q (List.mem_of_getElem? hq)
        rw [k1, k2]
        exact ⟨c1, c2, by have := bgn_lt vq.1 (by decide); omega, fun z5 => vR1 vq hz z5⟩
      · rintro _ m3 ⟨b1, b2, b3, b4⟩
        refine wp_ret ⟨b2, fun x hx => by rw [b1 x (by omega)]; exact o1 x (by omega) (by omega), ?_⟩
        rintro m4 rfl
        refine Or.inr ⟨by decide, mset_at _ _ _ _, by rw [mset_j (by decide), b1 48 (by decide), o1 48 (by decide) (by decide), lo 48 (by decide)], fun q hq => ⟨_, v1 q hq, rfl⟩, Or.inl ⟨rfl, fun x x0 x1 x2 x3 x4 => by rw [mset_ne x4, b1 x x1, o1 x x2 x3]; exact lo x x0, (r1.cg (b1 15 (by decide)) (b1 16 (by decide))).cg (mset_ne (by decide)) (mset_ne (by decide)), fun h hh => by rw [mset_k (by decide)]; exact b3 h hh, fun h c hh hc => ?_⟩⟩
        rw [mset_k (by decide), b4 h c hh hc, o1 4 (by decide) (by decide), lo 4 (by decide)]
    · refine wp_bind (R := fun _ m3 => Fx m3 ∧ (∀ x, 98 < x → m3 x = m2 x) ∧ ∀ m4, m4 = mset m3 48 2 (nI 0) → TkC 2 z C R m m4) (wp_eq (swt_at 2 (by decide) rfl) ?_) (fun _ m3 ⟨b1, b2, b3⟩ => fin m3 b1 b2 (fun z => absurd z (by decide)) (fun _ => b3))
      rw [e_copy (t := 17) (s := 104) (most := 16) (wide := 4) (by decide) t104 (by decide), bd_s]
      have o1 : ∀ x, x ≠ 17 → x ≠ 18 → tcp m2 17 104 64 x = m2 x := fun x x1 x2 => tcp_o x1 x2
      have r1 := rw_cp (t := 17) e104 a7 eR
      have v1 := hv (Or.inr (Or.inl rfl)) rfl
      refine wp_ret ⟨gF.cp (t := 17) (most := 16) (wide := 4) (by decide), fun x hx => o1 x (by omega) (by omega), ?_⟩
      rintro m4 rfl
      exact Or.inr ⟨by decide, mset_at _ _ _ _, by rw [mset_j (by decide), o1 48 (by decide) (by decide), lo 48 (by decide)], fun q hq => ⟨_, v1 q hq, rfl⟩, Or.inr (Or.inl ⟨rfl, fun x x0 x1 x2 x4 => by rw [mset_ne x4, o1 x x1 x2]; exact lo x x0, r1.cg (mset_ne (by decide)) (mset_ne (by decide))⟩)⟩
    · refine wp_bind (R := fun _ m3 => Fx m3 ∧ (∀ x, 98 < x → m3 x = m2 x) ∧ ∀ m4, m4 = mset m3 48 2 (nI 0) → TkC 3 z C R m m4) (wp_eq (swt_at 3 (by decide) rfl) ?_) (fun _ m3 ⟨b1, b2, b3⟩ => fin m3 b1 b2 (fun z => absurd z (by decide)) (fun _ => b3))
      rw [e_copy (t := 19) (s := 104) (most := 16) (wide := 4) (by decide) t104 (by decide), bd_s]
      have o1 : ∀ x, x ≠ 19 → x ≠ 20 → tcp m2 19 104 64 x = m2 x := fun x x1 x2 => tcp_o x1 x2
      have r1 := rw_cp (t := 19) e104 a7 eR
      have v1 := hv (Or.inr (Or.inr rfl)) rfl
      refine wp_bind (w_seat (A := rA R) (D := rD R) hN (gF.cp (t := 19) (most := 16) (wide := 4) (by decide)) (by rw [o1 3 (by decide) (by decide)]; exact e3) hz r1.1 a7 (fun i hi => ?_)) ?_
      · obtain ⟨q, hq⟩ := get_lt hi
        obtain ⟨-, c1, c2, -⟩ := r1.2 i q hq
        obtain ⟨k1, k2, k3, k4⟩ := galRows v1 rfl hz hq
        exact ⟨c1.trans k1, c2.trans k2, k3, k4⟩
      · rintro _ m3 ⟨b1, b2, b3, b4⟩
        refine wp_ret ⟨b2, fun x hx => by rw [b1 x (by omega)]; exact o1 x (by omega) (by omega), ?_⟩
        rintro m4 rfl
        refine Or.inr ⟨by decide, mset_at _ _ _ _, by rw [mset_j (by decide), b1 48 (by decide), o1 48 (by decide) (by decide), lo 48 (by decide)], fun q hq => ⟨_, v1 q hq, rfl⟩, Or.inr (Or.inr ⟨rfl, fun x x0 x1 x2 x3 x4 => by rw [mset_ne x4, b1 x x1, o1 x x2 x3]; exact lo x x0, (r1.cg (b1 19 (by decide)) (b1 20 (by decide))).cg (mset_ne (by decide)) (mset_ne (by decide)), fun h hh => by rw [mset_k (by decide)]; exact b3 h hh, fun h c hh hc hc6 => ?_⟩)⟩
        rw [mset_k (by decide), b4 h c hh hc hc6, o1 4 (by decide) (by decide), lo 4 (by decide)]
  · rw [if_neg (nI_ne f0 (by omega) (by omega))]
    exact wp_ret ⟨_, rfl, gF, hi, g9, e1033, e1034, Or.inl ⟨f0, rfl, lo⟩⟩
end TEXTC
