/-! a line of THE LAW as the class reads it, to its end -/
def Iv (M : Nat) (s : Mst) : Prop := Nm M s ∧ s.2.2.2.2.1 < 3 ∧ (s.1 ≠ 5 → s.2.2.2.2.2.2.2 = 0) ∧ s.1 ≤ 5
section RLAW
variable {N : Nat} {m0 m m1 m' : Mem} {B : Nat → Nat} {n M li : Nat} {W : List Nat} {C C0 : Cod} {ex j sd md fn fl b : Nat} {s t : Mst} {K : Nat → Nat} {V : Nat → Int32}
theorem stp0_iv {k : Nat} (h : Iv M (0, j, W, C, sd, md, fn, fl)) (hK : k ≠ 0 → j < M) : Iv M (stp0 k j W C sd md fn fl) := by
  obtain ⟨⟨h1, h2⟩, h3, h4, h5⟩ := h
  have h4 := h4 (by simp)
  simp only at h1 h2 h3 h4
  unfold stp0
  split
  · have := hK (by omega)
    split
    · exact ⟨⟨h1, h2⟩, h3, fun z => absurd rfl z, Nat.le_refl _⟩
    · exact ⟨⟨by simp; omega, by simp; omega⟩, h3, fun _ => h4, by simp⟩
  · split
    · have := hK (by omega)
      split
      · exact ⟨⟨h1, h2⟩, h3, fun z => absurd rfl z, Nat.le_refl _⟩
      · exact ⟨⟨by simp; omega, by simp; omega⟩, h3, fun _ => h4, by simp⟩
    · exact ⟨⟨h1, h2⟩, by simp, fun _ => h4, by simp⟩
theorem stp1_iv {k : Nat} {v : Int32} (h : Iv M (1, j, W, C, sd, md, fn, fl)) (hK : k ≠ 0 → j < M) : Iv M (stp1 k v j W C sd md fn fl) := by
  obtain ⟨⟨h1, h2⟩, h3, h4, h5⟩ := h
  have h4 := h4 (by simp)
  simp only at h1 h2 h3 h4
  unfold stp1
  split
  · have := hK (by omega)
    exact ⟨⟨by simp; omega, by simp; omega⟩, h3, fun _ => h4, by simp⟩
  · split
    · have := hK (by omega)
      exact ⟨⟨by simp; omega, by simp; omega⟩, h3, fun _ => h4, by simp⟩
    · exact ⟨⟨h1, h2⟩, h3, fun z => absurd rfl z, Nat.le_refl _⟩
theorem stp2_iv {k : Nat} {v : Int32} (h : Iv M (2, j, W, C, sd, md, fn, fl)) (hK : k ≠ 0 → j < M) : Iv M (stp2 k v j W C sd md fn fl) := by
  obtain ⟨⟨h1, h2⟩, h3, h4, h5⟩ := h
  have h4 := h4 (by simp)
  simp only at h1 h2 h3 h4
  unfold stp2
  split
  · have := hK (by omega)
    split
    · exact ⟨⟨h1, h2⟩, h3, fun z => absurd rfl z, Nat.le_refl _⟩
    · exact ⟨⟨by simp; omega, by simp; omega⟩, h3, fun _ => h4, by simp⟩
  · exact ⟨⟨h1, h2⟩, h3, fun z => absurd rfl z, Nat.le_refl _⟩
theorem opO_0 : opO 0 = 0 := rfl
theorem stp3_iv {k : Nat} (h : Iv M (3, j, W, C, sd, md, fn, fl)) (hK : k ≠ 0 → j < M) : Iv M (stp3 k j W C sd md fn fl) := by
  obtain ⟨⟨h1, h2⟩, h3, h4, h5⟩ := h
  have h4 := h4 (by simp)
  simp only at h1 h2 h3 h4
  have d1 := drp_len (l := stg (opO k)) W C
  have d2 := drp_len (l := 4) W C
  have d3 := drp_len (l := 0) W C
  have hK' : opO k ≠ 0 → j < M := fun z => hK (fun y => z (by rw [y]; rfl))
  unfold stp3
  split
  · have := hK' (by omega)
    exact ⟨⟨by simp; omega, by simp; omega⟩, h3, fun _ => h4, by simp; split <;> omega⟩
  · split
    · have := hK' (by omega)
      exact ⟨⟨by simp; omega, by simp; omega⟩, by simp, fun _ => h4, by simp⟩
    · split
      · have := hK (by omega)
        exact ⟨⟨by simp; omega, by simp; omega⟩, h3, fun _ => h4, by simp⟩
      · split
        · have := hK (by omega)
          exact ⟨⟨by simp; omega, by simp; omega⟩, h3, fun _ => h4, by simp⟩
        · split
          · exact ⟨⟨h1, h2⟩, h3, fun _ => h4, by simp⟩
          · exact ⟨⟨h1, h2⟩, h3, fun z => absurd rfl z, Nat.le_refl _⟩
theorem stp4_iv {k : Nat} (h : Iv M (4, j, W, C, sd, md, fn, fl)) (hK : k ≠ 0 → j < M) : Iv M (stp4 k j W C sd md fn fl) := by
  obtain ⟨⟨h1, h2⟩, h3, h4, h5⟩ := h
  have h4 := h4 (by simp)
  simp only at h1 h2 h3 h4
  have d1 := drp_len (l := stg (opO k)) W C
  have d3 := drp_len (l := 0) W C
  have hK' : opO k ≠ 0 → j < M := fun z => hK (fun y => z (by rw [y]; rfl))
  unfold stp4
  split
  · have := hK' (by omega)
    exact ⟨⟨by simp; omega, by simp; omega⟩, h3, fun _ => h4, by simp⟩
  · split
    · have := hK (by omega)
      exact ⟨⟨by simp; omega, by simp; omega⟩, h3, fun _ => h4, by simp⟩
    · split
      · have := hK (by omega)
        exact ⟨⟨by simp; omega, by simp; omega⟩, h3, fun _ => h4, by simp⟩
      · exact ⟨⟨h1, h2⟩, h3, fun z => absurd rfl z, Nat.le_refl _⟩
theorem stp_iv (h : Iv M s) (hK : ∀ j, j ≤ M → K j ≠ 0 → j < M) : Iv M (stp K V s) := by
  obtain ⟨ex, j, W, C, sd, md, fn, fl⟩ := s
  have hk := hK j h.1.2
  unfold stp
  split
  · rename_i e
    have e : ex = 0 := e
    subst e
    exact stp0_iv h hk
  · split
    · rename_i e
      have e : ex = 1 := e
      subst e
      exact stp1_iv h hk
    · split
      · rename_i e
        have e : ex = 2 := e
        subst e
        exact stp2_iv h hk
      · split
        · rename_i e
          have e : ex = 3 := e
          subst e
          exact stp3_iv h hk
        · split
          · rename_i e
            have e : ex = 4 := e
            subst e
            exact stp4_iv h hk
          · exact h
theorem itn_s (i : Nat) : itn K V (i + 1) s = stp K V (itn K V i s) := itn_add i 1 s
theorem w_readL {ex0 : Int32} (hN : 20000 ≤ N) (hM : Mt B n M) (hli : li < 16) (hs : CMa B n M li m0 m s) (hI : Iv M s) (h0 : ex0 = nI s.1) :
    Wp (it2 (f_X6_readLaw_L46 N) N ex0 (nI 0) m) (fun _ m' => CMa B n M li m0 m' (itn (tkK B n) (tkV B n) 802 s) ∧ Iv M (itn (tkK B n) (tkV B n) 802 s)) := by
  subst h0
  have hK : ∀ j, j ≤ M → tkK B n j ≠ 0 → j < M := fun j hj h => hM.lt hj rfl h
  refine wp_it2 (fun k a c m' => ∃ i, i ≤ 802 ∧ k = 802 - i ∧ a = nI (itn (tkK B n) (tkV B n) i s).1 ∧ c = nI i ∧ CMa B n M li m0 m' (itn (tkK B n) (tkV B n) i s) ∧ Iv M (itn (tkK B n) (tkV B n) i s)) ?_ N 802 _ _ _ (by omega) ⟨0, by omega, rfl, rfl, rfl, hs, hI⟩
  rintro k X a c m1 ⟨i, hi, rfl, rfl, rfl, h, hv⟩ hX
  have fin : 802 ≤ i ∨ (itn (tkK B n) (tkV B n) i s).1 = 5 → Wp (some (nI 0, m1)) (fun _ m' => CMa B n M li m0 m' (itn (tkK B n) (tkV B n) 802 s) ∧ Iv M (itn (tkK B n) (tkV B n) 802 s)) := by
    intro q
    have e : itn (tkK B n) (tkV B n) 802 s = itn (tkK B n) (tkV B n) i s := by
      rcases q with q | q
      · rw [show i = 802 by omega]
      · obtain ⟨d, hd⟩ : ∃ d, 802 = i + d := ⟨802 - i, by omega⟩
        rw [hd, itn_add, itn_fix q]
    rw [e]
    exact wp_ret ⟨h, hv⟩
  have nxt : ∀ a' m', a' = nI (stp (tkK B n) (tkV B n) (itn (tkK B n) (tkV B n) i s)).1 → i < 802 → CMa B n M li m0 m' (stp (tkK B n) (tkV B n) (itn (tkK B n) (tkV B n) i s)) → Wp (X a' (nI i + nI 1) m') (fun _ m' => CMa B n M li m0 m' (itn (tkK B n) (tkV B n) 802 s) ∧ Iv M (itn (tkK B n) (tkV B n) 802 s)) := by
    rintro a' m' rfl hi2 hc
    rw [nI_up, ← itn_s]
    rw [← itn_s] at hc
    have hv2 := stp_iv (V := tkV B n) hv hK
    rw [← itn_s] at hv2
    exact hX (802 - (i + 1)) _ _ _ (by omega) ⟨i + 1, by omega, rfl, rfl, rfl, hc, hv2⟩
  revert fin nxt
  generalize itn (tkK B n) (tkV B n) 802 s = t
  generalize itn (tkK B n) (tkV B n) i s = u at h hv
  intro fin nxt
  obtain ⟨ex, j, W, C, sd, md, fn, fl⟩ := u
  obtain ⟨⟨v1, v2⟩, v3, v4, v5⟩ := hv
  simp only at v1 v2 v3 v4 v5
  unfold f_X6_readLaw_L46
  simp only [li_0, li_1, li_2, li_3, li_4, li_5, li_6, li_7, li_8, li_9, li_10, li_11, li_12, li_13, li_14, li_15, li_16, li_17, li_18, li_19, li_20, li_21, li_22, li_23, li_24, li_25, li_26, li_27, li_28, li_29, li_30, li_31, li_32, li_37, li_38, li_39, li_40, li_41, li_42, li_43, li_44, li_45, li_46, li_47, li_48, li_49, li_50, li_57, li_59, li_60, li_61, li_62, li_63, li_64, li_65, li_69, li_81, li_89, li_90, li_92, li_97, li_99, li_100, li_101, li_103, li_104, li_105, li_106, li_108, li_111, li_112, li_113, li_114, li_115, li_116, li_117, li_119, li_122, li_123, li_124, li_125, li_126, li_127, li_128, li_129, li_130, li_131, li_132, li_133, li_134, li_135, li_136, li_137, li_140, li_141, li_142, li_143, li_145, li_147, li_150, li_153, li_159, li_160, li_161, li_162, li_185, li_197, li_213, li_222, li_223, li_255, li_256, li_257, li_258, li_259, li_260, li_261, li_262, li_263, li_264, li_271, li_272, li_273, li_274, li_275, li_276, li_277, li_278, li_300, li_400, li_420, li_500, li_802, li_820, li_823, li_839, li_855, li_871, li_887, li_999, li_1000, li_1001, li_1002, li_1003, li_1004, li_1005, li_1006, li_1007, li_1008, li_1009, li_1010, li_1011, li_1012, li_1013, li_1014, li_1015, li_1016, li_1017, li_1018, li_1019, li_1020, li_1021, li_1022, li_1023, li_1707, li_4096, li_9999, li_65536, li_100000, li_1000000, li_1664525, li_100000000, li_252645135, li_858993459, li_1000000007, li_1013904223, li_1431655765, li_m1]
  by_cases q : 802 ≤ i
  · rw [if_pos (nI_le q (by omega))]
    exact fin (Or.inl q)
  · rw [if_neg (nI_ge (by omega) (by omega))]
    by_cases q5 : ex = 5
    · rw [if_pos (by rw [q5])]
      exact fin (Or.inr q5)
    · have v4 := v4 q5
      subst v4
      have h3 : m1 103 3 = nI 0 := h.2.2.2.2.2.2.2.2.1
      rw [if_neg (nI_ne q5 (by omega) (by omega)), if_pos h3]
      have : ex = 0 ∨ ex = 1 ∨ ex = 2 ∨ ex = 3 ∨ ex = 4 := by omega
      rcases this with rfl | rfl | rfl | rfl | rfl
      · refine wp_eq (swt_at 0 (by decide) rfl) ?_
        refine wp_bind (w_rC hN hM h v1 v2) ?_
        rintro _ m2 ⟨rfl, h2⟩
        exact nxt _ _ rfl (by omega) h2
      · refine wp_eq (swt_at 1 (by decide) rfl) ?_
        refine wp_bind (w_rU hN hM h v1 v2) ?_
        rintro _ m2 ⟨rfl, h2⟩
        exact nxt _ _ rfl (by omega) h2
      · refine wp_eq (swt_at 2 (by decide) rfl) ?_
        refine wp_bind (w_rD hN hM h v1 v2) ?_
        rintro _ m2 ⟨rfl, h2⟩
        exact nxt _ _ rfl (by omega) h2
      · refine wp_eq (swt_at 3 (by decide) rfl) ?_
        refine wp_bind (w_rB hN hM h v1 v2 hli v3) ?_
        rintro _ m2 ⟨rfl, h2⟩
        exact nxt _ _ rfl (by omega) h2
      · refine wp_eq (swt_no (Or.inr (by simp; decide))) ?_
        refine wp_bind (w_rE hN hM h v1 v2 hli) ?_
        rintro _ m2 ⟨rfl, h2⟩
        exact nxt _ _ rfl (by omega) h2
/-- the line's row, and what is laid before it -/
def Ln0 (B : Nat → Nat) (n M li j : Nat) (C0 : Cod) (m : Mem) : Prop :=
  CT B n M j m ∧ Fx m ∧ m 106 3 = nI C0.length ∧ cdR (m 107) C0 ∧ m 103 9 = nI li ∧ m 104 3 = nI (li + 1) ∧ m 105 (li * 4 + 2) = nI 0 ∧ m 105 (li * 4 + 3) = nI 0 ∧ m 103 3 = nI 0
theorem w_readLaw (hN : 20000 ≤ N) (hM : Mt B n M) (hli : li < 16) (h : Ln0 B n M li j C0 m) (hC : C0.length ≤ j) (hj : j ≤ M) :
    Wp (f_X6_readLaw N m) (fun _ m' => ∃ m1, CMa B n M li m1 m' (itn (tkK B n) (tkV B n) 802 (1, j, [], C0, 0, 0, 0, 0)) ∧ Iv M (itn (tkK B n) (tkV B n) 802 (1, j, [], C0, 0, 0, 0, 0)) ∧ (∀ x, x ≠ 103 → x ≠ 105 → x ≠ 108 → m1 x = m x) ∧ (∀ i, i ≠ 6 → i ≠ 7 → i ≠ 8 → m1 103 i = m 103 i) ∧ (∀ i, i ≠ li * 4 + 1 → m1 105 i = m 105 i) ∧ m1 105 (li * 4 + 1) = nI C0.length) := by
  obtain ⟨h1, h2, h3, h4, h5, h6, h7, h8, h9⟩ := h
  have hF : Fx (mset (mset (mset (mset m 108 3 (nI 0)) 103 6 (nI 0)) 103 7 (nI 0)) 103 8 (nI 0)) := (((h2.set (by decide)).out (by decide)).out (by decide)).out (by decide)
  unfold f_X6_readLaw
  simp only [li_0, li_1, li_2, li_3, li_4, li_5, li_6, li_7, li_8, li_9, li_10, li_11, li_12, li_13, li_14, li_15, li_16, li_17, li_18, li_19, li_20, li_21, li_22, li_23, li_24, li_25, li_26, li_27, li_28, li_29, li_30, li_31, li_32, li_37, li_38, li_39, li_40, li_41, li_42, li_43, li_44, li_45, li_46, li_47, li_48, li_49, li_50, li_57, li_59, li_60, li_61, li_62, li_63, li_64, li_65, li_69, li_81, li_89, li_90, li_92, li_97, li_99, li_100, li_101, li_103, li_104, li_105, li_106, li_108, li_111, li_112, li_113, li_114, li_115, li_116, li_117, li_119, li_122, li_123, li_124, li_125, li_126, li_127, li_128, li_129, li_130, li_131, li_132, li_133, li_134, li_135, li_136, li_137, li_140, li_141, li_142, li_143, li_145, li_147, li_150, li_153, li_159, li_160, li_161, li_162, li_185, li_197, li_213, li_222, li_223, li_255, li_256, li_257, li_258, li_259, li_260, li_261, li_262, li_263, li_264, li_271, li_272, li_273, li_274, li_275, li_276, li_277, li_278, li_300, li_400, li_420, li_500, li_802, li_820, li_823, li_839, li_855, li_871, li_887, li_999, li_1000, li_1001, li_1002, li_1003, li_1004, li_1005, li_1006, li_1007, li_1008, li_1009, li_1010, li_1011, li_1012, li_1013, li_1014, li_1015, li_1016, li_1017, li_1018, li_1019, li_1020, li_1021, li_1022, li_1023, li_1707, li_4096, li_9999, li_65536, li_100000, li_1000000, li_1664525, li_100000000, li_252645135, li_858993459, li_1000000007, li_1013904223, li_1431655765, li_m1]
  rw [bnd_s, bnd_s, bnd_s, bnd_s, mset_j (by decide), mset_j (by decide), mset_j (by decide), mset_k (by decide), h5, mset_k (by decide), mset_k (by decide), mset_k (by decide), mset_k (by decide), h3,
    e_put hF (t := 104) (most := 16) (wide := 4) (n := li + 1) (by decide) (by rw [mset_k (by decide), mset_k (by decide), mset_k (by decide), mset_k (by decide)]; exact h6) (by omega) (by omega) (by decide), bd_s]
  have e1 : ∀ x, x ≠ 103 → x ≠ 105 → x ≠ 108 → (mset (mset (mset (mset (mset m 108 3 (nI 0)) 103 6 (nI 0)) 103 7 (nI 0)) 103 8 (nI 0)) (104 + 1) (li * 4 + 1) (nI C0.length)) x = m x := fun x x1 x2 x3 => by
    rw [mset_ne (by omega), mset_ne (by omega), mset_ne (by omega), mset_ne (by omega), mset_ne (by omega)]
  have e2 : ∀ i, i ≠ 6 → i ≠ 7 → i ≠ 8 → (mset (mset (mset (mset (mset m 108 3 (nI 0)) 103 6 (nI 0)) 103 7 (nI 0)) 103 8 (nI 0)) (104 + 1) (li * 4 + 1) (nI C0.length)) 103 i = m 103 i := fun i i1 i2 i3 => by
    rw [mset_k (by decide), mset_j i3, mset_j i2, mset_j i1, mset_k (by decide)]
  have e3 : ∀ i, i ≠ li * 4 + 1 → (mset (mset (mset (mset (mset m 108 3 (nI 0)) 103 6 (nI 0)) 103 7 (nI 0)) 103 8 (nI 0)) (104 + 1) (li * 4 + 1) (nI C0.length)) 105 i = m 105 i := fun i i1 => by
    rw [mset_j i1, mset_k (by decide), mset_k (by decide), mset_k (by decide), mset_k (by decide)]
  have e4 : (mset (mset (mset (mset (mset m 108 3 (nI 0)) 103 6 (nI 0)) 103 7 (nI 0)) 103 8 (nI 0)) (104 + 1) (li * 4 + 1) (nI C0.length)) 105 (li * 4 + 1) = nI C0.length := mset_at _ _ _ _
  have e5 : (mset (mset (mset (mset (mset m 108 3 (nI 0)) 103 6 (nI 0)) 103 7 (nI 0)) 103 8 (nI 0)) (104 + 1) (li * 4 + 1) (nI C0.length)) 108 3 = nI 0 := by
    rw [mset_k (by decide), mset_k (by decide), mset_k (by decide), mset_k (by decide), mset_at]
  have e6 : ∀ i, i = 6 ∨ i = 7 ∨ i = 8 → (mset (mset (mset (mset (mset m 108 3 (nI 0)) 103 6 (nI 0)) 103 7 (nI 0)) 103 8 (nI 0)) (104 + 1) (li * 4 + 1) (nI C0.length)) 103 i = nI 0 := fun i hi => by
    rw [mset_k (by decide)]
    rcases hi with rfl | rfl | rfl
    · rw [mset_j (by decide), mset_j (by decide), mset_at]
    · rw [mset_j (by decide), mset_at]
    · rw [mset_at]
  have hF1 : Fx (mset (mset (mset (mset (mset m 108 3 (nI 0)) 103 6 (nI 0)) 103 7 (nI 0)) 103 8 (nI 0)) (104 + 1) (li * 4 + 1) (nI C0.length)) := hF.cell (t := 104) (most := 16) (wide := 4) (by decide)
  revert e1 e2 e3 e4 e5 e6 hF1
  generalize (mset (mset (mset (mset (mset m 108 3 (nI 0)) 103 6 (nI 0)) 103 7 (nI 0)) 103 8 (nI 0)) (104 + 1) (li * 4 + 1) (nI C0.length)) = m1
  intro e1 e2 e3 e4 e5 e6 hF1
  have hcm : CMa B n M li m1 m1 (1, j, [], C0, 0, 0, 0, 0) := by
    refine ⟨h1.cg (fun k k1 k2 => e1 k (by omega) (by omega) (by omega)), ⟨e5, trivial, by rw [e1 106 (by decide) (by decide) (by decide)]; exact h3, by rw [e1 107 (by decide) (by decide) (by decide)]; exact h4, e6 6 (Or.inl rfl), (fun o ho => by cases ho), hF1⟩,
      e6 7 (by decide), e6 8 (by decide), by rw [e2 9 (by decide) (by decide) (by decide)]; exact h5, by rw [e1 104 (by decide) (by decide) (by decide)]; exact h6, by rw [e3 _ (by omega)]; exact h7, by rw [e3 _ (by omega)]; exact h8, by rw [e2 3 (by decide) (by decide) (by decide)]; exact h9,
      ⟨fun z => absurd rfl z, fun _ => rfl⟩, fun _ _ _ _ => rfl, fun _ _ _ => rfl, fun _ _ _ _ _ _ => rfl⟩
  refine wp_mono (w_readL hN hM hli hcm ⟨⟨by simp; exact hC, hj⟩, by simp, fun _ => rfl, by simp⟩ rfl) ?_
  rintro _ m2 ⟨c1, c2⟩
  exact ⟨m1, c1, c2, e1, e2, e3, e4⟩
end RLAW
