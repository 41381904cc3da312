/-! what waits and what is laid, in the class's tables -/
def Stn (a : Arr) : List Nat → Prop
  | [] => True
  | o :: r => a r.length = nI o ∧ Stn a r
def cdR (a : Arr) (C : Cod) : Prop := ∀ r p, C[r]? = some p → a (r * 2 + 0) = p.1 ∧ a (r * 2 + 1) = p.2
/-- the waiting ones and the code -/
def SC (m : Mem) (W : List Nat) (C : Cod) : Prop := m 108 3 = nI W.length ∧ Stn (m 109) W ∧ m 106 3 = nI C.length ∧ cdR (m 107) C ∧ m 103 6 = nI (opn W) ∧ (∀ o ∈ W, 2 ≤ o ∧ o ≤ 12) ∧ Fx m
section STAK
variable {N : Nat} {m m1 m' : Mem} {W : List Nat} {C : Cod}
theorem Stn.cg {a a' : Arr} : ∀ {W : List Nat}, Stn a W → (∀ i, i < W.length → a' i = a i) → Stn a' W
  | [], _, _ => trivial
  | o :: r, h, hq => ⟨by rw [hq r.length (by simp)]; exact h.1, Stn.cg h.2 (fun i hi => hq i (by simp; omega))⟩
theorem cdR.snoc {a a' : Arr} {x y : Int32} (h : cdR a C) (h0 : ∀ i, i < C.length * 2 → a' i = a i) (h1 : a' (C.length * 2 + 0) = x) (h2 : a' (C.length * 2 + 1) = y) : cdR a' (C ++ [(x, y)]) := by
  intro r p hp
  by_cases e : r < C.length
  · rw [List.getElem?_append_left e] at hp
    rw [h0 _ (by omega), h0 _ (by omega)]
    exact h r p hp
  · rw [List.getElem?_append_right (by omega)] at hp
    have : r = C.length := by
      refine Decidable.by_contra fun q => ?_
      rw [List.getElem?_eq_none (by simp; omega)] at hp
      cases hp
    subst this
    rw [Nat.sub_self] at hp
    cases hp
    exact ⟨h1, h2⟩
theorem SC.cg (h : SC m W C) (hF : Fx m') (h6 : m' 103 6 = m 103 6) (hk : ∀ k, 106 ≤ k → k ≤ 109 → m' k = m k) : SC m' W C := by
  obtain ⟨h1, h2, h3, h4, h5, h6', h7⟩ := h
  exact ⟨by rw [hk 108 (by decide) (by decide)]; exact h1, by rw [hk 109 (by decide) (by decide)]; exact h2, by rw [hk 106 (by decide) (by decide)]; exact h3, by rw [hk 107 (by decide) (by decide)]; exact h4, by rw [h6]; exact h5, h6', hF⟩
theorem SC.code (h : SC m W C) (a b : Int32) (hC : C.length < 400) : SC (madd m 106 2 C.length a b (nI 0) (nI 0)) W (C ++ [(a, b)]) ∧ Fr [(106, 107)] m (madd m 106 2 C.length a b (nI 0) (nI 0)) := by
  obtain ⟨h1, h2, h3, h4, h5, h6', h7⟩ := h
  have hf : Fr [(106, 107)] m (madd m 106 2 C.length a b (nI 0) (nI 0)) := by
    intro k hk
    have := hk (106, 107) (by simp)
    simp only at this
    unfold madd
    rw [mset_ne (by omega)]
    funext i
    exact mrow_o (by omega)
  refine ⟨⟨by rw [hf.at 108 (by decide)]; exact h1, by rw [hf.at 109 (by decide)]; exact h2, ?_, ?_, by rw [hf.at 103 (by decide)]; exact h5, h6', h7.add (t := 106) (most := 400) (by decide)⟩, hf⟩
  · unfold madd
    rw [mset_at, List.length_append]; rfl
  · refine h4.snoc (fun i hi => ?_) ?_ ?_
    · unfold madd
      rw [mset_k (by decide)]
      exact mrow_n (t := 106) (by omega)
    · unfold madd
      rw [mset_k (by decide), mrow_in (t := 106) (by omega), show C.length * 2 + 0 - C.length * 2 = 0 by omega]; rfl
    · unfold madd
      rw [mset_k (by decide), mrow_in (t := 106) (by omega), show C.length * 2 + 1 - C.length * 2 = 1 by omega]; rfl
theorem SC.e_code (h : SC m W C) (hN : 20000 ≤ N) (a b : Int32) (hC : C.length < 400) : f_X9_add N 106 a b (nI 0) (nI 0) m = some (1, madd m 106 2 C.length a b (nI 0) (nI 0)) :=
  e_add hN h.2.2.2.2.2.2 (t := 106) (most := 400) (wide := 2) (by decide) h.2.2.1 hC
/-- one more waits: its row alone -/
theorem SC.row (h : SC m W C) (o : Nat) (hW : W.length < 400) : (madd m 108 1 W.length (nI o) (nI 0) (nI 0) (nI 0)) 108 3 = nI (o :: W).length ∧ Stn ((madd m 108 1 W.length (nI o) (nI 0) (nI 0) (nI 0)) 109) (o :: W) ∧ Fr [(108, 109)] m (madd m 108 1 W.length (nI o) (nI 0) (nI 0) (nI 0)) ∧ Fx (madd m 108 1 W.length (nI o) (nI 0) (nI 0) (nI 0)) := by
  obtain ⟨h1, h2, h3, h4, h5, h6', h7⟩ := h
  have hf : Fr [(108, 109)] m (madd m 108 1 W.length (nI o) (nI 0) (nI 0) (nI 0)) := by
    intro k hk
    have := hk (108, 109) (by simp)
    simp only at this
    unfold madd
    rw [mset_ne (by omega)]
    funext i
    exact mrow_o (by omega)
  refine ⟨?_, ⟨?_, h2.cg (fun i hi => ?_)⟩, hf, h7.add (t := 108) (most := 400) (by decide)⟩
  · unfold madd
    rw [mset_at]; rfl
  · unfold madd
    rw [mset_k (by decide), mrow_in (t := 108) (by omega), show W.length - W.length * 1 = 0 by omega]; rfl
  · unfold madd
    rw [mset_k (by decide)]
    exact mrow_n (t := 108) (by omega)
theorem SC.e_row (h : SC m W C) (hN : 20000 ≤ N) (a : Int32) (hW : W.length < 400) : f_X9_add N 108 a (nI 0) (nI 0) (nI 0) m = some (1, madd m 108 1 W.length a (nI 0) (nI 0) (nI 0)) :=
  e_add hN h.2.2.2.2.2.2 (t := 108) (most := 400) (wide := 1) (by decide) h.1 hW
theorem SC.push (h : SC m W C) {o : Nat} (ho : 2 ≤ o ∧ o ≤ 11 ∧ o ≠ 9) (hW : W.length < 400) : SC (madd m 108 1 W.length (nI o) (nI 0) (nI 0) (nI 0)) (o :: W) C ∧ Fr [(108, 109)] m (madd m 108 1 W.length (nI o) (nI 0) (nI 0) (nI 0)) := by
  obtain ⟨g1, g2, g3, g4⟩ := h.row o hW
  obtain ⟨h1, h2, h3, h4, h5, h6', h7⟩ := h
  refine ⟨⟨g1, g2, by rw [g3.at 106 (by decide)]; exact h3, by rw [g3.at 107 (by decide)]; exact h4, ?_, ?_, g4⟩, g3⟩
  · rw [g3.at 103 (by decide), h5]
    unfold opn
    rw [if_neg (by omega), Nat.zero_add]
    cases W <;> rfl
  · intro x hx
    rcases List.mem_cons.mp hx with rfl | hx
    · omega
    · exact h6' x hx
theorem e_stg {o : Nat} (ho : 2 ≤ o ∧ o ≤ 11) : f_X6_strength N (nI o) m = some (nI (stg o), m) := by
  have : o = 2 ∨ o = 3 ∨ o = 4 ∨ o = 5 ∨ o = 6 ∨ o = 7 ∨ o = 8 ∨ o = 9 ∨ o = 10 ∨ o = 11 := by omega
  unfold f_X6_strength
  rcases this with rfl | rfl | rfl | rfl | rfl | rfl | rfl | rfl | rfl | rfl
  · exact swt_at 0 (by decide) rfl
  · exact swt_at 1 (by decide) rfl
  · exact swt_at 2 (by decide) rfl
  · exact swt_at 3 (by decide) rfl
  · exact swt_at 4 (by decide) rfl
  · exact swt_at 5 (by decide) rfl
  · exact swt_at 6 (by decide) rfl
  · exact swt_at 7 (by decide) rfl
  · exact swt_at 8 (by decide) rfl
  · exact swt_no (Or.inr (by simp; decide))
theorem stg_le (o : Nat) : stg o ≤ 6 := by
  unfold stg
  repeat' split <;> first | omega | skip
theorem it1_s {α : Type} {b : (α → Mem → Ans) → α → Mem → Ans} {K : Nat} {a : α} {m : Mem} : it1 b (K + 1) a m = b (it1 b K) a m := rfl
/-- only the waiting ones, the code and the count of the open ones -/
def Dr (m m' : Mem) : Prop := Fr [(103, 103), (106, 109)] m m' ∧ ∀ i, i ≠ 6 → m' 103 i = m 103 i
theorem Dr.rf : Dr m m := ⟨Fr.rf, fun _ _ => rfl⟩
theorem w_dropL {l : Nat} (hN : 20000 ≤ N) (hl : l ≤ 6) : ∀ (W : List Nat) (K : Nat) (C : Cod) (m : Mem), W.length < K → SC m W C → C.length + W.length ≤ 400 →
    Wp (it1 (f_X6_dropDownTo_L10 N (nI l)) K (nI W.length - nI 1) m) (fun _ m' => SC m' (drp l W C).1 (drp l W C).2 ∧ Dr m m')
  | [], 0, _, _, h, _, _ => absurd h (by simp)
  | [], K + 1, C, m, _, h, _ => by
    rw [it1_s]
    unfold f_X6_dropDownTo_L10
    rw [if_pos (by decide)]
    exact wp_ret ⟨h, Dr.rf⟩
  | o :: W, 0, _, _, h, _, _ => absurd h (by omega)
  | o :: W, K + 1, C, m, hK, h, hn => by
    simp only [List.length_cons] at hK hn
    have hbo := h.2.2.2.2.2.1 o (by simp)
    rw [it1_s, show nI (o :: W).length - nI 1 = nI W.length from nI_pred _]
    have ih := fun C' m' => w_dropL hN hl W K C' m' (by omega)
    revert ih
    generalize it1 (f_X6_dropDownTo_L10 N (nI l)) K = X
    intro ih
    unfold f_X6_dropDownTo_L10
    simp only [li_0, li_1, li_2, li_3, li_4, li_5, li_6, li_7, li_8, li_9, li_10, li_11, li_12, li_13, li_14, li_15, li_16, li_17, li_18, li_19, li_20, li_21, li_22, li_23, li_24, li_25, li_26, li_27, li_28, li_29, li_30, li_31, li_32, li_37, li_38, li_39, li_40, li_41, li_42, li_43, li_44, li_45, li_46, li_47, li_48, li_49, li_50, li_57, li_59, li_60, li_61, li_62, li_63, li_64, li_65, li_69, li_81, li_89, li_90, li_92, li_97, li_99, li_100, li_101, li_103, li_104, li_105, li_106, li_108, li_111, li_112, li_113, li_114, li_115, li_116, li_117, li_119, li_122, li_123, li_124, li_125, li_126, li_127, li_128, li_129, li_130, li_131, li_132, li_133, li_134, li_135, li_136, li_137, li_140, li_141, li_142, li_143, li_145, li_147, li_150, li_153, li_159, li_160, li_161, li_162, li_185, li_197, li_213, li_222, li_223, li_255, li_256, li_257, li_258, li_259, li_260, li_261, li_262, li_263, li_264, li_271, li_272, li_273, li_274, li_275, li_276, li_277, li_278, li_300, li_400, li_420, li_500, li_802, li_820, li_823, li_839, li_855, li_871, li_887, li_999, li_1000, li_1001, li_1002, li_1003, li_1004, li_1005, li_1006, li_1007, li_1008, li_1009, li_1010, li_1011, li_1012, li_1013, li_1014, li_1015, li_1016, li_1017, li_1018, li_1019, li_1020, li_1021, li_1022, li_1023, li_1707, li_4096, li_9999, li_65536, li_100000, li_1000000, li_1664525, li_100000000, li_252645135, li_858993459, li_1000000007, li_1013904223, li_1431655765, li_m1]
    obtain ⟨h1, ⟨h2, h2'⟩, h3, h4, h5, h6', h7⟩ := id h
    rw [if_neg (nI_no0 (by omega)), e_at h7 (t := 108) (most := 400) (wide := 1) (by decide) h1 (by simp; omega) (by simp) (by decide), bd_s, show W.length * 1 + 0 = W.length by omega, h2]
    by_cases ho : o = 12
    · subst ho
      rw [if_pos rfl]
      refine wp_ret ⟨?_, Dr.rf⟩
      rw [show drp l (12 :: W) C = (12 :: W, C) from if_pos (Or.inl rfl)]
      exact h
    · have hs := stg_le o
      rw [if_neg (nI_ne ho (by omega) (by omega)), e_stg (by omega), bd_s]
      by_cases hq : l ≤ stg o
      · rw [if_pos (nI_le hq (by omega)), h.e_code hN (nI o) (nI 0) (by omega), bd_s, bnd_s]
        obtain ⟨g, gf⟩ := h.code (nI o) (nI 0) (by omega)
        have ed : drp l (o :: W) C = drp l W (C ++ [(nI o, nI 0)]) := if_neg (by omega)
        rw [ed, mset_ne (by decide)]
        have key : ∀ v, v = nI (opn W) → Wp (bnd (mset (mset (madd m 106 2 C.length (nI o) (nI 0) (nI 0) (nI 0)) 108 3 (nI W.length)) 103 6 v) fun m_76 => X (nI W.length + mo1) m_76) (fun _ m' => SC m' (drp l W (C ++ [(nI o, nI 0)])).1 (drp l W (C ++ [(nI o, nI 0)])).2 ∧ Dr m m') := by
          rintro v rfl
          rw [bnd_s, show nI W.length + mo1 = nI W.length - nI 1 by rw [Int32.sub_eq_add_neg]; rfl]
          obtain ⟨g1, g2, g3, g4, g5, g6, g7⟩ := g
          refine wp_mono (ih (C ++ [(nI o, nI 0)]) _ ⟨?_, ?_, ?_, ?_, mset_at _ _ _ _, fun x hx => h6' x (by simp [hx]), (g7.set (by decide)).out (by decide)⟩ (by simp; omega)) ?_
          · rw [mset_k (by decide), mset_at]
          · rw [mset_ne (by decide), mset_ne (by decide)]
            exact g2.2
          · rw [mset_k (by decide), mset_k (by decide)]; exact g3
          · rw [mset_ne (by decide), mset_ne (by decide)]; exact g4
          · rintro v m3 ⟨s1, s2, s3⟩
            refine ⟨s1, ((Fr.set (Fr.set (gf.mono (by decide)) (by decide)) (by decide)).trans s2), fun i hi => ?_⟩
            rw [s3 i hi, mset_j hi, mset_k (by decide), gf.at 103 (by decide)]
        have e6 : (madd m 106 2 C.length (nI o) (nI 0) (nI 0) (nI 0)) 103 6 = nI (opn (o :: W)) := by
          rw [gf.at 103 (by decide)]; exact h5
        rw [e6]
        have e7 : opn (o :: W) = (if o = 9 ∨ o = 12 then 1 else 0) + opn W := rfl
        by_cases h9 : o = 9
        · subst h9
          rw [if_pos rfl]
          refine key _ ?_
          rw [e7, if_pos (Or.inl rfl), Nat.add_comm 1, nI_dn]
        · rw [if_neg (nI_ne h9 (by omega) (by omega))]
          refine key _ ?_
          rw [e7, if_neg (by omega), Nat.zero_add]
          exact Int32.sub_zero _
      · rw [if_neg (nI_ge (by omega) (by omega))]
        refine wp_ret ⟨?_, Dr.rf⟩
        rw [show drp l (o :: W) C = (o :: W, C) from if_pos (Or.inr (by omega))]
        exact h
theorem w_drop {l : Nat} (hN : 20000 ≤ N) (hl : l ≤ 6) (h : SC m W C) (hn : C.length + W.length ≤ 400) : Wp (f_X6_dropDownTo N (nI l) m) (fun _ m' => SC m' (drp l W C).1 (drp l W C).2 ∧ Dr m m') := by
  unfold f_X6_dropDownTo
  simp only [li_0, li_1, li_2, li_3, li_4, li_5, li_6, li_7, li_8, li_9, li_10, li_11, li_12, li_13, li_14, li_15, li_16, li_17, li_18, li_19, li_20, li_21, li_22, li_23, li_24, li_25, li_26, li_27, li_28, li_29, li_30, li_31, li_32, li_37, li_38, li_39, li_40, li_41, li_42, li_43, li_44, li_45, li_46, li_47, li_48, li_49, li_50, li_57, li_59, li_60, li_61, li_62, li_63, li_64, li_65, li_69, li_81, li_89, li_90, li_92, li_97, li_99, li_100, li_101, li_103, li_104, li_105, li_106, li_108, li_111, li_112, li_113, li_114, li_115, li_116, li_117, li_119, li_122, li_123, li_124, li_125, li_126, li_127, li_128, li_129, li_130, li_131, li_132, li_133, li_134, li_135, li_136, li_137, li_140, li_141, li_142, li_143, li_145, li_147, li_150, li_153, li_159, li_160, li_161, li_162, li_185, li_197, li_213, li_222, li_223, li_255, li_256, li_257, li_258, li_259, li_260, li_261, li_262, li_263, li_264, li_271, li_272, li_273, li_274, li_275, li_276, li_277, li_278, li_300, li_400, li_420, li_500, li_802, li_820, li_823, li_839, li_855, li_871, li_887, li_999, li_1000, li_1001, li_1002, li_1003, li_1004, li_1005, li_1006, li_1007, li_1008, li_1009, li_1010, li_1011, li_1012, li_1013, li_1014, li_1015, li_1016, li_1017, li_1018, li_1019, li_1020, li_1021, li_1022, li_1023, li_1707, li_4096, li_9999, li_65536, li_100000, li_1000000, li_1664525, li_100000000, li_252645135, li_858993459, li_1000000007, li_1013904223, li_1431655765, li_m1]
  rw [h.1, bnd_s]
  exact w_dropL hN hl W N C m (by omega) h hn
theorem drp_len {l : Nat} : ∀ (W : List Nat) (C : Cod), (drp l W C).2.length + (drp l W C).1.length = C.length + W.length
  | [], _ => rfl
  | o :: W, C => by
    unfold drp
    split
    · rfl
    · rw [drp_len W]
      simp
      omega
theorem drp_le {l : Nat} : ∀ (W : List Nat) (C : Cod), (drp l W C).1.length ≤ W.length
  | [], _ => Nat.le_refl _
  | o :: W, C => by
    unfold drp
    split
    · exact Nat.le_refl _
    · exact Nat.le_trans (drp_le W _) (by simp)
theorem drp_brk {l : Nat} : ∀ (W : List Nat) (C : Cod), brk (drp l W C).1 = brk W
  | [], _ => rfl
  | o :: W, C => by
    unfold drp
    split
    · rfl
    · rw [drp_brk W]
      show brk W = (if o = 12 then 1 else 0) + brk W
      rw [if_neg (by omega)]
      omega
/-- down to the bracket -/
theorem drp_0 : ∀ (W : List Nat) (C : Cod), (drp 0 W C).1 = [] ∨ ∃ U, (drp 0 W C).1 = 12 :: U
  | [], _ => Or.inl rfl
  | o :: W, C => by
    unfold drp
    split
    · rename_i h
      have : o = 12 := by omega
      subst this
      exact Or.inr ⟨W, rfl⟩
    · exact drp_0 W _
end STAK
