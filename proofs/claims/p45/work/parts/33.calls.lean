/-! what holds between calls; the first pairs of calls -/
def TapR (m : Mem) : Prop := ∃ L, L ≤ 400 ∧ m 99 2 = nI L ∧ m 123 16 = nI L ∧ ∀ i, i < L → ∃ b, b < 256 ∧ m 100 i = nI b ∧ m 131 i = nI b
def FltR (m : Mem) : Prop := m 103 3 = m 123 23 ∧ m 103 4 = m 123 25
def Good (LN : List Lin) (w : Arr) : Prop := WFc w ∧ WFm 11258 w ∧ lawW w LN
def ImgR (m : Mem) : Prop := (m 0 2 = nI 0 ∧ m 123 5 = nI 0) ∨ (m 0 2 = nI 1 ∧ m 123 5 = nI 1 ∧ ∃ LN, HRep 25 LN (m 125) m ∧ Good LN (m 125))
def Inv (m : Mem) : Prop := ∃ LN, HRep 2 LN (m 124) m ∧ Good LN (m 124) ∧ PastR (m 124) m ∧ ImgR m ∧ TapR m ∧ FltR m ∧ m 113 4 = nI 0
/-- both sides answer alike, and it holds again -/
def Pr (x y : Mem → Ans) : Prop := ∀ m, Inv m → Wp (x m) (fun v1 m1 => Wp (y m1) (fun v2 m2 => v1 = v2 ∧ Inv m2))
section CALLS
variable {w w' : Arr} {LN : List Lin} {m m' m2 : Mem} {N : Nat}
theorem Inv.re (h : Inv m) (H : HRep 2 LN w' m2) (hw : m2 124 = w') (G : Good LN w') (P : PastR w' m2) (hk : ∀ k, k = 0 ∨ (25 ≤ k ∧ k ≤ 47) ∨ k = 99 ∨ k = 100 ∨ k = 125 ∨ k = 131 → m2 k = m k)
    (h103 : m2 103 3 = m 103 3 ∧ m2 103 4 = m 103 4) (h113 : m2 113 4 = m 113 4) (h123 : ∀ j, j = 5 ∨ j = 16 ∨ j = 23 ∨ j = 25 → m2 123 j = m 123 j) : Inv m2 := by
  obtain ⟨LN0, -, -, -, hI, hT, hF, h4⟩ := h
  subst hw
  refine ⟨LN, H, G, P, ?_, ?_, ?_, by rw [h113]; exact h4⟩
  · unfold ImgR at hI ⊢
    rw [hk 0 (by omega), h123 5 (by omega), hk 125 (by omega)]
    rcases hI with hI | ⟨a, b, L1, H1, G1⟩
    · exact Or.inl hI
    · exact Or.inr ⟨a, b, L1, H1.cg G1.1.sml H.fx (fun k a b => hk k (by omega)) (fun _ _ _ _ => rfl), G1⟩
  · obtain ⟨L, h1, h2, h3, h5⟩ := hT
    refine ⟨L, h1, by rw [hk 99 (by omega)]; exact h2, by rw [h123 16 (by omega)]; exact h3, fun i hi => ?_⟩
    rw [hk 100 (by omega), hk 131 (by omega)]
    exact h5 i hi
  · unfold FltR
    rw [h103.1, h103.2, h123 23 (by omega), h123 25 (by omega)]
    exact hF
theorem PastR.zero {p : Nat} (hp : p < 6) (e1 : m 48 1 = nI p) (e2 : m 48 2 = nI 0) (e3 : m 123 4 = nI 0) : PastR w m := ⟨0, p, by omega, hp, e2, e1, e3, fun i hi => absurd hi (by omega)⟩
/-- a thought or a question: the state is as it was -/
theorem Inv.q (h : Inv m) (H : HRep 2 LN (m 124) m2) (G : Good LN (m 124)) (hk : ∀ k, k = 0 ∨ (25 ≤ k ∧ k ≤ 91) ∨ k = 99 ∨ k = 100 ∨ k = 124 ∨ k = 125 ∨ k = 126 ∨ k = 131 → m2 k = m k)
    (h103 : m2 103 3 = m 103 3 ∧ m2 103 4 = m 103 4) (h113 : m2 113 4 = m 113 4) (h123 : ∀ j, j = 4 ∨ j = 5 ∨ j = 16 ∨ j = 23 ∨ j = 25 → m2 123 j = m 123 j) : Inv m2 := by
  obtain ⟨LN0, -, -, hP, -⟩ := id h
  refine h.re H (hk 124 (by omega)) G ?_ (fun k h1 => hk k (by omega)) h103 h113 (fun j hj => h123 j (by omega))
  refine hP.cg G.1 (fun k a b => hk k (by omega)) ⟨by rw [hk 48 (by omega)], by rw [hk 48 (by omega)]⟩ (h123 4 (by omega)) (hk 126 (by omega)) (fun _ _ => rfl)
theorem Inv.q1 {S : List (Nat × Nat)} (h : Inv m) (f : Fr S m m2) (hS : (tbs.all (fun q => S.all (fun p => decide (q.1 < p.1) || decide (p.2 < q.1))) && S.all (fun p => decide (24 < p.1) || decide (p.2 ≤ 2))) = true)
    (hS2 : S.all (fun p => decide (p.2 < 25) || decide (91 < p.1)) = true) (hS3 : [0, 99, 100, 103, 113, 123, 124, 125, 126, 131].all (fun k => S.all (fun p => decide (k < p.1) || decide (p.2 < k))) = true) : Inv m2 := by
  obtain ⟨LN, H, G, -⟩ := id h
  have e : ∀ k ∈ [0, 99, 100, 103, 113, 123, 124, 125, 126, 131], m2 k = m k := fun k hk => f.at k (List.all_eq_true.mp hS3 k hk)
  have e2 : ∀ k, 25 ≤ k → k ≤ 91 → m2 k = m k := fun k h1 h2 => f k (fun p hp => by
    have := List.all_eq_true.mp hS2 p hp
    simp only [Bool.or_eq_true, decide_eq_true_eq] at this
    omega)
  refine h.q (H.fr G.1.sml f hS) G ?_ ?_ ?_ ?_
  · intro k hk
    rcases hk with rfl | hk | rfl | rfl | rfl | rfl | rfl | rfl
    · exact e _ (by decide)
    · exact e2 k hk.1 hk.2
    all_goals exact e _ (by decide)
  · rw [e 103 (by decide)]; exact ⟨rfl, rfl⟩
  · rw [e 113 (by decide)]
  · intro j _
    rw [e 123 (by decide)]
theorem Inv.rf (h : Inv m) : Inv m := h
/-- what cells a pair that forgets may change: one of the class's places, and the reference's state -/
theorem e_hou6 (H : HRep 2 LN w m) : f_X1_hour N 6 m = some (w 5, m) := hr_hour (c := 6) H (by decide)
theorem pr_state {a : Int32} : Pr (f_X11_state N a) (f_X12_state N a) := by
  intro m hI
  obtain ⟨LN, H, G, ⟨k, p, hk, hp, e2, e1, e3, hs⟩, -⟩ := id hI
  unfold f_X11_state
  simp only [li_0, li_1, li_2, li_3, li_4, li_5, li_6, li_7, li_8, li_9, li_10, li_11, li_12, li_13, li_14, li_15, li_16, li_17, li_18, li_19, li_20, li_21, li_22, li_23, li_24, li_25, li_26, li_27, li_28, li_29, li_30, li_31, li_32, li_37, li_38, li_39, li_40, li_41, li_42, li_43, li_44, li_45, li_46, li_47, li_48, li_49, li_50, li_57, li_59, li_60, li_61, li_62, li_63, li_64, li_65, li_69, li_81, li_89, li_90, li_92, li_97, li_99, li_100, li_101, li_103, li_104, li_105, li_106, li_108, li_111, li_112, li_113, li_114, li_115, li_116, li_117, li_119, li_122, li_123, li_124, li_125, li_126, li_127, li_128, li_129, li_130, li_131, li_132, li_133, li_134, li_135, li_136, li_137, li_140, li_141, li_142, li_143, li_145, li_147, li_150, li_153, li_159, li_160, li_161, li_162, li_185, li_197, li_213, li_222, li_223, li_255, li_256, li_257, li_258, li_259, li_260, li_261, li_262, li_263, li_264, li_271, li_272, li_273, li_274, li_275, li_276, li_277, li_278, li_300, li_400, li_420, li_500, li_802, li_820, li_823, li_839, li_855, li_871, li_887, li_999, li_1000, li_1001, li_1002, li_1003, li_1004, li_1005, li_1006, li_1007, li_1008, li_1009, li_1010, li_1011, li_1012, li_1013, li_1014, li_1015, li_1016, li_1017, li_1018, li_1019, li_1020, li_1021, li_1022, li_1023, li_1707, li_4096, li_9999, li_65536, li_100000, li_1000000, li_1664525, li_100000000, li_252645135, li_858993459, li_1000000007, li_1013904223, li_1431655765, li_m1]
  rw [hr_hour H (by decide), bd_s, hr_setHour H (by decide), bd_s, e_forget, bd_s]
  refine wp_ret ?_
  unfold f_X12_state
  simp only [e_forgets, bnd_s, bd_s]
  refine wp_ret ⟨?_, ?_⟩
  · rw [mset_ne (by decide), mset_ne (by decide)]; rfl
  · have H1 := H.hou_set (c := 6) (v := a) G.1 (by decide)
    have W1 : WFc (upd (m 124) (houI 6) a) := G.1.up (by decide)
    have e124 : ∀ m0 : Mem, mset (mset m0 124 5 a) 123 4 (nI 0) 124 = upd (m0 124) 5 a := fun m0 => by rw [mset_ne (by decide), mset_eq]
    refine hI.re (LN := LN) (w' := upd (m 124) 5 a) (H1.fr W1.sml (Fr.set (S := [(48, 48), (123, 124)]) (Fr.set (Fr.set Fr.rf (by decide)) (by decide)) (by decide)) (by decide +kernel)) ?_ ⟨W1, ?_, G.2.2.up (by decide) (by decide)⟩ (PastR.zero hp ?_ ?_ ?_) (fun k hk => ?_) ?_ ?_ ?_
    · rw [e124, mset_ne (by decide), mset_ne (by decide)]
    · obtain ⟨x, y, h0, h4, h5, h6⟩ := G.2.1
      exact ⟨x, y, by rw [ud_n (by decide)]; exact h0, by rw [ud_n (by decide)]; exact h4, h5, h6⟩
    · rw [mset_ne (by decide), mset_ne (by decide), mset_j (by decide), mset_ne (by decide)]; exact e1
    · rw [mset_ne (by decide), mset_ne (by decide), mset_at]
    · exact mset_at _ _ _ _
    · rw [mset_ne (by omega), mset_ne (by omega), mset_ne (by omega), mset_ne (by omega)]
    · rw [mset_ne (by omega), mset_ne (by omega), mset_ne (by omega), mset_ne (by omega)]; exact ⟨rfl, rfl⟩
    · rw [mset_ne (by omega), mset_ne (by omega), mset_ne (by omega), mset_ne (by omega)]
    · intro j hj
      rw [mset_j (by omega), mset_k (by omega), mset_k (by omega), mset_k (by omega)]
end CALLS
