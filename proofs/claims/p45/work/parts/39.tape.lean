/-! the tape: feed, end -/
section TAPE
variable {w w' : Arr} {LN : List Lin} {m m' m2 : Mem} {N : Nat}
def byt (a : Int32) (j : Nat) : Int32 := (a >>> (nI (24 - 8 * j) &&& nI 31)) &&& nI 255
theorem and255 (x : Int32) : ∃ b, b < 256 ∧ x &&& nI 255 = nI b := by
  refine ⟨(x.toBitVec &&& 255#32).toNat, ?_, ?_⟩
  · rw [BitVec.toNat_and]
    exact Nat.lt_of_le_of_lt Nat.and_le_right (by decide)
  · apply Int32.toBitVec_inj.1
    show x.toBitVec &&& 255#32 = BitVec.ofNat 32 (x.toBitVec &&& 255#32).toNat
    rw [BitVec.ofNat_toNat, BitVec.setWidth_eq]
theorem byt_lt (a : Int32) (j : Nat) : ∃ b, b < 256 ∧ byt a j = nI b := and255 _
/-- n bytes B stand from L on, in one row of bytes with its count -/
def Apd (t c k L n : Nat) (B : Nat → Int32) (m m' : Mem) : Prop := m' t c = nI (L + n) ∧ (∀ i, i < n → m' k (L + i) = B i) ∧ (∀ i, i < L → m' k i = m k i) ∧ (∀ j, j ≠ c → m' t j = m t j) ∧ (∀ x, x ≠ t → x ≠ k → m' x = m x)
theorem Apd.one {t c k L n : Nat} {B : Nat → Int32} {v : Int32} (h : Apd t c k L n B m m') (hv : v = B n) (htk : t ≠ k) : Apd t c k L (n + 1) B m (mset (mset m' k (L + n) v) t c (nI (L + n + 1))) := by
  obtain ⟨h1, h2, h3, h4, h5⟩ := h
  refine ⟨mset_at _ _ _ _, fun i hi => ?_, fun i hi => ?_, fun j hj => ?_, fun x a b => ?_⟩
  · rw [mset_k (by omega)]
    by_cases e : i = n
    · subst e; rw [mset_at]; exact hv
    · rw [mset_j (by omega)]; exact h2 i (by omega)
  · rw [mset_k (by omega), mset_j (by omega)]; exact h3 i hi
  · rw [mset_j hj, mset_k htk]; exact h4 j hj
  · rw [mset_ne a, mset_ne b]; exact h5 x a b
theorem e_app1 {a s : Int32} {L j : Nat} {X : Int32 → Mem → Ans} (h2 : m 99 2 = nI L) (hL : L < 400) (hs : s = nI (24 - 8 * j)) : f_X10_append_L3 N a X s m = X (s + (-8)) (mset (mset m 100 L (byt a j)) 99 2 (nI (L + 1))) := by
  subst hs
  unfold f_X10_append_L3 byt
  simp only [li_0, li_1, li_2, li_3, li_4, li_5, li_6, li_7, li_8, li_9, li_10, li_11, li_12, li_13, li_14, li_15, li_16, li_17, li_18, li_19, li_20, li_21, li_22, li_23, li_24, li_25, li_26, li_27, li_28, li_29, li_30, li_31, li_32, li_37, li_38, li_39, li_40, li_41, li_42, li_43, li_44, li_45, li_46, li_47, li_48, li_49, li_50, li_57, li_59, li_60, li_61, li_62, li_63, li_64, li_65, li_69, li_81, li_89, li_90, li_92, li_97, li_99, li_100, li_101, li_103, li_104, li_105, li_106, li_108, li_111, li_112, li_113, li_114, li_115, li_116, li_117, li_119, li_122, li_123, li_124, li_125, li_126, li_127, li_128, li_129, li_130, li_131, li_132, li_133, li_134, li_135, li_136, li_137, li_140, li_141, li_142, li_143, li_145, li_147, li_150, li_153, li_159, li_160, li_161, li_162, li_185, li_197, li_213, li_222, li_223, li_255, li_256, li_257, li_258, li_259, li_260, li_261, li_262, li_263, li_264, li_271, li_272, li_273, li_274, li_275, li_276, li_277, li_278, li_300, li_400, li_420, li_500, li_802, li_820, li_823, li_839, li_855, li_871, li_887, li_999, li_1000, li_1001, li_1002, li_1003, li_1004, li_1005, li_1006, li_1007, li_1008, li_1009, li_1010, li_1011, li_1012, li_1013, li_1014, li_1015, li_1016, li_1017, li_1018, li_1019, li_1020, li_1021, li_1022, li_1023, li_1707, li_4096, li_9999, li_65536, li_100000, li_1000000, li_1664525, li_100000000, li_252645135, li_858993459, li_1000000007, li_1013904223, li_1431655765, li_m1]
  rw [if_neg (nI_no0 (by omega)), h2, if_neg (nI_no0 (by omega)), if_neg (nI_ge hL (by decide)), inb_nI hL (by decide), chk_t, nI_clamp (by omega), bnd_s, mset_ne (by decide), h2, nI_up, bnd_s]
theorem e_app {a : Int32} {L n : Nat} {B : Nat → Int32} (hN : 20000 ≤ N) (h : Apd 99 2 100 L n B m m') (hL : L + n + 4 ≤ 400) (hB : ∀ i, i < 4 → B (n + i) = byt a i) : ∃ m2, f_X10_append N a m' = some (0, m2) ∧ Apd 99 2 100 L (n + 4) B m m2 := by
  obtain ⟨N, rfl⟩ : ∃ N', N = N' + 5 := ⟨N - 5, by omega⟩
  have h1 := h.one (v := byt a 0) (hB 0 (by decide)).symm (by decide)
  have h2 := h1.one (v := byt a 1) (hB 1 (by decide)).symm (by decide)
  have h3 := h2.one (v := byt a 2) (hB 2 (by decide)).symm (by decide)
  have h4 := h3.one (v := byt a 3) (hB 3 (by decide)).symm (by decide)
  refine ⟨_, ?_, h4⟩
  unfold f_X10_append
  show f_X10_append_L3 _ a (f_X10_append_L3 _ a (f_X10_append_L3 _ a (f_X10_append_L3 _ a (f_X10_append_L3 _ a (it1 (f_X10_append_L3 (N + 5) a) N)))) ) 24 m' = _
  rw [e_app1 (j := 0) h.1 (by omega) (by decide), e_app1 (j := 1) h1.1 (by omega) (by decide), e_app1 (j := 2) h2.1 (by omega) (by decide), e_app1 (j := 3) h3.1 (by omega) (by decide)]
  unfold f_X10_append_L3
  rw [if_pos (by decide)]
def byt5 (a b c d e : Int32) (i : Nat) : Int32 := byt (if i < 4 then a else if i < 8 then b else if i < 12 then c else if i < 16 then d else e) (i % 4)
theorem sh_of : ∀ i, i < 20 → nI 24 - nI 8 * irm (nI i) (nI 4) = nI (24 - 8 * (i % 4)) := by decide +kernel
theorem w_feedM {a b c d e : Int32} {L : Nat} (hN : 20000 ≤ N) (h16 : m 123 16 = nI L) (hL : L + 20 ≤ 400) : Wp (it1 (f_X12_feed_L18 N a b c d e) N 0 m) (fun v m' => v = nI (L + 20) ∧ Apd 123 16 131 L 20 (byt5 a b c d e) m m') := by
  refine wp_it1 (fun n x m' => ∃ i, i ≤ 20 ∧ n = 20 - i ∧ x = nI i ∧ Apd 123 16 131 L i (byt5 a b c d e) m m') ?_ N 20 _ _ (by omega) ⟨0, by omega, rfl, rfl, h16, fun i hi => absurd hi (by omega), fun _ _ => rfl, fun _ _ => rfl, fun _ _ _ => rfl⟩
  rintro n X x m' ⟨i, hi, rfl, rfl, hA⟩ hX
  have key : ∀ t, i < 20 → t = (if i < 4 then a else if i < 8 then b else if i < 12 then c else if i < 16 then d else e) → Wp (f_X12_feed_J71 N a b c d e X (nI i) t m') (fun v m' => v = nI (L + 20) ∧ Apd 123 16 131 L 20 (byt5 a b c d e) m m') := by
    rintro t hi20 rfl
    unfold f_X12_feed_J71
    simp only [li_0, li_1, li_2, li_3, li_4, li_5, li_6, li_7, li_8, li_9, li_10, li_11, li_12, li_13, li_14, li_15, li_16, li_17, li_18, li_19, li_20, li_21, li_22, li_23, li_24, li_25, li_26, li_27, li_28, li_29, li_30, li_31, li_32, li_37, li_38, li_39, li_40, li_41, li_42, li_43, li_44, li_45, li_46, li_47, li_48, li_49, li_50, li_57, li_59, li_60, li_61, li_62, li_63, li_64, li_65, li_69, li_81, li_89, li_90, li_92, li_97, li_99, li_100, li_101, li_103, li_104, li_105, li_106, li_108, li_111, li_112, li_113, li_114, li_115, li_116, li_117, li_119, li_122, li_123, li_124, li_125, li_126, li_127, li_128, li_129, li_130, li_131, li_132, li_133, li_134, li_135, li_136, li_137, li_140, li_141, li_142, li_143, li_145, li_147, li_150, li_153, li_159, li_160, li_161, li_162, li_185, li_197, li_213, li_222, li_223, li_255, li_256, li_257, li_258, li_259, li_260, li_261, li_262, li_263, li_264, li_271, li_272, li_273, li_274, li_275, li_276, li_277, li_278, li_300, li_400, li_420, li_500, li_802, li_820, li_823, li_839, li_855, li_871, li_887, li_999, li_1000, li_1001, li_1002, li_1003, li_1004, li_1005, li_1006, li_1007, li_1008, li_1009, li_1010, li_1011, li_1012, li_1013, li_1014, li_1015, li_1016, li_1017, li_1018, li_1019, li_1020, li_1021, li_1022, li_1023, li_1707, li_4096, li_9999, li_65536, li_100000, li_1000000, li_1664525, li_100000000, li_252645135, li_858993459, li_1000000007, li_1013904223, li_1431655765, li_m1]
    rw [hA.1, inb_nI (by omega) (by decide), chk_t, nI_clamp (by omega), bnd_s, sh_of i hi20, mset_ne (by decide), hA.1, nI_up, bnd_s, nI_up]
    exact hX (20 - (i + 1)) _ _ (by omega) ⟨i + 1, by omega, rfl, rfl, hA.one rfl (by decide)⟩
  unfold f_X12_feed_L18
  simp only [li_0, li_1, li_2, li_3, li_4, li_5, li_6, li_7, li_8, li_9, li_10, li_11, li_12, li_13, li_14, li_15, li_16, li_17, li_18, li_19, li_20, li_21, li_22, li_23, li_24, li_25, li_26, li_27, li_28, li_29, li_30, li_31, li_32, li_37, li_38, li_39, li_40, li_41, li_42, li_43, li_44, li_45, li_46, li_47, li_48, li_49, li_50, li_57, li_59, li_60, li_61, li_62, li_63, li_64, li_65, li_69, li_81, li_89, li_90, li_92, li_97, li_99, li_100, li_101, li_103, li_104, li_105, li_106, li_108, li_111, li_112, li_113, li_114, li_115, li_116, li_117, li_119, li_122, li_123, li_124, li_125, li_126, li_127, li_128, li_129, li_130, li_131, li_132, li_133, li_134, li_135, li_136, li_137, li_140, li_141, li_142, li_143, li_145, li_147, li_150, li_153, li_159, li_160, li_161, li_162, li_185, li_197, li_213, li_222, li_223, li_255, li_256, li_257, li_258, li_259, li_260, li_261, li_262, li_263, li_264, li_271, li_272, li_273, li_274, li_275, li_276, li_277, li_278, li_300, li_400, li_420, li_500, li_802, li_820, li_823, li_839, li_855, li_871, li_887, li_999, li_1000, li_1001, li_1002, li_1003, li_1004, li_1005, li_1006, li_1007, li_1008, li_1009, li_1010, li_1011, li_1012, li_1013, li_1014, li_1015, li_1016, li_1017, li_1018, li_1019, li_1020, li_1021, li_1022, li_1023, li_1707, li_4096, li_9999, li_65536, li_100000, li_1000000, li_1664525, li_100000000, li_252645135, li_858993459, li_1000000007, li_1013904223, li_1431655765, li_m1]
  refine wp_ite (fun q => ?_) (fun q => ?_)
  · rw [nI_leI (by decide) (by omega)] at q
    have : i = 20 := by omega
    subst this
    exact wp_ret ⟨hA.1, hA⟩
  · rw [nI_leI (by decide) (by omega)] at q
    refine wp_ite (fun q => ?_) (fun q => ?_) <;> rw [nI_leI (by decide) (by omega)] at q
    · refine wp_ite (fun q => ?_) (fun q => ?_) <;> rw [nI_leI (by decide) (by omega)] at q
      · refine wp_ite (fun q => ?_) (fun q => ?_) <;> rw [nI_leI (by decide) (by omega)] at q
        · refine wp_ite (fun q => ?_) (fun q => ?_) <;> rw [nI_leI (by decide) (by omega)] at q
          · exact key _ (by omega) (by rw [if_neg (by omega), if_neg (by omega), if_neg (by omega), if_neg (by omega)])
          · exact key _ (by omega) (by rw [if_neg (by omega), if_neg (by omega), if_neg (by omega), if_pos (by omega)])
        · exact key _ (by omega) (by rw [if_neg (by omega), if_neg (by omega), if_pos (by omega)])
      · exact key _ (by omega) (by rw [if_neg (by omega), if_pos (by omega)])
    · exact key _ (by omega) (by rw [if_pos (by omega)])
/-- the tape alone changed -/
theorem Inv.tape (h : Inv m) (T : TapR m2) (hk : ∀ k, k ≠ 99 → k ≠ 100 → k ≠ 123 → k ≠ 131 → m2 k = m k) (h99 : m2 99 1 = m 99 1) (h123 : ∀ j, j ≠ 16 → m2 123 j = m 123 j) : Inv m2 := by
  obtain ⟨LN, H, G, P, hI, -, hF, h4⟩ := id h
  have hFx : ∀ {m0 : Mem}, Fx m → (∀ k, k ≠ 99 → k ≠ 100 → k ≠ 123 → k ≠ 131 → m2 k = m k) → Fx m2 := fun hx _ => hx.of (fun p hp j hj => by
    have : ∀ p ∈ tbs, p.1 ≠ 99 ∧ p.1 ≠ 100 ∧ p.1 ≠ 123 ∧ p.1 ≠ 131 := by decide
    obtain ⟨a, b, c, d⟩ := this p hp
    rw [hk _ a b c d])
  have e124 := hk 124 (by decide) (by decide) (by decide) (by decide)
  have hx : Fx m2 := hFx (m0 := m) H.fx hk
  refine ⟨LN, ?_, ?_, ?_, ?_, T, ?_, ?_⟩
  · rw [e124]
    exact H.cg G.1.sml hx (fun k a b => hk k (by omega) (by omega) (by omega) (by omega)) (fun _ _ _ _ => rfl)
  · rw [e124]; exact G
  · rw [e124]
    exact P.cg G.1 (fun k a b => hk k (by omega) (by omega) (by omega) (by omega)) ⟨by rw [hk 48 (by decide) (by decide) (by decide) (by decide)], by rw [hk 48 (by decide) (by decide) (by decide) (by decide)]⟩ (h123 4 (by decide)) (hk 126 (by decide) (by decide) (by decide) (by decide)) (fun _ _ => rfl)
  · unfold ImgR at hI ⊢
    rw [hk 0 (by decide) (by decide) (by decide) (by decide), h123 5 (by decide), hk 125 (by decide) (by decide) (by decide) (by decide)]
    rcases hI with hI | ⟨a, b, L1, H1, G1⟩
    · exact Or.inl hI
    · exact Or.inr ⟨a, b, L1, H1.cg G1.1.sml hx (fun k a b => hk k (by omega) (by omega) (by omega) (by omega)) (fun _ _ _ _ => rfl), G1⟩
  · unfold FltR
    rw [hk 103 (by decide) (by decide) (by decide) (by decide), h123 23 (by decide), h123 25 (by decide)]
    exact hF
  · rw [hk 113 (by decide) (by decide) (by decide) (by decide)]; exact h4
theorem pr_feed {a b c d e : Int32} (hN : 20000 ≤ N) : Pr (f_X11_feed N a b c d e) (f_X12_feed N a b c d e) := by
  intro m hI
  obtain ⟨LN, H, G, P, hIm, ⟨L, hL, h2, h16, hb⟩, hF, h4⟩ := id hI
  have hM : ∀ m1 : Mem, m1 123 = m 123 → f_X12_feed N a b c d e m1 = if nI (L + 20) ≤ nI 400 then it1 (f_X12_feed_L18 N a b c d e) N 0 m1 else some (mo1, m1) := by
    intro m1 h1
    unfold f_X12_feed
    simp only [li_0, li_1, li_2, li_3, li_4, li_5, li_6, li_7, li_8, li_9, li_10, li_11, li_12, li_13, li_14, li_15, li_16, li_17, li_18, li_19, li_20, li_21, li_22, li_23, li_24, li_25, li_26, li_27, li_28, li_29, li_30, li_31, li_32, li_37, li_38, li_39, li_40, li_41, li_42, li_43, li_44, li_45, li_46, li_47, li_48, li_49, li_50, li_57, li_59, li_60, li_61, li_62, li_63, li_64, li_65, li_69, li_81, li_89, li_90, li_92, li_97, li_99, li_100, li_101, li_103, li_104, li_105, li_106, li_108, li_111, li_112, li_113, li_114, li_115, li_116, li_117, li_119, li_122, li_123, li_124, li_125, li_126, li_127, li_128, li_129, li_130, li_131, li_132, li_133, li_134, li_135, li_136, li_137, li_140, li_141, li_142, li_143, li_145, li_147, li_150, li_153, li_159, li_160, li_161, li_162, li_185, li_197, li_213, li_222, li_223, li_255, li_256, li_257, li_258, li_259, li_260, li_261, li_262, li_263, li_264, li_271, li_272, li_273, li_274, li_275, li_276, li_277, li_278, li_300, li_400, li_420, li_500, li_802, li_820, li_823, li_839, li_855, li_871, li_887, li_999, li_1000, li_1001, li_1002, li_1003, li_1004, li_1005, li_1006, li_1007, li_1008, li_1009, li_1010, li_1011, li_1012, li_1013, li_1014, li_1015, li_1016, li_1017, li_1018, li_1019, li_1020, li_1021, li_1022, li_1023, li_1707, li_4096, li_9999, li_65536, li_100000, li_1000000, li_1664525, li_100000000, li_252645135, li_858993459, li_1000000007, li_1013904223, li_1431655765, li_m1]
    rw [h1, h16, nI_add]
  unfold f_X11_feed f_X10_hasRoom
  simp only [li_0, li_1, li_2, li_3, li_4, li_5, li_6, li_7, li_8, li_9, li_10, li_11, li_12, li_13, li_14, li_15, li_16, li_17, li_18, li_19, li_20, li_21, li_22, li_23, li_24, li_25, li_26, li_27, li_28, li_29, li_30, li_31, li_32, li_37, li_38, li_39, li_40, li_41, li_42, li_43, li_44, li_45, li_46, li_47, li_48, li_49, li_50, li_57, li_59, li_60, li_61, li_62, li_63, li_64, li_65, li_69, li_81, li_89, li_90, li_92, li_97, li_99, li_100, li_101, li_103, li_104, li_105, li_106, li_108, li_111, li_112, li_113, li_114, li_115, li_116, li_117, li_119, li_122, li_123, li_124, li_125, li_126, li_127, li_128, li_129, li_130, li_131, li_132, li_133, li_134, li_135, li_136, li_137, li_140, li_141, li_142, li_143, li_145, li_147, li_150, li_153, li_159, li_160, li_161, li_162, li_185, li_197, li_213, li_222, li_223, li_255, li_256, li_257, li_258, li_259, li_260, li_261, li_262, li_263, li_264, li_271, li_272, li_273, li_274, li_275, li_276, li_277, li_278, li_300, li_400, li_420, li_500, li_802, li_820, li_823, li_839, li_855, li_871, li_887, li_999, li_1000, li_1001, li_1002, li_1003, li_1004, li_1005, li_1006, li_1007, li_1008, li_1009, li_1010, li_1011, li_1012, li_1013, li_1014, li_1015, li_1016, li_1017, li_1018, li_1019, li_1020, li_1021, li_1022, li_1023, li_1707, li_4096, li_9999, li_65536, li_100000, li_1000000, li_1664525, li_100000000, li_252645135, li_858993459, li_1000000007, li_1013904223, li_1431655765, li_m1]
  rw [h2, nI_add]
  by_cases q : L + 20 ≤ 400
  · rw [if_neg (nI_nlt (by omega) (by omega)), bd_s, if_neg (by decide)]
    have h0 : Apd 99 2 100 L 0 (byt5 a b c d e) m m := ⟨h2, fun i hi => absurd hi (by omega), fun _ _ => rfl, fun _ _ => rfl, fun _ _ _ => rfl⟩
    obtain ⟨m1, e1, h1⟩ := e_app (a := a) hN h0 (by omega) (by intro i hi; rcases (show i = 0 ∨ i = 1 ∨ i = 2 ∨ i = 3 by omega) with rfl | rfl | rfl | rfl <;> rfl)
    obtain ⟨m2, e2, h2'⟩ := e_app (a := b) hN h1 (by omega) (by intro i hi; rcases (show i = 0 ∨ i = 1 ∨ i = 2 ∨ i = 3 by omega) with rfl | rfl | rfl | rfl <;> rfl)
    obtain ⟨m3, e3, h3⟩ := e_app (a := c) hN h2' (by omega) (by intro i hi; rcases (show i = 0 ∨ i = 1 ∨ i = 2 ∨ i = 3 by omega) with rfl | rfl | rfl | rfl <;> rfl)
    obtain ⟨m4, e4, h4'⟩ := e_app (a := d) hN h3 (by omega) (by intro i hi; rcases (show i = 0 ∨ i = 1 ∨ i = 2 ∨ i = 3 by omega) with rfl | rfl | rfl | rfl <;> rfl)
    obtain ⟨m5, e5, h5⟩ := e_app (a := e) hN h4' (by omega) (by intro i hi; rcases (show i = 0 ∨ i = 1 ∨ i = 2 ∨ i = 3 by omega) with rfl | rfl | rfl | rfl <;> rfl)
    rw [e1, bd_s, e2, bd_s, e3, bd_s, e4, bd_s, e5, bd_s, h5.1]
    refine wp_ret ?_
    obtain ⟨g1, g2, g3, g4, g5⟩ := h5
    have e123 : m5 123 = m 123 := g5 123 (by decide) (by decide)
    rw [hM m5 e123, if_pos (nI_le q (by decide))]
    refine wp_mono (w_feedM hN (by rw [e123]; exact h16) (by omega)) ?_
    rintro _ m6 ⟨rfl, k1, k2, k3, k4, k5⟩
    refine ⟨rfl, hI.tape ⟨L + 20, by omega, ?_, k1, fun i hi => ?_⟩ (fun k a b c d => by rw [k5 k c d, g5 k a b]) (by rw [k5 99 (by decide) (by decide), g4 1 (by decide)]) (fun j hj => by rw [k4 j hj, e123])⟩
    · rw [k5 99 (by decide) (by decide)]; exact g1
    · rw [k5 100 (by decide) (by decide)]
      by_cases hq : i < L
      · rw [g3 i hq, k3 i hq, g5 131 (by decide) (by decide)]
        exact hb i hq
      · obtain ⟨j, rfl⟩ : ∃ j, i = L + j := ⟨i - L, by omega⟩
        rw [g2 j (by omega), k2 j (by omega)]
        obtain ⟨b', hb', eb'⟩ := byt_lt (if j < 4 then a else if j < 8 then b else if j < 12 then c else if j < 16 then d else e) (j % 4)
        exact ⟨b', hb', eb', eb'⟩
  · rw [if_pos (nI_lt (by omega) (by omega)), bd_s, if_pos rfl]
    refine wp_ret ?_
    rw [hM m rfl, if_neg (nI_ge (by omega) (by omega))]
    exact wp_ret ⟨rfl, hI⟩
theorem pr_end {a : Int32} : Pr (f_X11_end N a) (f_X12_end N a) := by
  intro m hI
  obtain ⟨LN, H, G, P, hIm, ⟨L, hL, h2, h16, hb⟩, hF, h4⟩ := id hI
  unfold f_X11_end
  simp only [li_0, li_1, li_2, li_3, li_4, li_5, li_6, li_7, li_8, li_9, li_10, li_11, li_12, li_13, li_14, li_15, li_16, li_17, li_18, li_19, li_20, li_21, li_22, li_23, li_24, li_25, li_26, li_27, li_28, li_29, li_30, li_31, li_32, li_37, li_38, li_39, li_40, li_41, li_42, li_43, li_44, li_45, li_46, li_47, li_48, li_49, li_50, li_57, li_59, li_60, li_61, li_62, li_63, li_64, li_65, li_69, li_81, li_89, li_90, li_92, li_97, li_99, li_100, li_101, li_103, li_104, li_105, li_106, li_108, li_111, li_112, li_113, li_114, li_115, li_116, li_117, li_119, li_122, li_123, li_124, li_125, li_126, li_127, li_128, li_129, li_130, li_131, li_132, li_133, li_134, li_135, li_136, li_137, li_140, li_141, li_142, li_143, li_145, li_147, li_150, li_153, li_159, li_160, li_161, li_162, li_185, li_197, li_213, li_222, li_223, li_255, li_256, li_257, li_258, li_259, li_260, li_261, li_262, li_263, li_264, li_271, li_272, li_273, li_274, li_275, li_276, li_277, li_278, li_300, li_400, li_420, li_500, li_802, li_820, li_823, li_839, li_855, li_871, li_887, li_999, li_1000, li_1001, li_1002, li_1003, li_1004, li_1005, li_1006, li_1007, li_1008, li_1009, li_1010, li_1011, li_1012, li_1013, li_1014, li_1015, li_1016, li_1017, li_1018, li_1019, li_1020, li_1021, li_1022, li_1023, li_1707, li_4096, li_9999, li_65536, li_100000, li_1000000, li_1664525, li_100000000, li_252645135, li_858993459, li_1000000007, li_1013904223, li_1431655765, li_m1]
  rw [e_within, bd_s, h2]
  cases hq : decide (nI 0 ≤ a ∧ a ≤ nI L) with
  | false =>
    rw [if_pos (by decide)]
    refine wp_ret ?_
    unfold f_X12_end
    simp only [li_0, li_1, li_2, li_3, li_4, li_5, li_6, li_7, li_8, li_9, li_10, li_11, li_12, li_13, li_14, li_15, li_16, li_17, li_18, li_19, li_20, li_21, li_22, li_23, li_24, li_25, li_26, li_27, li_28, li_29, li_30, li_31, li_32, li_37, li_38, li_39, li_40, li_41, li_42, li_43, li_44, li_45, li_46, li_47, li_48, li_49, li_50, li_57, li_59, li_60, li_61, li_62, li_63, li_64, li_65, li_69, li_81, li_89, li_90, li_92, li_97, li_99, li_100, li_101, li_103, li_104, li_105, li_106, li_108, li_111, li_112, li_113, li_114, li_115, li_116, li_117, li_119, li_122, li_123, li_124, li_125, li_126, li_127, li_128, li_129, li_130, li_131, li_132, li_133, li_134, li_135, li_136, li_137, li_140, li_141, li_142, li_143, li_145, li_147, li_150, li_153, li_159, li_160, li_161, li_162, li_185, li_197, li_213, li_222, li_223, li_255, li_256, li_257, li_258, li_259, li_260, li_261, li_262, li_263, li_264, li_271, li_272, li_273, li_274, li_275, li_276, li_277, li_278, li_300, li_400, li_420, li_500, li_802, li_820, li_823, li_839, li_855, li_871, li_887, li_999, li_1000, li_1001, li_1002, li_1003, li_1004, li_1005, li_1006, li_1007, li_1008, li_1009, li_1010, li_1011, li_1012, li_1013, li_1014, li_1015, li_1016, li_1017, li_1018, li_1019, li_1020, li_1021, li_1022, li_1023, li_1707, li_4096, li_9999, li_65536, li_100000, li_1000000, li_1664525, li_100000000, li_252645135, li_858993459, li_1000000007, li_1013904223, li_1431655765, li_m1]
    rw [e_isIn, bd_s, h16, hq, if_pos (by decide)]
    exact wp_ret ⟨rfl, hI⟩
  | true =>
    rw [if_neg (by decide), bnd_s]
    obtain ⟨k, -, hk, rfl⟩ := rng_of (by decide) (by omega) hq
    refine wp_ret ?_
    unfold f_X12_end
    simp only [li_0, li_1, li_2, li_3, li_4, li_5, li_6, li_7, li_8, li_9, li_10, li_11, li_12, li_13, li_14, li_15, li_16, li_17, li_18, li_19, li_20, li_21, li_22, li_23, li_24, li_25, li_26, li_27, li_28, li_29, li_30, li_31, li_32, li_37, li_38, li_39, li_40, li_41, li_42, li_43, li_44, li_45, li_46, li_47, li_48, li_49, li_50, li_57, li_59, li_60, li_61, li_62, li_63, li_64, li_65, li_69, li_81, li_89, li_90, li_92, li_97, li_99, li_100, li_101, li_103, li_104, li_105, li_106, li_108, li_111, li_112, li_113, li_114, li_115, li_116, li_117, li_119, li_122, li_123, li_124, li_125, li_126, li_127, li_128, li_129, li_130, li_131, li_132, li_133, li_134, li_135, li_136, li_137, li_140, li_141, li_142, li_143, li_145, li_147, li_150, li_153, li_159, li_160, li_161, li_162, li_185, li_197, li_213, li_222, li_223, li_255, li_256, li_257, li_258, li_259, li_260, li_261, li_262, li_263, li_264, li_271, li_272, li_273, li_274, li_275, li_276, li_277, li_278, li_300, li_400, li_420, li_500, li_802, li_820, li_823, li_839, li_855, li_871, li_887, li_999, li_1000, li_1001, li_1002, li_1003, li_1004, li_1005, li_1006, li_1007, li_1008, li_1009, li_1010, li_1011, li_1012, li_1013, li_1014, li_1015, li_1016, li_1017, li_1018, li_1019, li_1020, li_1021, li_1022, li_1023, li_1707, li_4096, li_9999, li_65536, li_100000, li_1000000, li_1664525, li_100000000, li_252645135, li_858993459, li_1000000007, li_1013904223, li_1431655765, li_m1]
    rw [e_isIn, bd_s, mset_ne (by decide), h16, hq, if_neg (by decide), bnd_s]
    refine wp_ret ⟨rfl, hI.tape ⟨k, by omega, ?_, mset_at _ _ _ _, fun i hi => ?_⟩ (fun k a b c d => by rw [mset_ne c, mset_ne a]) (by rw [mset_ne (by decide), mset_j (by decide)]) (fun j hj => by rw [mset_j hj, mset_ne (by decide)])⟩
    · rw [mset_ne (by decide), mset_at]
    · rw [mset_ne (by decide), mset_ne (by decide), mset_ne (by decide), mset_ne (by decide)]
      exact hb i (by omega)
end TAPE
