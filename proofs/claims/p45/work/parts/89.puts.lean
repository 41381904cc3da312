/-! a text that is read is put: the reference -/
section PUTS
variable {N : Nat} {m m1 m' m2 : Mem} {z r s : Nat} {A D : Nat → Nat}
theorem w_putsLaw (hN : 20000 ≤ N) (h13 : m 123 13 = nI r) (hr : r ≤ 16) (h14 : m 123 14 = nI s) (hs : s ≤ 400) :
    Wp (f_X12_putsLaw N m) (fun v m' => v = nI r ∧ (∀ x, x ≠ 124 → m' x = m x) ∧ m' 124 40 = nI r ∧ (∀ i, i ≠ 40 → i < 823 → m' 124 i = m 124 i) ∧
      (∀ i, i < r → m' 124 (823 + i) = m 128 (4 * i + 0) ∧ m' 124 (839 + i) = m 128 (4 * i + 1) ∧ m' 124 (855 + i) = m 128 (4 * i + 2) ∧ m' 124 (871 + i) = m 128 (4 * i + 3)) ∧ ∀ i, i < 2 * s → m' 124 (887 + i) = m 129 i) := by
  unfold f_X12_putsLaw
  simp only [li_0, li_1, li_2, li_3, li_4, li_5, li_6, li_7, li_8, li_9, li_10, li_11, li_12, li_13, li_14, li_15, li_16, li_17, li_18, li_19, li_20, li_21, li_22, li_23, li_24, li_25, li_26, li_27, li_28, li_29, li_30, li_31, li_32, li_37, li_38, li_39, li_40, li_41, li_42, li_43, li_44, li_45, li_46, li_47, li_48, li_49, li_50, li_57, li_59, li_60, li_61, li_62, li_63, li_64, li_65, li_69, li_81, li_89, li_90, li_92, li_97, li_99, li_100, li_101, li_103, li_104, li_105, li_106, li_108, li_111, li_112, li_113, li_114, li_115, li_116, li_117, li_119, li_122, li_123, li_124, li_125, li_126, li_127, li_128, li_129, li_130, li_131, li_132, li_133, li_134, li_135, li_136, li_137, li_140, li_141, li_142, li_143, li_145, li_147, li_150, li_153, li_159, li_160, li_161, li_162, li_185, li_197, li_213, li_222, li_223, li_255, li_256, li_257, li_258, li_259, li_260, li_261, li_262, li_263, li_264, li_271, li_272, li_273, li_274, li_275, li_276, li_277, li_278, li_300, li_400, li_420, li_500, li_802, li_820, li_823, li_839, li_855, li_871, li_887, li_999, li_1000, li_1001, li_1002, li_1003, li_1004, li_1005, li_1006, li_1007, li_1008, li_1009, li_1010, li_1011, li_1012, li_1013, li_1014, li_1015, li_1016, li_1017, li_1018, li_1019, li_1020, li_1021, li_1022, li_1023, li_1707, li_4096, li_9999, li_65536, li_100000, li_1000000, li_1664525, li_100000000, li_252645135, li_858993459, li_1000000007, li_1013904223, li_1431655765, li_m1]
  rw [h13, bnd_s]
  refine wp_it1 (fun q a m' => ∃ i, i ≤ r ∧ q = r - i ∧ a = nI i ∧ (∀ x, x ≠ 124 → m' x = m x) ∧ m' 124 40 = nI r ∧ (∀ i, i ≠ 40 → i < 823 → m' 124 i = m 124 i) ∧
      (∀ l, l < i → m' 124 (823 + l) = m 128 (4 * l + 0) ∧ m' 124 (839 + l) = m 128 (4 * l + 1) ∧ m' 124 (855 + l) = m 128 (4 * l + 2) ∧ m' 124 (871 + l) = m 128 (4 * l + 3))) ?_ N r _ _ (by omega)
    ⟨0, by omega, rfl, rfl, fun x hx => mset_ne hx, mset_at _ _ _ _, fun i h1 h2 => mset_j h1, fun l hl => absurd hl (by omega)⟩
  rintro q X a m1 ⟨i, hi, rfl, rfl, a1, a2, a3, a4⟩ hX
  have e13 : m1 123 13 = nI r := by rw [a1 123 (by decide)]; exact h13
  unfold f_X12_putsLaw_L13
  simp only [li_0, li_1, li_2, li_3, li_4, li_5, li_6, li_7, li_8, li_9, li_10, li_11, li_12, li_13, li_14, li_15, li_16, li_17, li_18, li_19, li_20, li_21, li_22, li_23, li_24, li_25, li_26, li_27, li_28, li_29, li_30, li_31, li_32, li_37, li_38, li_39, li_40, li_41, li_42, li_43, li_44, li_45, li_46, li_47, li_48, li_49, li_50, li_57, li_59, li_60, li_61, li_62, li_63, li_64, li_65, li_69, li_81, li_89, li_90, li_92, li_97, li_99, li_100, li_101, li_103, li_104, li_105, li_106, li_108, li_111, li_112, li_113, li_114, li_115, li_116, li_117, li_119, li_122, li_123, li_124, li_125, li_126, li_127, li_128, li_129, li_130, li_131, li_132, li_133, li_134, li_135, li_136, li_137, li_140, li_141, li_142, li_143, li_145, li_147, li_150, li_153, li_159, li_160, li_161, li_162, li_185, li_197, li_213, li_222, li_223, li_255, li_256, li_257, li_258, li_259, li_260, li_261, li_262, li_263, li_264, li_271, li_272, li_273, li_274, li_275, li_276, li_277, li_278, li_300, li_400, li_420, li_500, li_802, li_820, li_823, li_839, li_855, li_871, li_887, li_999, li_1000, li_1001, li_1002, li_1003, li_1004, li_1005, li_1006, li_1007, li_1008, li_1009, li_1010, li_1011, li_1012, li_1013, li_1014, li_1015, li_1016, li_1017, li_1018, li_1019, li_1020, li_1021, li_1022, li_1023, li_1707, li_4096, li_9999, li_65536, li_100000, li_1000000, li_1664525, li_100000000, li_252645135, li_858993459, li_1000000007, li_1013904223, li_1431655765, li_m1]
  rw [e13]
  by_cases qr : r ≤ i
  · have : i = r := by omega
    subst this
    rw [if_pos (nI_le qr (by omega))]
    refine wp_it1 (fun q a m' => ∃ l, l ≤ 2 * s ∧ q = 2 * s - l ∧ a = nI l ∧ (∀ x, x ≠ 124 → m' x = m x) ∧ (∀ i, i < 887 → m' 124 i = m1 124 i) ∧ ∀ x, x < l → m' 124 (887 + x) = m 129 x) ?_ N (2 * s) _ _ (by omega)
      ⟨0, by omega, rfl, rfl, a1, fun _ _ => rfl, fun l hl => absurd hl (by omega)⟩
    rintro q Y a m2 ⟨l, hl, rfl, rfl, b1, b2, b3⟩ hY
    have e14 : m2 123 14 = nI s := by rw [b1 123 (by decide)]; exact h14
    unfold f_X12_putsLaw_L107
    simp only [li_0, li_1, li_2, li_3, li_4, li_5, li_6, li_7, li_8, li_9, li_10, li_11, li_12, li_13, li_14, li_15, li_16, li_17, li_18, li_19, li_20, li_21, li_22, li_23, li_24, li_25, li_26, li_27, li_28, li_29, li_30, li_31, li_32, li_37, li_38, li_39, li_40, li_41, li_42, li_43, li_44, li_45, li_46, li_47, li_48, li_49, li_50, li_57, li_59, li_60, li_61, li_62, li_63, li_64, li_65, li_69, li_81, li_89, li_90, li_92, li_97, li_99, li_100, li_101, li_103, li_104, li_105, li_106, li_108, li_111, li_112, li_113, li_114, li_115, li_116, li_117, li_119, li_122, li_123, li_124, li_125, li_126, li_127, li_128, li_129, li_130, li_131, li_132, li_133, li_134, li_135, li_136, li_137, li_140, li_141, li_142, li_143, li_145, li_147, li_150, li_153, li_159, li_160, li_161, li_162, li_185, li_197, li_213, li_222, li_223, li_255, li_256, li_257, li_258, li_259, li_260, li_261, li_262, li_263, li_264, li_271, li_272, li_273, li_274, li_275, li_276, li_277, li_278, li_300, li_400, li_420, li_500, li_802, li_820, li_823, li_839, li_855, li_871, li_887, li_999, li_1000, li_1001, li_1002, li_1003, li_1004, li_1005, li_1006, li_1007, li_1008, li_1009, li_1010, li_1011, li_1012, li_1013, li_1014, li_1015, li_1016, li_1017, li_1018, li_1019, li_1020, li_1021, li_1022, li_1023, li_1707, li_4096, li_9999, li_65536, li_100000, li_1000000, li_1664525, li_100000000, li_252645135, li_858993459, li_1000000007, li_1013904223, li_1431655765, li_m1]
    rw [e14, pk_mul]
    by_cases ql : 2 * s ≤ l
    · rw [if_pos (nI_le ql (by omega))]
      have : l = 2 * s := by omega
      subst this
      refine wp_ret ⟨by rw [b1 123 (by decide)]; exact h13, b1, by rw [b2 40 (by decide)]; exact a2, fun x x1 x2 => by rw [b2 x (by omega)]; exact a3 x x1 x2, fun x hx => ?_, b3⟩
      obtain ⟨c1, c2, c3, c4⟩ := a4 x hx
      exact ⟨by rw [b2 _ (by omega)]; exact c1, by rw [b2 _ (by omega)]; exact c2, by rw [b2 _ (by omega)]; exact c3, by rw [b2 _ (by omega)]; exact c4⟩
    · rw [if_neg (nI_ge (by omega) (by omega)), inb_nI (by omega) (by omega), chk_t, nI_add, inb_nI (by omega) (by omega), chk_t, nI_clamp (by omega), nI_clamp (by omega), bnd_s, nI_up]
      refine hY (2 * s - (l + 1)) _ _ (by omega) ⟨l + 1, by omega, rfl, rfl, fun x hx => by rw [mset_ne hx]; exact b1 x hx, fun x hx => by rw [mset_j (by omega)]; exact b2 x hx, fun x hx => ?_⟩
      by_cases e : x = l
      · subst e
        rw [mset_at, b1 129 (by decide)]
      · rw [mset_j (by omega)]
        exact b3 x (by omega)
  · rw [if_neg (nI_ge (by omega) (by omega)), pk_mul, inb_nI (by omega) (by omega), chk_t, show nI 823 + nI i = nI (823 + i) from nI_add _ _, inb_nI (by omega) (by omega), chk_t, nI_clamp (by omega), nI_clamp (by omega), bnd_s,
      show nI (4 * i) + nI 1 = nI (4 * i + 1) from nI_add _ _, inb_nI (by omega) (by omega), chk_t, show nI 839 + nI i = nI (839 + i) from nI_add _ _, inb_nI (by omega) (by omega), chk_t, nI_clamp (by omega), nI_clamp (by omega), bnd_s,
      show nI (4 * i) + nI 2 = nI (4 * i + 2) from nI_add _ _, inb_nI (by omega) (by omega), chk_t, show nI 855 + nI i = nI (855 + i) from nI_add _ _, inb_nI (by omega) (by omega), chk_t, nI_clamp (by omega), nI_clamp (by omega), bnd_s,
      show nI (4 * i) + nI 3 = nI (4 * i + 3) from nI_add _ _, inb_nI (by omega) (by omega), chk_t, show nI 871 + nI i = nI (871 + i) from nI_add _ _, inb_nI (by omega) (by omega), chk_t, nI_clamp (by omega), nI_clamp (by omega), bnd_s, nI_up,
      mset_ne (show (128 : Nat) ≠ 124 by decide), mset_ne (show (128 : Nat) ≠ 124 by decide), mset_ne (show (128 : Nat) ≠ 124 by decide), a1 128 (by decide)]
    refine hX (r - (i + 1)) _ _ (by omega) ⟨i + 1, by omega, rfl, rfl, fun x hx => ?_, ?_, fun x x1 x2 => ?_, fun l hl => ?_⟩
    · rw [mset_ne hx, mset_ne hx, mset_ne hx, mset_ne hx]; exact a1 x hx
    · rw [mset_j (by omega), mset_j (by omega), mset_j (by omega), mset_j (by omega)]; exact a2
    · rw [mset_j (by omega), mset_j (by omega), mset_j (by omega), mset_j (by omega)]; exact a3 x x1 x2
    · by_cases e : l = i
      · subst e
        refine ⟨?_, ?_, ?_, by rw [mset_at, mset_ne (show (128 : Nat) ≠ 124 by decide), mset_ne (show (128 : Nat) ≠ 124 by decide), mset_ne (show (128 : Nat) ≠ 124 by decide), a1 128 (by decide)]⟩
        · rw [mset_j (by omega), mset_j (by omega), mset_j (by omega), mset_at]; rfl
        · rw [mset_j (by omega), mset_j (by omega), mset_at]
        · rw [mset_j (by omega), mset_at]
      · obtain ⟨c1, c2, c3, c4⟩ := a4 l (by omega)
        refine ⟨?_, ?_, ?_, ?_⟩
        · rw [mset_j (by omega), mset_j (by omega), mset_j (by omega), mset_j (by omega)]; exact c1
        · rw [mset_j (by omega), mset_j (by omega), mset_j (by omega), mset_j (by omega)]; exact c2
        · rw [mset_j (by omega), mset_j (by omega), mset_j (by omega), mset_j (by omega)]; exact c3
        · rw [mset_j (by omega), mset_j (by omega), mset_j (by omega), mset_j (by omega)]; exact c4
theorem w_puts {c p e : Nat} (hN : 20000 ≤ N) (h15 : m 123 15 = nI r) (hr : r ≤ 16) (he : e ≤ 3) (hp : c < p) (hp2 : p + 48 < 1707) :
    Wp (f_X12_puts N (nI c) (nI p) (nI e) m) (fun v m' => v = nI r ∧ (∀ x, x ≠ 124 → m' x = m x) ∧ m' 124 c = nI r ∧ (∀ i, i ≠ c → (i < p ∨ p + e * r ≤ i) → m' 124 i = m 124 i) ∧ ∀ i, i < e * r → m' 124 (p + i) = m 130 i) := by
  have her : e * r ≤ 48 := by
    have := Nat.mul_le_mul he hr
    omega
  unfold f_X12_puts
  simp only [li_0, li_1, li_2, li_3, li_4, li_5, li_6, li_7, li_8, li_9, li_10, li_11, li_12, li_13, li_14, li_15, li_16, li_17, li_18, li_19, li_20, li_21, li_22, li_23, li_24, li_25, li_26, li_27, li_28, li_29, li_30, li_31, li_32, li_37, li_38, li_39, li_40, li_41, li_42, li_43, li_44, li_45, li_46, li_47, li_48, li_49, li_50, li_57, li_59, li_60, li_61, li_62, li_63, li_64, li_65, li_69, li_81, li_89, li_90, li_92, li_97, li_99, li_100, li_101, li_103, li_104, li_105, li_106, li_108, li_111, li_112, li_113, li_114, li_115, li_116, li_117, li_119, li_122, li_123, li_124, li_125, li_126, li_127, li_128, li_129, li_130, li_131, li_132, li_133, li_134, li_135, li_136, li_137, li_140, li_141, li_142, li_143, li_145, li_147, li_150, li_153, li_159, li_160, li_161, li_162, li_185, li_197, li_213, li_222, li_223, li_255, li_256, li_257, li_258, li_259, li_260, li_261, li_262, li_263, li_264, li_271, li_272, li_273, li_274, li_275, li_276, li_277, li_278, li_300, li_400, li_420, li_500, li_802, li_820, li_823, li_839, li_855, li_871, li_887, li_999, li_1000, li_1001, li_1002, li_1003, li_1004, li_1005, li_1006, li_1007, li_1008, li_1009, li_1010, li_1011, li_1012, li_1013, li_1014, li_1015, li_1016, li_1017, li_1018, li_1019, li_1020, li_1021, li_1022, li_1023, li_1707, li_4096, li_9999, li_65536, li_100000, li_1000000, li_1664525, li_100000000, li_252645135, li_858993459, li_1000000007, li_1013904223, li_1431655765, li_m1]
  rw [inb_nI (by omega) (by omega), chk_t, nI_clamp (by omega), h15, bnd_s]
  refine wp_it1 (fun q a m' => ∃ i, i ≤ e * r ∧ q = e * r - i ∧ a = nI i ∧ (∀ x, x ≠ 124 → m' x = m x) ∧ m' 124 c = nI r ∧ (∀ i, i ≠ c → (i < p ∨ p + e * r ≤ i) → m' 124 i = m 124 i) ∧ ∀ l, l < i → m' 124 (p + l) = m 130 l) ?_ N (e * r) _ _ (by omega)
    ⟨0, by omega, rfl, rfl, fun x hx => mset_ne hx, mset_at _ _ _ _, fun i h1 h2 => mset_j h1, fun l hl => absurd hl (by omega)⟩
  rintro q X a m1 ⟨i, hi, rfl, rfl, a1, a2, a3, a4⟩ hX
  have e15 : m1 123 15 = nI r := by rw [a1 123 (by decide)]; exact h15
  unfold f_X12_puts_L13
  simp only [li_0, li_1, li_2, li_3, li_4, li_5, li_6, li_7, li_8, li_9, li_10, li_11, li_12, li_13, li_14, li_15, li_16, li_17, li_18, li_19, li_20, li_21, li_22, li_23, li_24, li_25, li_26, li_27, li_28, li_29, li_30, li_31, li_32, li_37, li_38, li_39, li_40, li_41, li_42, li_43, li_44, li_45, li_46, li_47, li_48, li_49, li_50, li_57, li_59, li_60, li_61, li_62, li_63, li_64, li_65, li_69, li_81, li_89, li_90, li_92, li_97, li_99, li_100, li_101, li_103, li_104, li_105, li_106, li_108, li_111, li_112, li_113, li_114, li_115, li_116, li_117, li_119, li_122, li_123, li_124, li_125, li_126, li_127, li_128, li_129, li_130, li_131, li_132, li_133, li_134, li_135, li_136, li_137, li_140, li_141, li_142, li_143, li_145, li_147, li_150, li_153, li_159, li_160, li_161, li_162, li_185, li_197, li_213, li_222, li_223, li_255, li_256, li_257, li_258, li_259, li_260, li_261, li_262, li_263, li_264, li_271, li_272, li_273, li_274, li_275, li_276, li_277, li_278, li_300, li_400, li_420, li_500, li_802, li_820, li_823, li_839, li_855, li_871, li_887, li_999, li_1000, li_1001, li_1002, li_1003, li_1004, li_1005, li_1006, li_1007, li_1008, li_1009, li_1010, li_1011, li_1012, li_1013, li_1014, li_1015, li_1016, li_1017, li_1018, li_1019, li_1020, li_1021, li_1022, li_1023, li_1707, li_4096, li_9999, li_65536, li_100000, li_1000000, li_1664525, li_100000000, li_252645135, li_858993459, li_1000000007, li_1013904223, li_1431655765, li_m1]
  rw [e15, pk_mul]
  by_cases qr : e * r ≤ i
  · have : i = e * r := by omega
    rw [if_pos (nI_le qr (by omega))]
    rw [this] at a4
    exact wp_ret ⟨rfl, a1, a2, a3, a4⟩
  · rw [if_neg (nI_ge (by omega) (by omega)), inb_nI (by omega) (by omega), chk_t, nI_add, inb_nI (by omega) (by omega), chk_t, nI_clamp (by omega), nI_clamp (by omega), bnd_s, nI_up, a1 130 (by decide)]
    refine hX (e * r - (i + 1)) _ _ (by omega) ⟨i + 1, by omega, rfl, rfl, fun x hx => by rw [mset_ne hx]; exact a1 x hx, by rw [mset_j (by omega)]; exact a2, fun x x1 x2 => by rw [mset_j (by omega)]; exact a3 x x1 x2, fun l hl => ?_⟩
    by_cases e : l = i
    · subst e
      exact mset_at _ _ _ _
    · rw [mset_j (by omega)]
      exact a4 l (by omega)
theorem w_putsGallery (hN : 20000 ≤ N) (h15 : m 123 15 = nI r) (hr : r ≤ 16) (hz : z ≤ 12) (hk : ∀ i, i < r → m 130 (2 * i) = nI (A i) ∧ m 130 (2 * i + 1) = nI (D i) ∧ A i < z ∧ D i < z) :
    Wp (f_X12_putsGallery N m) (fun v m' => v = nI r ∧ (∀ x, x ≠ 124 → m' x = m x) ∧ m' 124 43 = nI r ∧ (∀ i, i ≠ 43 → (i < 185 ∨ 197 ≤ i) → m' 124 i = m 124 i) ∧ ∀ h, h < 12 → m' 124 (185 + h) = nI (gvR A D h r)) := by
  unfold f_X12_putsGallery
  simp only [li_0, li_1, li_2, li_3, li_4, li_5, li_6, li_7, li_8, li_9, li_10, li_11, li_12, li_13, li_14, li_15, li_16, li_17, li_18, li_19, li_20, li_21, li_22, li_23, li_24, li_25, li_26, li_27, li_28, li_29, li_30, li_31, li_32, li_37, li_38, li_39, li_40, li_41, li_42, li_43, li_44, li_45, li_46, li_47, li_48, li_49, li_50, li_57, li_59, li_60, li_61, li_62, li_63, li_64, li_65, li_69, li_81, li_89, li_90, li_92, li_97, li_99, li_100, li_101, li_103, li_104, li_105, li_106, li_108, li_111, li_112, li_113, li_114, li_115, li_116, li_117, li_119, li_122, li_123, li_124, li_125, li_126, li_127, li_128, li_129, li_130, li_131, li_132, li_133, li_134, li_135, li_136, li_137, li_140, li_141, li_142, li_143, li_145, li_147, li_150, li_153, li_159, li_160, li_161, li_162, li_185, li_197, li_213, li_222, li_223, li_255, li_256, li_257, li_258, li_259, li_260, li_261, li_262, li_263, li_264, li_271, li_272, li_273, li_274, li_275, li_276, li_277, li_278, li_300, li_400, li_420, li_500, li_802, li_820, li_823, li_839, li_855, li_871, li_887, li_999, li_1000, li_1001, li_1002, li_1003, li_1004, li_1005, li_1006, li_1007, li_1008, li_1009, li_1010, li_1011, li_1012, li_1013, li_1014, li_1015, li_1016, li_1017, li_1018, li_1019, li_1020, li_1021, li_1022, li_1023, li_1707, li_4096, li_9999, li_65536, li_100000, li_1000000, li_1664525, li_100000000, li_252645135, li_858993459, li_1000000007, li_1013904223, li_1431655765, li_m1]
  rw [h15, bnd_s]
  refine wp_it1 (fun q a m' => ∃ i, i ≤ 12 ∧ q = 12 - i ∧ a = nI i ∧ (∀ x, x ≠ 124 → m' x = m x) ∧ m' 124 43 = nI r ∧ (∀ i, i ≠ 43 → (i < 185 ∨ 197 ≤ i) → m' 124 i = m 124 i) ∧ ∀ l, l < i → m' 124 (185 + l) = nI 0) ?_ N 12 _ _ (by omega)
    ⟨0, by omega, rfl, rfl, fun x hx => mset_ne hx, mset_at _ _ _ _, fun i h1 h2 => mset_j h1, fun l hl => absurd hl (by omega)⟩
  rintro q X a m1 ⟨i, hi, rfl, rfl, a1, a2, a3, a4⟩ hX
  unfold f_X12_putsGallery_L13
  simp only [li_0, li_1, li_2, li_3, li_4, li_5, li_6, li_7, li_8, li_9, li_10, li_11, li_12, li_13, li_14, li_15, li_16, li_17, li_18, li_19, li_20, li_21, li_22, li_23, li_24, li_25, li_26, li_27, li_28, li_29, li_30, li_31, li_32, li_37, li_38, li_39, li_40, li_41, li_42, li_43, li_44, li_45, li_46, li_47, li_48, li_49, li_50, li_57, li_59, li_60, li_61, li_62, li_63, li_64, li_65, li_69, li_81, li_89, li_90, li_92, li_97, li_99, li_100, li_101, li_103, li_104, li_105, li_106, li_108, li_111, li_112, li_113, li_114, li_115, li_116, li_117, li_119, li_122, li_123, li_124, li_125, li_126, li_127, li_128, li_129, li_130, li_131, li_132, li_133, li_134, li_135, li_136, li_137, li_140, li_141, li_142, li_143, li_145, li_147, li_150, li_153, li_159, li_160, li_161, li_162, li_185, li_197, li_213, li_222, li_223, li_255, li_256, li_257, li_258, li_259, li_260, li_261, li_262, li_263, li_264, li_271, li_272, li_273, li_274, li_275, li_276, li_277, li_278, li_300, li_400, li_420, li_500, li_802, li_820, li_823, li_839, li_855, li_871, li_887, li_999, li_1000, li_1001, li_1002, li_1003, li_1004, li_1005, li_1006, li_1007, li_1008, li_1009, li_1010, li_1011, li_1012, li_1013, li_1014, li_1015, li_1016, li_1017, li_1018, li_1019, li_1020, li_1021, li_1022, li_1023, li_1707, li_4096, li_9999, li_65536, li_100000, li_1000000, li_1664525, li_100000000, li_252645135, li_858993459, li_1000000007, li_1013904223, li_1431655765, li_m1]
  by_cases qi : 12 ≤ i
  · have : i = 12 := by omega
    subst this
    rw [if_pos (nI_le qi (by omega))]
    refine wp_it1 (fun q a m' => ∃ l, l ≤ r ∧ q = r - l ∧ a = nI l ∧ (∀ x, x ≠ 124 → m' x = m x) ∧ m' 124 43 = nI r ∧ (∀ i, i ≠ 43 → (i < 185 ∨ 197 ≤ i) → m' 124 i = m 124 i) ∧ ∀ h, h < 12 → m' 124 (185 + h) = nI (gvR A D h l)) ?_ N r _ _ (by omega)
      ⟨0, by omega, rfl, rfl, a1, a2, a3, a4⟩
    rintro q Y a m2 ⟨l, hl, rfl, rfl, b1, b2, b3, b4⟩ hY
    have e15 : m2 123 15 = nI r := by rw [b1 123 (by decide)]; exact h15
    unfold f_X12_putsGallery_L38
    simp only [li_0, li_1, li_2, li_3, li_4, li_5, li_6, li_7, li_8, li_9, li_10, li_11, li_12, li_13, li_14, li_15, li_16, li_17, li_18, li_19, li_20, li_21, li_22, li_23, li_24, li_25, li_26, li_27, li_28, li_29, li_30, li_31, li_32, li_37, li_38, li_39, li_40, li_41, li_42, li_43, li_44, li_45, li_46, li_47, li_48, li_49, li_50, li_57, li_59, li_60, li_61, li_62, li_63, li_64, li_65, li_69, li_81, li_89, li_90, li_92, li_97, li_99, li_100, li_101, li_103, li_104, li_105, li_106, li_108, li_111, li_112, li_113, li_114, li_115, li_116, li_117, li_119, li_122, li_123, li_124, li_125, li_126, li_127, li_128, li_129, li_130, li_131, li_132, li_133, li_134, li_135, li_136, li_137, li_140, li_141, li_142, li_143, li_145, li_147, li_150, li_153, li_159, li_160, li_161, li_162, li_185, li_197, li_213, li_222, li_223, li_255, li_256, li_257, li_258, li_259, li_260, li_261, li_262, li_263, li_264, li_271, li_272, li_273, li_274, li_275, li_276, li_277, li_278, li_300, li_400, li_420, li_500, li_802, li_820, li_823, li_839, li_855, li_871, li_887, li_999, li_1000, li_1001, li_1002, li_1003, li_1004, li_1005, li_1006, li_1007, li_1008, li_1009, li_1010, li_1011, li_1012, li_1013, li_1014, li_1015, li_1016, li_1017, li_1018, li_1019, li_1020, li_1021, li_1022, li_1023, li_1707, li_4096, li_9999, li_65536, li_100000, li_1000000, li_1664525, li_100000000, li_252645135, li_858993459, li_1000000007, li_1013904223, li_1431655765, li_m1]
    rw [e15]
    by_cases ql : r ≤ l
    · have : l = r := by omega
      subst this
      rw [if_pos (nI_le ql (by omega))]
      exact wp_ret ⟨rfl, b1, b2, b3, b4⟩
    · obtain ⟨k1, k2, k3, k4⟩ := hk l (by omega)
      have hA : A l < 12 := by omega
      have hD : D l < 12 := by omega
      have g0 := b4 (A l) hA
      rw [if_neg (nI_ge (by omega) (by omega)), pk_mul, inb_nI (by omega) (by omega), chk_t, nI_clamp (by omega), b1 130 (by decide), k1, show nI 185 + nI (A l) = nI (185 + A l) from nI_add _ _, inb_nI (by omega) (by omega), chk_t, show nI (2 * l) + nI 1 = nI (2 * l + 1) from nI_add _ _, inb_nI (by omega) (by omega), chk_t, nI_clamp (show 185 + A l < 2 ^ 31 by omega), nI_clamp (show 2 * l + 1 < 2 ^ 31 by omega), k2, g0, nz_one (by omega), nz_or, chk_t, bnd_s]
      rw [chk_t, mset_ne (show (130 : Nat) ≠ 124 by decide), b1 130 (by decide), k2, show nI 185 + nI (D l) = nI (185 + D l) from nI_add _ _, inb_nI (by omega) (by omega), chk_t, chk_t, k1, nz_one (by omega), nI_clamp (show 185 + D l < 2 ^ 31 by omega), chk_t, bnd_s, nI_up]
      have g1 : ∀ h, h < 12 → (mset m2 124 (185 + A l) (nI (gvR A D (A l) l ||| 2 ^ D l))) 124 (185 + h) = nI (if A l = h then gvR A D h l ||| 2 ^ D l else gvR A D h l) := by
        intro h hh
        by_cases e : A l = h
        · subst e
          rw [mset_at, if_pos rfl]
        · rw [mset_j (by omega), if_neg e]
          exact b4 h hh
      rw [g1 (D l) hD, nz_or]
      refine hY (r - (l + 1)) _ _ (by omega) ⟨l + 1, by omega, rfl, rfl, fun x hx => ?_, ?_, fun x x1 x2 => ?_, fun h hh => ?_⟩
      · rw [mset_ne hx, mset_ne hx]; exact b1 x hx
      · rw [mset_j (by omega), mset_j (by omega)]; exact b2
      · rw [mset_j (by omega), mset_j (by omega)]; exact b3 x x1 x2
      · show _ = nI (if D l = h then (if A l = h then gvR A D h l ||| 2 ^ D l else gvR A D h l) ||| 2 ^ A l else (if A l = h then gvR A D h l ||| 2 ^ D l else gvR A D h l))
        by_cases e : D l = h
        · subst e
          rw [mset_at, if_pos rfl]
        · rw [mset_j (by omega), if_neg e]
          exact g1 h hh
  · rw [if_neg (nI_ge (by omega) (by omega)), nI_add, inb_nI (by omega) (by omega), chk_t, nI_clamp (by omega), bnd_s, nI_up]
    refine hX (12 - (i + 1)) _ _ (by omega) ⟨i + 1, by omega, rfl, rfl, fun x hx => by rw [mset_ne hx]; exact a1 x hx, by rw [mset_j (by omega)]; exact a2, fun x x1 x2 => by rw [mset_j (by omega)]; exact a3 x x1 x2, fun l hl => ?_⟩
    by_cases e : l = i
    · subst e
      exact mset_at _ _ _ _
    · rw [mset_j (by omega)]
      exact a4 l (by omega)
end PUTS
