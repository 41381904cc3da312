/-! fits: the pair -/
section FITP
variable {w w' v0 : Arr} {LN : List Lin} {m m' m2 : Mem} {N d n j i : Nat}
def fsF (w : Arr) : Nat → Option Nat
  | 0 => none
  | s + 1 => match fsF w s with
    | some a => some a
    | none => if ft w s = true then some s else none
def laF (w : Arr) : Nat → Option Nat
  | 0 => none
  | s + 1 => if ft w s = true then some s else laF w s
def mxF (w : Arr) (s h : Nat) : Nat := max (cbF w h s) (cnF w s - cbF w h s)
/-- the first hearer with the least -/
def AskV (w : Arr) (s n b : Nat) : Prop := b < n ∧ (∀ h, h < n → mxF w s b ≤ mxF w s h) ∧ ∀ h, h < b → mxF w s b < mxF w s h
theorem AskV.uni {s n b c : Nat} (h1 : AskV w s n b) (h2 : AskV w s n c) : b = c := by
  rcases Nat.lt_trichotomy b c with h | h | h
  · have := h2.2.2 b h
    have := h1.2.1 c h2.1
    omega
  · exact h
  · have := h1.2.2 c h
    have := h2.2.1 b h1.1
    omega
theorem mxF_eq {s h : Nat} (hs : s < 2 ^ 31) : (if nI (cbF w h s) < nI (cnF w s) - nI (cbF w h s) then nI (cnF w s) - nI (cbF w h s) else nI (cbF w h s)) = nI (mxF w s h) := by
  have l := cb_le (w := w) (h := h) s
  rw [pk_sub l.1]
  exact mx_n (by omega) (by omega)
theorem w_askC {s : Nat} (hN : 20000 ≤ N) (H : HRep 2 LN w m) (W0 : WFc w) (hs : s ≤ 2 ^ zh w) (h2 : 2 ≤ cnF w s) (hc : ∀ h, h < 12 → m 1 h = nI (cbF w h s)) : ∃ b, AskV w s (zh w) b ∧ f_X11_whomToAsk N (nI (cnF w s)) m = some (nI b, m) := by
  have lh := W0.lzh
  have p := pow_le31 lh
  have ln := (cb_le (w := w) (h := 0) s).2
  have lm : ∀ h, mxF w s h ≤ cnF w s := fun h => by
    have l := (cb_le (w := w) (h := h) s).1
    unfold mxF
    omega
  have : Wp (f_X11_whomToAsk N (nI (cnF w s)) m) (fun v m' => m' = m ∧ ∃ b, AskV w s (zh w) b ∧ v = nI b) := by
    unfold f_X11_whomToAsk
    refine wp_it3 (fun q x y z m' => ∃ h, h ≤ zh w ∧ q = zh w - h ∧ z = nI h ∧ m' = m ∧ ((x = mo1 ∧ y = nI (cnF w s) ∧ ∀ k, k < h → cnF w s ≤ mxF w s k) ∨ ∃ b, b < h ∧ x = nI b ∧ y = nI (mxF w s b) ∧ (∀ k, k < h → mxF w s b ≤ mxF w s k) ∧ ∀ k, k < b → mxF w s b < mxF w s k)) ?_ N (zh w) _ _ _ _ (by omega)
      ⟨0, by omega, rfl, rfl, rfl, Or.inl ⟨rfl, rfl, fun k hk => absurd hk (by omega)⟩⟩
    rintro q X x y z m' ⟨h, hh, rfl, rfl, rfl, hb⟩ hX
    unfold f_X11_whomToAsk_L7
    simp only [li_0, li_1, li_2, li_3, li_4, li_5, li_6, li_7, li_8, li_9, li_10, li_11, li_12, li_13, li_14, li_15, li_16, li_17, li_18, li_19, li_20, li_21, li_22, li_23, li_24, li_25, li_26, li_27, li_28, li_29, li_30, li_31, li_32, li_37, li_38, li_39, li_40, li_41, li_42, li_43, li_44, li_45, li_46, li_47, li_48, li_49, li_50, li_57, li_59, li_60, li_61, li_62, li_63, li_64, li_65, li_69, li_81, li_89, li_90, li_92, li_97, li_99, li_100, li_101, li_103, li_104, li_105, li_106, li_108, li_111, li_112, li_113, li_114, li_115, li_116, li_117, li_119, li_122, li_123, li_124, li_125, li_126, li_127, li_128, li_129, li_130, li_131, li_132, li_133, li_134, li_135, li_136, li_137, li_140, li_141, li_142, li_143, li_145, li_147, li_150, li_153, li_159, li_160, li_161, li_162, li_185, li_197, li_213, li_222, li_223, li_255, li_256, li_257, li_258, li_259, li_260, li_261, li_262, li_263, li_264, li_271, li_272, li_273, li_274, li_275, li_276, li_277, li_278, li_300, li_400, li_420, li_500, li_802, li_820, li_823, li_839, li_855, li_871, li_887, li_999, li_1000, li_1001, li_1002, li_1003, li_1004, li_1005, li_1006, li_1007, li_1008, li_1009, li_1010, li_1011, li_1012, li_1013, li_1014, li_1015, li_1016, li_1017, li_1018, li_1019, li_1020, li_1021, li_1022, li_1023, li_1707, li_4096, li_9999, li_65536, li_100000, li_1000000, li_1664525, li_100000000, li_252645135, li_858993459, li_1000000007, li_1013904223, li_1431655765, li_m1, nI_up]
    rw [H.hea.1, W0.h37]
    refine wp_ite (fun q => ?_) (fun q => ?_) <;> rw [nI_leI (by omega) (by omega)] at q
    · have : h = zh w := by omega
      subst this
      rcases hb with ⟨rfl, rfl, ha⟩ | ⟨b, hb, rfl, rfl, a1, a3⟩
      · obtain ⟨k, k1, k2, k3⟩ := cn_mid hs h2
        have := ha k k1
        unfold mxF at this
        omega
      · exact wp_ret ⟨rfl, b, ⟨hb, a1, a3⟩, rfl⟩
    · have lmh := lm h
      rw [if_neg (nI_ge (by omega) (by omega)), inb_nI (by omega) (by omega), chk_t, chk_t, nI_clamp (by omega), hc h (by omega), mxF_eq (by omega), bnd_s]
      rcases hb with ⟨rfl, rfl, ha⟩ | ⟨b, hb, rfl, rfl, a1, a3⟩
      · refine wp_ite (fun q2 => ?_) (fun q2 => ?_) <;> rw [nI_leI (by omega) (by omega)] at q2
        · refine hX (zh w - (h + 1)) _ _ _ _ (by omega) ⟨h + 1, by omega, rfl, rfl, rfl, Or.inl ⟨rfl, rfl, fun k hk => ?_⟩⟩
          by_cases e : k = h
          · subst e; exact q2
          · exact ha k (by omega)
        · refine hX (zh w - (h + 1)) _ _ _ _ (by omega) ⟨h + 1, by omega, rfl, rfl, rfl, Or.inr ⟨h, by omega, rfl, rfl, fun k hk => ?_, fun k hk => ?_⟩⟩
          · by_cases e : k = h
            · subst e; exact Nat.le_refl _
            · have := ha k (by omega)
              omega
          · have := ha k hk
            omega
      · have lmb := lm b
        refine wp_ite (fun q2 => ?_) (fun q2 => ?_) <;> rw [nI_leI (by omega) (by omega)] at q2
        · refine hX (zh w - (h + 1)) _ _ _ _ (by omega) ⟨h + 1, by omega, rfl, rfl, rfl, Or.inr ⟨b, by omega, rfl, rfl, fun k hk => ?_, a3⟩⟩
          by_cases e : k = h
          · subst e; exact q2
          · exact a1 k (by omega)
        · refine hX (zh w - (h + 1)) _ _ _ _ (by omega) ⟨h + 1, by omega, rfl, rfl, rfl, Or.inr ⟨h, by omega, rfl, rfl, fun k hk => ?_, fun k hk => ?_⟩⟩
          · by_cases e : k = h
            · subst e; exact Nat.le_refl _
            · have := a1 k (by omega)
              omega
          · have := a1 k hk
            omega
  obtain ⟨v, m', e, rfl, b, hb, rfl⟩ := this
  exact ⟨b, hb, e⟩
theorem w_askM {s : Nat} (hN : 20000 ≤ N) (hm : m 124 = w) (W0 : WFc w) (hs : s ≤ 2 ^ zh w) (hz : 0 < zh w) (hc : ∀ h, h < zh w → m 136 h = nI (cbF w h s)) : ∃ b, AskV w s (zh w) b ∧ f_X12_bestAsked N (nI (cnF w s)) m = some (nI b, m) := by
  have lh := W0.lzh
  have p := pow_le31 lh
  have ln := (cb_le (w := w) (h := 0) s).2
  have lm : ∀ h, mxF w s h ≤ cnF w s := fun h => by
    have l := (cb_le (w := w) (h := h) s).1
    unfold mxF
    omega
  have : Wp (f_X12_bestAsked N (nI (cnF w s)) m) (fun v m' => m' = m ∧ ∃ b, AskV w s (zh w) b ∧ v = nI b) := by
    unfold f_X12_bestAsked
    refine wp_it2 (fun q x z m' => ∃ h, h ≤ zh w ∧ q = zh w - h ∧ z = nI h ∧ m' = m ∧ ((x = mo1 ∧ h = 0) ∨ ∃ b, b < h ∧ x = nI b ∧ (∀ k, k < h → mxF w s b ≤ mxF w s k) ∧ ∀ k, k < b → mxF w s b < mxF w s k)) ?_ N (zh w) _ _ _ (by omega)
      ⟨0, by omega, rfl, rfl, rfl, Or.inl ⟨rfl, rfl⟩⟩
    rintro q X x z m' ⟨h, hh, rfl, rfl, rfl, hb⟩ hX
    unfold f_X12_bestAsked_L4
    simp only [li_0, li_1, li_2, li_3, li_4, li_5, li_6, li_7, li_8, li_9, li_10, li_11, li_12, li_13, li_14, li_15, li_16, li_17, li_18, li_19, li_20, li_21, li_22, li_23, li_24, li_25, li_26, li_27, li_28, li_29, li_30, li_31, li_32, li_37, li_38, li_39, li_40, li_41, li_42, li_43, li_44, li_45, li_46, li_47, li_48, li_49, li_50, li_57, li_59, li_60, li_61, li_62, li_63, li_64, li_65, li_69, li_81, li_89, li_90, li_92, li_97, li_99, li_100, li_101, li_103, li_104, li_105, li_106, li_108, li_111, li_112, li_113, li_114, li_115, li_116, li_117, li_119, li_122, li_123, li_124, li_125, li_126, li_127, li_128, li_129, li_130, li_131, li_132, li_133, li_134, li_135, li_136, li_137, li_140, li_141, li_142, li_143, li_145, li_147, li_150, li_153, li_159, li_160, li_161, li_162, li_185, li_197, li_213, li_222, li_223, li_255, li_256, li_257, li_258, li_259, li_260, li_261, li_262, li_263, li_264, li_271, li_272, li_273, li_274, li_275, li_276, li_277, li_278, li_300, li_400, li_420, li_500, li_802, li_820, li_823, li_839, li_855, li_871, li_887, li_999, li_1000, li_1001, li_1002, li_1003, li_1004, li_1005, li_1006, li_1007, li_1008, li_1009, li_1010, li_1011, li_1012, li_1013, li_1014, li_1015, li_1016, li_1017, li_1018, li_1019, li_1020, li_1021, li_1022, li_1023, li_1707, li_4096, li_9999, li_65536, li_100000, li_1000000, li_1664525, li_100000000, li_252645135, li_858993459, li_1000000007, li_1013904223, li_1431655765, li_m1, nI_up]
    rw [hm, W0.h37]
    refine wp_ite (fun q => ?_) (fun q => ?_) <;> rw [nI_leI (by omega) (by omega)] at q
    · have : h = zh w := by omega
      subst this
      rcases hb with ⟨rfl, h0⟩ | ⟨b, hb, rfl, a1, a3⟩
      · omega
      · exact wp_ret ⟨rfl, b, ⟨hb, a1, a3⟩, rfl⟩
    · rcases hb with ⟨rfl, rfl⟩ | ⟨b, hb, rfl, a1, a3⟩
      · rw [if_pos rfl]
        exact hX (zh w - (0 + 1)) _ _ _ (by omega) ⟨0 + 1, by omega, rfl, rfl, rfl, Or.inr ⟨0, by omega, rfl, fun k hk => by rw [show k = 0 by omega]; exact Nat.le_refl _, fun k hk => absurd hk (by omega)⟩⟩
      · have lmh := lm h
        have lmb := lm b
        rw [if_neg (nI_no1 (by omega)), inb_nI (show h < 12 by omega) (by omega), chk_t, chk_t, nI_clamp (by omega), hc h (by omega), e_greater, mxF_eq (by omega), bd_s, inb_nI (show b < 12 by omega) (by omega), chk_t, chk_t, nI_clamp (by omega), hc b (by omega), e_greater, mxF_eq (by omega), bd_s]
        refine wp_ite (fun q2 => ?_) (fun q2 => ?_) <;> rw [nI_leI (by omega) (by omega)] at q2
        · refine hX (zh w - (h + 1)) _ _ _ (by omega) ⟨h + 1, by omega, rfl, rfl, rfl, Or.inr ⟨b, by omega, rfl, fun k hk => ?_, a3⟩⟩
          by_cases e : k = h
          · subst e; exact q2
          · exact a1 k (by omega)
        · refine hX (zh w - (h + 1)) _ _ _ (by omega) ⟨h + 1, by omega, rfl, rfl, rfl, Or.inr ⟨h, by omega, rfl, fun k hk => ?_, fun k hk => ?_⟩⟩
          · by_cases e : k = h
            · subst e; exact Nat.le_refl _
            · have := a1 k (by omega)
              omega
          · have := a1 k hk
            omega
  obtain ⟨v, m', e, rfl, b, hb, rfl⟩ := this
  exact ⟨b, hb, e⟩
end FITP
