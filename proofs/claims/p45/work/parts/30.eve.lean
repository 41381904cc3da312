/-! with all agains in the reference; an EVENING on both sides -/
def maxS (a b : Int32) : Int32 := if a < b then b else a
def ev0S (w : Arr) : Arr := upd (upd (upd w 0 (nI 0)) 3 mo1) 4 (nI 0)
def evlS (LN : List Lin) (tru : Bool) (w : Arr) : Nat → Arr × Nat
  | 0 => (ev0S w, 0)
  | i + 1 =>
    if upd (evlS LN tru w i).1 0 (maxS ((evlS LN tru w i).1 0) (w (153 + 2 * i))) 0 < lstS w 10 (nI 300) (zs w) then
      ((dosS LN tru (nv (w (153 + 2 * i + 1))) 21 (upd (evlS LN tru w i).1 0 (maxS ((evlS LN tru w i).1 0) (w (153 + 2 * i)))) 0).1,
        (evlS LN tru w i).2 + (dosS LN tru (nv (w (153 + 2 * i + 1))) 21 (upd (evlS LN tru w i).1 0 (maxS ((evlS LN tru w i).1 0) (w (153 + 2 * i)))) 0).2)
    else (upd (evlS LN tru w i).1 0 (maxS ((evlS LN tru w i).1 0) (w (153 + 2 * i))), (evlS LN tru w i).2)
def eveS (LN : List Lin) (tru : Bool) (w : Arr) : Arr := upd (evlS LN tru w (zp w)).1 1 ((evlS LN tru w (zp w)).1 1 + nI 1)
def eveN (LN : List Lin) (tru : Bool) (w : Arr) : Nat := (evlS LN tru w (zp w)).2
section EVE
variable {w w' : Arr} {LN : List Lin} {m m' : Mem} {N d : Nat} {tru : Bool}
theorem lst8_le (W0 : WFc w) : ∀ n, n ≤ zs w → isn (lstS w 8 (nI 9) n) 20
  | 0, _ => isn.nI (by decide)
  | n + 1, hn => by
    unfold lstS
    split
    · rename_i q
      obtain ⟨⟨k, k1, k2, e, -, h8, -, -⟩, -⟩ := W0.sta (show n < zs w by omega)
      rw [e] at q
      exact h8 ((nI_eq (by omega) (by decide)).mp q)
    · exact lst8_le W0 n (by omega)
theorem lst10_le (W0 : WFc w) : ∀ n, n ≤ zs w → isn (lstS w 10 (nI 300) n) 9999
  | 0, _ => isn.nI (by decide)
  | n + 1, hn => by
    unfold lstS
    split
    · rename_i q
      obtain ⟨⟨k, k1, k2, e, -, -, -, h10⟩, -⟩ := W0.sta (show n < zs w by omega)
      rw [e] at q
      exact h10 ((nI_eq (by omega) (by decide)).mp q)
    · exact lst10_le W0 n (by omega)
theorem w_doesM {B : Nat} (hN : 20000 ≤ N) (hm : m 124 = w) (W0 : WFc w) (hmb : WFm B w) (hB : B < 90000) (hd : d < zd w) (hw : lawW w LN) (ho : lawOk LN) (ht : m 123 26 = nI (if tru = true then 1 else 0)) :
    Wp (f_X12_does N (nI d) m) (fun v m' => v = nI (dosS LN tru d 21 w 0).2 ∧ m' 124 = (dosS LN tru d 21 w 0).1 ∧ (∀ j, j < 28 ∨ 31 < j → m' 123 j = m 123 j) ∧ Fr [(123, 124), (132, 134)] m m') := by
  have l := W0.lzd
  unfold f_X12_does
  simp only [li_0, li_1, li_2, li_3, li_4, li_5, li_6, li_7, li_8, li_9, li_10, li_11, li_12, li_13, li_14, li_15, li_16, li_17, li_18, li_19, li_20, li_21, li_22, li_23, li_24, li_25, li_26, li_27, li_28, li_29, li_30, li_31, li_32, li_37, li_38, li_39, li_40, li_41, li_42, li_43, li_44, li_45, li_46, li_47, li_48, li_49, li_50, li_57, li_59, li_60, li_61, li_62, li_63, li_64, li_65, li_69, li_81, li_89, li_90, li_92, li_97, li_99, li_100, li_101, li_103, li_104, li_105, li_106, li_108, li_111, li_112, li_113, li_114, li_115, li_116, li_117, li_119, li_122, li_123, li_124, li_125, li_126, li_127, li_128, li_129, li_130, li_131, li_132, li_133, li_134, li_135, li_136, li_137, li_140, li_141, li_142, li_143, li_145, li_147, li_150, li_153, li_159, li_160, li_161, li_162, li_185, li_197, li_213, li_222, li_223, li_255, li_256, li_257, li_258, li_259, li_260, li_261, li_262, li_263, li_264, li_271, li_272, li_273, li_274, li_275, li_276, li_277, li_278, li_300, li_400, li_420, li_500, li_802, li_820, li_823, li_839, li_855, li_871, li_887, li_999, li_1000, li_1001, li_1002, li_1003, li_1004, li_1005, li_1006, li_1007, li_1008, li_1009, li_1010, li_1011, li_1012, li_1013, li_1014, li_1015, li_1016, li_1017, li_1018, li_1019, li_1020, li_1021, li_1022, li_1023, li_1707, li_4096, li_9999, li_65536, li_100000, li_1000000, li_1664525, li_100000000, li_252645135, li_858993459, li_1000000007, li_1013904223, li_1431655765, li_m1]
  rw [bnd_s]
  generalize hT : dosS LN tru d 21 w 0 = T
  refine wp_it1 (fun n a m2 => (∃ k w1 n', k ≤ 21 ∧ n = k + 1 ∧ a = nI n' ∧ m2 123 31 = nI 1 ∧ dosS LN tru d k w1 n' = T ∧ m2 124 = w1 ∧ WFc w1 ∧ WFm (B + 60 * (21 - k)) w1 ∧ zd w1 = zd w ∧ lawW w1 LN ∧ (k = 21 ∨ ∃ b, w1 4 = nI b ∧ 21 - k ≤ b + 1 ∧ b < 20 ∧ w1 3 = nI d) ∧ (∀ j, j < 28 ∨ 31 < j → m2 123 j = m 123 j) ∧ Fr [(123, 124), (132, 134)] m m2)
    ∨ (a = nI T.2 ∧ m2 123 31 = nI 0 ∧ m2 124 = T.1 ∧ (∀ j, j < 28 ∨ 31 < j → m2 123 j = m 123 j) ∧ Fr [(123, 124), (132, 134)] m m2)) ?_ N 22 _ _ (by omega)
    (Or.inl ⟨21, w, 0, Nat.le_refl _, rfl, rfl, mset_at _ _ _ _, hT, by rw [mset_ne (by decide)]; exact hm, W0, by simpa using hmb, rfl, hw, Or.inl rfl, fun j hj => mset_j (by omega), Fr.set Fr.rf (by decide)⟩)
  rintro n X a m2 (⟨k, w1, n', hk, hn, rfl, h31, hs, h124, W1, hm1, hz, hw1, hag, hj, f1⟩ | ⟨rfl, h31, h124, hj, f1⟩) hX
  · subst hn
    unfold f_X12_does_L7
    simp only [li_0, li_1, li_2, li_3, li_4, li_5, li_6, li_7, li_8, li_9, li_10, li_11, li_12, li_13, li_14, li_15, li_16, li_17, li_18, li_19, li_20, li_21, li_22, li_23, li_24, li_25, li_26, li_27, li_28, li_29, li_30, li_31, li_32, li_37, li_38, li_39, li_40, li_41, li_42, li_43, li_44, li_45, li_46, li_47, li_48, li_49, li_50, li_57, li_59, li_60, li_61, li_62, li_63, li_64, li_65, li_69, li_81, li_89, li_90, li_92, li_97, li_99, li_100, li_101, li_103, li_104, li_105, li_106, li_108, li_111, li_112, li_113, li_114, li_115, li_116, li_117, li_119, li_122, li_123, li_124, li_125, li_126, li_127, li_128, li_129, li_130, li_131, li_132, li_133, li_134, li_135, li_136, li_137, li_140, li_141, li_142, li_143, li_145, li_147, li_150, li_153, li_159, li_160, li_161, li_162, li_185, li_197, li_213, li_222, li_223, li_255, li_256, li_257, li_258, li_259, li_260, li_261, li_262, li_263, li_264, li_271, li_272, li_273, li_274, li_275, li_276, li_277, li_278, li_300, li_400, li_420, li_500, li_802, li_820, li_823, li_839, li_855, li_871, li_887, li_999, li_1000, li_1001, li_1002, li_1003, li_1004, li_1005, li_1006, li_1007, li_1008, li_1009, li_1010, li_1011, li_1012, li_1013, li_1014, li_1015, li_1016, li_1017, li_1018, li_1019, li_1020, li_1021, li_1022, li_1023, li_1707, li_4096, li_9999, li_65536, li_100000, li_1000000, li_1664525, li_100000000, li_252645135, li_858993459, li_1000000007, li_1013904223, li_1431655765, li_m1]
    rw [h31, if_neg (nI_ne (by decide) (by decide) (by decide))]
    refine wp_bind (w_beginM hN h124 (by omega) hw1 ho) ?_
    rintro _ m3 ⟨h3, f3⟩
    have e3 : m3 123 = m2 123 := f3.at 123 (by decide)
    refine wp_bind (w_clapsM (tru := tru) hN h3 W1 (by rw [hz]; exact hd) hw1 ho (by rw [e3, hj 26 (by decide)]; exact ht)) ?_
    rintro _ m4 ⟨h4, g31, -, -, -, gj, f4⟩
    have f14 : Fr [(123, 124), (132, 134)] m m4 := (f1.trans (f3.mono (by decide))).trans f4
    have gj' : ∀ j, j < 28 ∨ 31 < j → m4 123 j = m 123 j := fun j h => by rw [gj j h, e3]; exact hj j h
    have hz3 := zd_one (LN := LN) (tru := tru) (w := w1) (d := d) (by omega)
    have hd1 : d < zd w1 := by rw [hz]; exact hd
    match k, hk, hs, hm1, hag, hX with
    | 0, _, _, _, hag, _ =>
      rcases hag with q | ⟨b, -, h1, h2, -⟩ <;> omega
    | k + 1, hk, hs, hm1, hag, hX =>
      unfold dosS at hs
      rw [nI_up]
      cases hg : gonS LN tru w1 d with
      | true =>
        rw [hg] at g31
        rw [if_pos hg] at hs
        refine hX (k + 1) _ _ (by omega) (Or.inl ⟨k, oneS LN tru w1 d, n' + 1, by omega, rfl, rfl, g31, hs, h4, W1.one hd1, ?_, hz3.trans hz, hw1.one W1 hd1, Or.inr ?_, gj', f14⟩)
        · have := hm1.one (LN := LN) (tru := tru) (by omega) W1 hd1
          rw [show B + 60 * (21 - k) = B + 60 * (21 - (k + 1)) + 60 by omega]
          exact this
        · have e4 : oneS LN tru w1 d 4 = againS w1 d := (oneS_o (by decide) (by decide) (by decide)).trans begS_4
          have e3' : oneS LN tru w1 d 3 = nI d := (oneS_o (by decide) (by decide) (by decide)).trans begS_3
          have W3 := W1.w3 (LN := LN) (tru := tru) hd1
          have hmay : mayS (w3S LN tru w1 d) = true := by
            unfold gonS at hg
            rw [Bool.and_eq_true] at hg
            exact hg.2
          unfold mayS at hmay
          rw [Bool.and_eq_true, decide_eq_true_iff] at hmay
          have e43 : w3S LN tru w1 d 4 = againS w1 d := (w3S_o (by decide)).trans begS_4
          obtain ⟨q, hq, eq⟩ := lst8_le W3 (zs (w3S LN tru w1 d)) (Nat.le_refl _)
          have hlt := hmay.1
          rw [e43, eq] at hlt
          obtain ⟨b, hb1, hb2, hb3⟩ : ∃ b, againS w1 d = nI b ∧ 21 - k ≤ b + 1 ∧ b < 100000 := by
            obtain ⟨a0, b0, h0, h40, hba, haB⟩ := hm1
            unfold againS
            rcases hag with q | ⟨b, h1, h2, h3, h5⟩
            · split
              · exact ⟨b0 + 1, by rw [h40, nI_up], by omega, by omega⟩
              · exact ⟨0, rfl, by omega, by omega⟩
            · rw [if_pos h5, h1, nI_up]
              exact ⟨b + 1, rfl, by omega, by omega⟩
          rw [hb1, nI_ltI (by omega) (by omega)] at hlt
          exact ⟨b, by rw [e4, hb1], hb2, by omega, e3'⟩
      | false =>
        rw [hg] at g31
        rw [if_neg (by rw [hg]; decide)] at hs
        exact hX 0 _ _ (by omega) (Or.inr ⟨by rw [← hs], g31, by rw [← hs]; exact h4, gj', f14⟩)
  · unfold f_X12_does_L7
    simp only [li_0, li_1, li_2, li_3, li_4, li_5, li_6, li_7, li_8, li_9, li_10, li_11, li_12, li_13, li_14, li_15, li_16, li_17, li_18, li_19, li_20, li_21, li_22, li_23, li_24, li_25, li_26, li_27, li_28, li_29, li_30, li_31, li_32, li_37, li_38, li_39, li_40, li_41, li_42, li_43, li_44, li_45, li_46, li_47, li_48, li_49, li_50, li_57, li_59, li_60, li_61, li_62, li_63, li_64, li_65, li_69, li_81, li_89, li_90, li_92, li_97, li_99, li_100, li_101, li_103, li_104, li_105, li_106, li_108, li_111, li_112, li_113, li_114, li_115, li_116, li_117, li_119, li_122, li_123, li_124, li_125, li_126, li_127, li_128, li_129, li_130, li_131, li_132, li_133, li_134, li_135, li_136, li_137, li_140, li_141, li_142, li_143, li_145, li_147, li_150, li_153, li_159, li_160, li_161, li_162, li_185, li_197, li_213, li_222, li_223, li_255, li_256, li_257, li_258, li_259, li_260, li_261, li_262, li_263, li_264, li_271, li_272, li_273, li_274, li_275, li_276, li_277, li_278, li_300, li_400, li_420, li_500, li_802, li_820, li_823, li_839, li_855, li_871, li_887, li_999, li_1000, li_1001, li_1002, li_1003, li_1004, li_1005, li_1006, li_1007, li_1008, li_1009, li_1010, li_1011, li_1012, li_1013, li_1014, li_1015, li_1016, li_1017, li_1018, li_1019, li_1020, li_1021, li_1022, li_1023, li_1707, li_4096, li_9999, li_65536, li_100000, li_1000000, li_1664525, li_100000000, li_252645135, li_858993459, li_1000000007, li_1013904223, li_1431655765, li_m1]
    rw [h31, if_pos rfl]
    exact wp_ret ⟨rfl, h124, hj, f1⟩
theorem maxS_n {a b : Nat} (ha : a < 2 ^ 31) (hb : b < 2 ^ 31) : maxS (nI a) (nI b) = nI (max a b) := by
  unfold maxS
  by_cases h : a < b
  · rw [if_pos (nI_lt h hb), Nat.max_eq_right (by omega)]
  · rw [if_neg (nI_nlt (by omega) ha), Nat.max_eq_left (by omega)]
/-- places that an EVENING leaves alone -/
theorem evlS_o {i : Nat} (W0 : WFc w) (hi : (7 ≤ i ∧ i < 21) ∨ (37 ≤ i ∧ i < 223)) : ∀ n, n ≤ zp w → (evlS LN tru w n).1 i = w i
  | 0, _ => by
    show ev0S w i = w i
    unfold ev0S
    rw [ud_n (by omega), ud_n (by omega), ud_n (by omega)]
  | n + 1, hn => by
    have ih := evlS_o W0 hi n (by omega)
    obtain ⟨-, d, hd, e⟩ := W0.pro (show n < zp w by omega)
    have ld := W0.lzd
    have e2 : nv (w (153 + 2 * n + 1)) = d := by rw [e, nv_nI (by omega)]
    unfold evlS
    split
    · rw [e2]
      refine (dosS_o 21 _ 0 (by omega) (by omega) (by omega) (by omega)).trans ?_
      rw [ud_n (by omega)]
      exact ih
    · exact (ud_n (by omega)).trans ih
theorem evlS_wf (W0 : WFc w) (hw : lawW w LN) : ∀ n, n ≤ zp w → WFc (evlS LN tru w n).1 ∧ WFm 11258 (evlS LN tru w n).1 ∧ lawW (evlS LN tru w n).1 LN
  | 0, _ => ⟨((W0.up (by decide)).up (by decide)).up (by decide), ⟨0, 0, by
      show ev0S w 0 = _
      unfold ev0S
      rw [ud_n (by decide), ud_n (by decide), ud_s], by
      show ev0S w 4 = _
      unfold ev0S
      rw [ud_s], Nat.le_refl _, by omega⟩, ((hw.up (by decide) (by decide)).up (by decide) (by decide)).up (by decide) (by decide)⟩
  | n + 1, hn => by
    obtain ⟨W1, ⟨a, b, h0, h4, hba, haB⟩, hw1⟩ := evlS_wf W0 hw n (by omega)
    obtain ⟨hp, d, hd, e⟩ := W0.pro (show n < zp w by omega)
    obtain ⟨p, hp, ep⟩ := hp
    have ld := W0.lzd
    have e2 : nv (w (153 + 2 * n + 1)) = d := by rw [e, nv_nI (by omega)]
    have em : maxS ((evlS LN tru w n).1 0) (w (153 + 2 * n)) = nI (max a p) := by rw [h0, ep, maxS_n (by omega) (by omega)]
    have W2 : WFc (upd (evlS LN tru w n).1 0 (nI (max a p))) := W1.up (by decide)
    have hw2 : lawW (upd (evlS LN tru w n).1 0 (nI (max a p))) LN := hw1.up (by decide) (by decide)
    have z2 : zd (upd (evlS LN tru w n).1 0 (nI (max a p))) = zd w := by
      unfold zd
      rw [ud_n (by decide), evlS_o W0 (by omega) n (by omega)]
    unfold evlS
    rw [em, e2]
    split
    · rename_i q
      rw [ud_s] at q
      obtain ⟨t, ht, et⟩ := lst10_le W0 (zs w) (Nat.le_refl _)
      rw [et, nI_ltI (by omega) (by omega)] at q
      have hm2 : WFm 9998 (upd (evlS LN tru w n).1 0 (nI (max a p))) := ⟨max a p, b, ud_s, by rw [ud_n (by decide)]; exact h4, by omega, by omega⟩
      have := dosS_wf (LN := LN) (tru := tru) (d := d) 21 _ 0 W2 hm2 (by omega) (by rw [z2]; exact hd)
      exact ⟨this.1, this.2.1, dosS_law (B := 0) 21 _ 0 W2 hw2 (by rw [z2]; exact hd)⟩
    · exact ⟨W2, ⟨max a p, b, (show upd (evlS LN tru w n).1 0 (nI (max a p)) 0 = nI (max a p) from ud_s), (show upd (evlS LN tru w n).1 0 (nI (max a p)) 4 = nI b by rw [ud_n (by decide)]; exact h4), by omega, by omega⟩, hw2⟩
theorem eveS_wf (W0 : WFc w) (hw : lawW w LN) : WFc (eveS LN tru w) ∧ WFm 11258 (eveS LN tru w) ∧ lawW (eveS LN tru w) LN := by
  obtain ⟨h1, ⟨a, b, h0, h4, hba, haB⟩, h3⟩ := evlS_wf (LN := LN) (tru := tru) W0 hw (zp w) (Nat.le_refl _)
  unfold eveS
  exact ⟨h1.up (by decide), ⟨a, b, by rw [ud_n (by decide)]; exact h0, by rw [ud_n (by decide)]; exact h4, hba, haB⟩, h3.up (by decide) (by decide)⟩
theorem eveS_o {i : Nat} (W0 : WFc w) (hi : (7 ≤ i ∧ i < 21) ∨ (37 ≤ i ∧ i < 223)) : eveS LN tru w i = w i := by
  unfold eveS
  rw [ud_n (by omega)]
  exact evlS_o W0 hi _ (Nat.le_refl _)
theorem lst_same {k : Nat} {wo : Int32} (hw : ∀ i, i = 41 ∨ (105 ≤ i ∧ i < 153) → w' i = w i) (hs : zs w ≤ 16) : lstS w' k wo (zs w') = lstS w k wo (zs w) := by
  have ez : zs w' = zs w := by unfold zs; rw [hw 41 (Or.inl rfl)]
  rw [ez]
  exact lstS_cg (fun i hi => hw i (Or.inr hi)) _ hs
theorem hr_pro {i c : Nat} (H : HRep 2 LN w m) (W0 : WFc w) (hi : i < zp w) (hc : c < 4) : f_X9_at N 17 (nI i) (nI c) m = some (m 18 (i * 4 + c), m) :=
  e_at H.fx (show (17, 16, 4) ∈ tbs by decide) (H.pro.1.trans W0.h42) W0.lzp hi hc
theorem w_eveC (hN : 20000 ≤ N) (H : HRep 2 LN w m) (W0 : WFc w) (hw : lawW w LN) (ht : m 113 4 = nI (if tru = true then 0 else 1)) :
    Wp (f_X8_spendEvening N m) (fun v m' => v = nI (eveN LN tru w) ∧ HRep 2 LN (eveS LN tru w) m' ∧ Fr [(6, 6), (8, 10), (111, 115)] m m' ∧ m' 113 4 = m 113 4) := by
  have lp := W0.lzp
  have ls := W0.lzs
  have ld := W0.lzd
  unfold f_X8_spendEvening
  simp only [li_0, li_1, li_2, li_3, li_4, li_5, li_6, li_7, li_8, li_9, li_10, li_11, li_12, li_13, li_14, li_15, li_16, li_17, li_18, li_19, li_20, li_21, li_22, li_23, li_24, li_25, li_26, li_27, li_28, li_29, li_30, li_31, li_32, li_37, li_38, li_39, li_40, li_41, li_42, li_43, li_44, li_45, li_46, li_47, li_48, li_49, li_50, li_57, li_59, li_60, li_61, li_62, li_63, li_64, li_65, li_69, li_81, li_89, li_90, li_92, li_97, li_99, li_100, li_101, li_103, li_104, li_105, li_106, li_108, li_111, li_112, li_113, li_114, li_115, li_116, li_117, li_119, li_122, li_123, li_124, li_125, li_126, li_127, li_128, li_129, li_130, li_131, li_132, li_133, li_134, li_135, li_136, li_137, li_140, li_141, li_142, li_143, li_145, li_147, li_150, li_153, li_159, li_160, li_161, li_162, li_185, li_197, li_213, li_222, li_223, li_255, li_256, li_257, li_258, li_259, li_260, li_261, li_262, li_263, li_264, li_271, li_272, li_273, li_274, li_275, li_276, li_277, li_278, li_300, li_400, li_420, li_500, li_802, li_820, li_823, li_839, li_855, li_871, li_887, li_999, li_1000, li_1001, li_1002, li_1003, li_1004, li_1005, li_1006, li_1007, li_1008, li_1009, li_1010, li_1011, li_1012, li_1013, li_1014, li_1015, li_1016, li_1017, li_1018, li_1019, li_1020, li_1021, li_1022, li_1023, li_1707, li_4096, li_9999, li_65536, li_100000, li_1000000, li_1664525, li_100000000, li_252645135, li_858993459, li_1000000007, li_1013904223, li_1431655765, li_m1]
  rw [hr_setHour H (by decide), bd_s]
  have H1 := H.hou_set (c := 0) (v := nI 0) W0 (by decide)
  have W1 : WFc (upd w (houI 0) (nI 0)) := W0.up (by decide)
  rw [hr_setHour H1 (by decide), bd_s]
  have H2 := H1.hou_set (c := 4) (v := mo1) W1 (by decide)
  have W2 : WFc (upd (upd w (houI 0) (nI 0)) (houI 4) mo1) := W1.up (by decide)
  rw [hr_setHour H2 (by decide), bd_s]
  have H3 := H2.hou_set (c := 5) (v := nI 0) W2 (by decide)
  have f3 : Fr [(8, 8)] m (mset (mset (mset m 8 0 (nI 0)) 8 4 mo1) 8 5 (nI 0)) := Fr.set (Fr.set (Fr.set Fr.rf (by decide)) (by decide)) (by decide)
  have H3 : HRep 2 LN (ev0S w) (mset (mset (mset m 8 0 (nI 0)) 8 4 mo1) 8 5 (nI 0)) := H3
  generalize mset (mset (mset m 8 0 (nI 0)) 8 4 mo1) 8 5 (nI 0) = m3 at H3 f3 ⊢
  have t3 : m3 113 4 = m 113 4 := by rw [f3.at 113 (by decide)]
  refine wp_it2 (fun n a c m' => ∃ i, i ≤ zp w ∧ n = zp w - i ∧ a = nI (evlS LN tru w i).2 ∧ c = nI i ∧ HRep 2 LN (evlS LN tru w i).1 m' ∧ Fr [(6, 6), (8, 10), (111, 115)] m m' ∧ m' 113 4 = m 113 4) ?_ N (zp w) _ _ _ (by omega)
    ⟨0, by omega, rfl, rfl, rfl, H3, f3.mono (by decide), t3⟩
  rintro n X a c m' ⟨i, hi, rfl, rfl, rfl, H', f', t'⟩ hX
  obtain ⟨W', ⟨a, b, h0, h4, hba, haB⟩, hw'⟩ := evlS_wf (LN := LN) (tru := tru) W0 hw i hi
  have eo := fun j hj => evlS_o (LN := LN) (tru := tru) (i := j) W0 hj i hi
  have ezp : zp (evlS LN tru w i).1 = zp w := by unfold zp; rw [eo 42 (by omega)]
  have ezs : zs (evlS LN tru w i).1 = zs w := by unfold zs; rw [eo 41 (by omega)]
  unfold f_X8_spendEvening_L31
  simp only [li_0, li_1, li_2, li_3, li_4, li_5, li_6, li_7, li_8, li_9, li_10, li_11, li_12, li_13, li_14, li_15, li_16, li_17, li_18, li_19, li_20, li_21, li_22, li_23, li_24, li_25, li_26, li_27, li_28, li_29, li_30, li_31, li_32, li_37, li_38, li_39, li_40, li_41, li_42, li_43, li_44, li_45, li_46, li_47, li_48, li_49, li_50, li_57, li_59, li_60, li_61, li_62, li_63, li_64, li_65, li_69, li_81, li_89, li_90, li_92, li_97, li_99, li_100, li_101, li_103, li_104, li_105, li_106, li_108, li_111, li_112, li_113, li_114, li_115, li_116, li_117, li_119, li_122, li_123, li_124, li_125, li_126, li_127, li_128, li_129, li_130, li_131, li_132, li_133, li_134, li_135, li_136, li_137, li_140, li_141, li_142, li_143, li_145, li_147, li_150, li_153, li_159, li_160, li_161, li_162, li_185, li_197, li_213, li_222, li_223, li_255, li_256, li_257, li_258, li_259, li_260, li_261, li_262, li_263, li_264, li_271, li_272, li_273, li_274, li_275, li_276, li_277, li_278, li_300, li_400, li_420, li_500, li_802, li_820, li_823, li_839, li_855, li_871, li_887, li_999, li_1000, li_1001, li_1002, li_1003, li_1004, li_1005, li_1006, li_1007, li_1008, li_1009, li_1010, li_1011, li_1012, li_1013, li_1014, li_1015, li_1016, li_1017, li_1018, li_1019, li_1020, li_1021, li_1022, li_1023, li_1707, li_4096, li_9999, li_65536, li_100000, li_1000000, li_1664525, li_100000000, li_252645135, li_858993459, li_1000000007, li_1013904223, li_1431655765, li_m1]
  rw [H'.pro.1, W'.h42, ezp]
  refine wp_ite (fun q => ?_) (fun q => ?_)
  · rw [nI_leI (by omega) (by omega)] at q
    have : i = zp w := by omega
    subst this
    rw [hr_hour H' (by decide), bd_s, hr_setHour H' (by decide), bd_s]
    exact wp_ret ⟨rfl, H'.hou_set (c := 1) W' (by decide), Fr.set f' (by decide), by rw [mset_k (by decide)]; exact t'⟩
  · rw [nI_leI (by omega) (by omega)] at q
    obtain ⟨⟨p, hp, ep⟩, d, hd, ed⟩ := W0.pro (show i < zp w by omega)
    have e2 : nv (w (153 + 2 * i + 1)) = d := by rw [ed, nv_nI (by omega)]
    obtain ⟨r1, r2⟩ := H'.pro.2 i (by rw [ezp]; omega)
    rw [eo (153 + 2 * i) (by omega)] at r1
    rw [eo (153 + 2 * i + 1) (by omega)] at r2
    rw [hr_hour H' (by decide), bd_s, hr_pro H' W' (by rw [ezp]; omega) (by decide), bd_s, show m' 18 (i * 4 + 1) = _ from r1, hr_setHour H' (by decide), bd_s, show houI 0 = 0 from rfl]
    have em : (if (evlS LN tru w i).1 0 < w (153 + 2 * i) then w (153 + 2 * i) else (evlS LN tru w i).1 0) = maxS ((evlS LN tru w i).1 0) (w (153 + 2 * i)) := rfl
    rw [em]
    have H2 := H'.hou_set (c := 0) (v := maxS ((evlS LN tru w i).1 0) (w (153 + 2 * i))) W' (by decide)
    have W2 : WFc (upd (evlS LN tru w i).1 (houI 0) (maxS ((evlS LN tru w i).1 0) (w (153 + 2 * i)))) := W'.up (by decide)
    have H2 : HRep 2 LN (upd (evlS LN tru w i).1 0 (maxS ((evlS LN tru w i).1 0) (w (153 + 2 * i)))) (mset m' 8 0 (maxS ((evlS LN tru w i).1 0) (w (153 + 2 * i)))) := H2
    have W2 : WFc (upd (evlS LN tru w i).1 0 (maxS ((evlS LN tru w i).1 0) (w (153 + 2 * i)))) := W2
    have f2 : Fr [(6, 6), (8, 10), (111, 115)] m (mset m' 8 0 (maxS ((evlS LN tru w i).1 0) (w (153 + 2 * i)))) := Fr.set f' (by decide)
    have t2 : mset m' 8 0 (maxS ((evlS LN tru w i).1 0) (w (153 + 2 * i))) 113 4 = m 113 4 := by rw [mset_k (by decide)]; exact t'
    have el : lstS (upd (evlS LN tru w i).1 0 (maxS ((evlS LN tru w i).1 0) (w (153 + 2 * i)))) 10 (nI 300) (zs (upd (evlS LN tru w i).1 0 (maxS ((evlS LN tru w i).1 0) (w (153 + 2 * i))))) = lstS w 10 (nI 300) (zs w) := lst_same (fun j hj => by rw [ud_n (by omega)]; exact eo j (by omega)) ls
    have e0 : upd (evlS LN tru w i).1 0 (maxS ((evlS LN tru w i).1 0) (w (153 + 2 * i))) 0 = maxS ((evlS LN tru w i).1 0) (w (153 + 2 * i)) := ud_s
    have em2 : maxS ((evlS LN tru w i).1 0) (w (153 + 2 * i)) = nI (max a p) := by rw [h0, ep, maxS_n (by omega) (by omega)]
    have z2 : zd (upd (evlS LN tru w i).1 0 (maxS ((evlS LN tru w i).1 0) (w (153 + 2 * i)))) = zd w := by
      unfold zd
      rw [ud_n (by decide), eo 38 (by omega)]
    have zp2 : zp (upd (evlS LN tru w i).1 0 (maxS ((evlS LN tru w i).1 0) (w (153 + 2 * i)))) = zp w := by
      unfold zp
      rw [ud_n (by decide), eo 42 (by omega)]
    rw [hr_hour H2 (by decide), bd_s, e_end hN H2 W2, bd_s, el, show houI 0 = 0 from rfl, e0]
    have step : evlS LN tru w (i + 1) = if upd (evlS LN tru w i).1 0 (maxS ((evlS LN tru w i).1 0) (w (153 + 2 * i))) 0 < lstS w 10 (nI 300) (zs w) then
      ((dosS LN tru (nv (w (153 + 2 * i + 1))) 21 (upd (evlS LN tru w i).1 0 (maxS ((evlS LN tru w i).1 0) (w (153 + 2 * i)))) 0).1,
        (evlS LN tru w i).2 + (dosS LN tru (nv (w (153 + 2 * i + 1))) 21 (upd (evlS LN tru w i).1 0 (maxS ((evlS LN tru w i).1 0) (w (153 + 2 * i)))) 0).2)
      else (upd (evlS LN tru w i).1 0 (maxS ((evlS LN tru w i).1 0) (w (153 + 2 * i))), (evlS LN tru w i).2) := rfl
    rw [e0, e2] at step
    refine wp_ite (fun q2 => ?_) (fun q2 => ?_)
    · rw [if_neg (Int32.not_lt.mpr q2)] at step
      rw [nI_up]
      exact hX (zp w - (i + 1)) _ _ _ (by omega) ⟨i + 1, by omega, rfl, by rw [step], rfl, by rw [step]; exact H2, f2, t2⟩
    · rw [if_pos (Int32.not_le.mp q2)] at step
      rw [hr_pro H2 W2 (by rw [zp2]; omega) (by decide), bd_s, mset_k (by decide), show m' 18 (i * 4 + 2) = _ from r2, ed]
      have hlt := Int32.not_le.mp q2
      obtain ⟨t, ht9, et⟩ := lst10_le W0 (zs w) (Nat.le_refl _)
      rw [et, em2, nI_ltI (by omega) (by omega)] at hlt
      have hm2 : WFm 9998 (upd (evlS LN tru w i).1 0 (maxS ((evlS LN tru w i).1 0) (w (153 + 2 * i)))) := ⟨max a p, b, by rw [e0, em2], by rw [ud_n (by decide)]; exact h4, by omega, by omega⟩
      refine wp_bind (w_doesC (tru := tru) hN H2 W2 hm2 (by omega) (by rw [z2]; exact hd) (by rw [t2]; exact ht)) ?_
      rintro v m4 ⟨rfl, H4, f4, t4⟩
      rw [bnd_s, nI_add, nI_up]
      exact hX (zp w - (i + 1)) _ _ _ (by omega) ⟨i + 1, by omega, rfl, by rw [step], rfl, by rw [step]; exact H4, f2.trans f4, t4.trans t2⟩
theorem w_eveM (hN : 20000 ≤ N) (hm : m 124 = w) (W0 : WFc w) (hw : lawW w LN) (ho : lawOk LN) (ht : m 123 26 = nI (if tru = true then 1 else 0)) :
    Wp (f_X12_anEvening N m) (fun v m' => v = nI (eveN LN tru w) ∧ m' 124 = eveS LN tru w ∧ (∀ j, j < 28 ∨ 31 < j → m' 123 j = m 123 j) ∧ Fr [(123, 124), (132, 134)] m m') := by
  have lp := W0.lzp
  have ls := W0.lzs
  have ld := W0.lzd
  unfold f_X12_anEvening
  simp only [li_0, li_1, li_2, li_3, li_4, li_5, li_6, li_7, li_8, li_9, li_10, li_11, li_12, li_13, li_14, li_15, li_16, li_17, li_18, li_19, li_20, li_21, li_22, li_23, li_24, li_25, li_26, li_27, li_28, li_29, li_30, li_31, li_32, li_37, li_38, li_39, li_40, li_41, li_42, li_43, li_44, li_45, li_46, li_47, li_48, li_49, li_50, li_57, li_59, li_60, li_61, li_62, li_63, li_64, li_65, li_69, li_81, li_89, li_90, li_92, li_97, li_99, li_100, li_101, li_103, li_104, li_105, li_106, li_108, li_111, li_112, li_113, li_114, li_115, li_116, li_117, li_119, li_122, li_123, li_124, li_125, li_126, li_127, li_128, li_129, li_130, li_131, li_132, li_133, li_134, li_135, li_136, li_137, li_140, li_141, li_142, li_143, li_145, li_147, li_150, li_153, li_159, li_160, li_161, li_162, li_185, li_197, li_213, li_222, li_223, li_255, li_256, li_257, li_258, li_259, li_260, li_261, li_262, li_263, li_264, li_271, li_272, li_273, li_274, li_275, li_276, li_277, li_278, li_300, li_400, li_420, li_500, li_802, li_820, li_823, li_839, li_855, li_871, li_887, li_999, li_1000, li_1001, li_1002, li_1003, li_1004, li_1005, li_1006, li_1007, li_1008, li_1009, li_1010, li_1011, li_1012, li_1013, li_1014, li_1015, li_1016, li_1017, li_1018, li_1019, li_1020, li_1021, li_1022, li_1023, li_1707, li_4096, li_9999, li_65536, li_100000, li_1000000, li_1664525, li_100000000, li_252645135, li_858993459, li_1000000007, li_1013904223, li_1431655765, li_m1]
  rw [bnd_s, bnd_s, bnd_s]
  have f3 : Fr [(124, 124)] m (mset (mset (mset m 124 0 (nI 0)) 124 3 mo1) 124 4 (nI 0)) := Fr.set (Fr.set (Fr.set Fr.rf (by decide)) (by decide)) (by decide)
  have h3 : mset (mset (mset m 124 0 (nI 0)) 124 3 mo1) 124 4 (nI 0) 124 = ev0S w := by rw [mset_eq, mset_eq, mset_eq, hm]; rfl
  generalize mset (mset (mset m 124 0 (nI 0)) 124 3 mo1) 124 4 (nI 0) = m3 at h3 f3 ⊢
  have e123 : m3 123 = m 123 := f3.at 123 (by decide)
  refine wp_it2 (fun n a c m' => ∃ i, i ≤ zp w ∧ n = zp w - i ∧ a = nI (evlS LN tru w i).2 ∧ c = nI i ∧ m' 124 = (evlS LN tru w i).1 ∧ (∀ j, j < 28 ∨ 31 < j → m' 123 j = m 123 j) ∧ Fr [(123, 124), (132, 134)] m m') ?_ N (zp w) _ _ _ (by omega)
    ⟨0, by omega, rfl, rfl, rfl, h3, fun j _ => by rw [e123], f3.mono (by decide)⟩
  rintro n X a c m' ⟨i, hi, rfl, rfl, rfl, h', j', f'⟩ hX
  obtain ⟨W', ⟨a, b, h0, h4, hba, haB⟩, hw'⟩ := evlS_wf (LN := LN) (tru := tru) W0 hw i hi
  have eo := fun j hj => evlS_o (LN := LN) (tru := tru) (i := j) W0 hj i hi
  have ezp : zp (evlS LN tru w i).1 = zp w := by unfold zp; rw [eo 42 (by omega)]
  unfold f_X12_anEvening_L25
  simp only [li_0, li_1, li_2, li_3, li_4, li_5, li_6, li_7, li_8, li_9, li_10, li_11, li_12, li_13, li_14, li_15, li_16, li_17, li_18, li_19, li_20, li_21, li_22, li_23, li_24, li_25, li_26, li_27, li_28, li_29, li_30, li_31, li_32, li_37, li_38, li_39, li_40, li_41, li_42, li_43, li_44, li_45, li_46, li_47, li_48, li_49, li_50, li_57, li_59, li_60, li_61, li_62, li_63, li_64, li_65, li_69, li_81, li_89, li_90, li_92, li_97, li_99, li_100, li_101, li_103, li_104, li_105, li_106, li_108, li_111, li_112, li_113, li_114, li_115, li_116, li_117, li_119, li_122, li_123, li_124, li_125, li_126, li_127, li_128, li_129, li_130, li_131, li_132, li_133, li_134, li_135, li_136, li_137, li_140, li_141, li_142, li_143, li_145, li_147, li_150, li_153, li_159, li_160, li_161, li_162, li_185, li_197, li_213, li_222, li_223, li_255, li_256, li_257, li_258, li_259, li_260, li_261, li_262, li_263, li_264, li_271, li_272, li_273, li_274, li_275, li_276, li_277, li_278, li_300, li_400, li_420, li_500, li_802, li_820, li_823, li_839, li_855, li_871, li_887, li_999, li_1000, li_1001, li_1002, li_1003, li_1004, li_1005, li_1006, li_1007, li_1008, li_1009, li_1010, li_1011, li_1012, li_1013, li_1014, li_1015, li_1016, li_1017, li_1018, li_1019, li_1020, li_1021, li_1022, li_1023, li_1707, li_4096, li_9999, li_65536, li_100000, li_1000000, li_1664525, li_100000000, li_252645135, li_858993459, li_1000000007, li_1013904223, li_1431655765, li_m1, pk_mul, nI_add]
  rw [h', W'.h42, ezp]
  refine wp_ite (fun q => ?_) (fun q => ?_)
  · rw [nI_leI (by omega) (by omega)] at q
    have : i = zp w := by omega
    subst this
    rw [bnd_s]
    exact wp_ret ⟨rfl, by rw [mset_eq, h']; rfl, fun j hj => by rw [mset_k (by decide)]; exact j' j hj, Fr.set f' (by decide)⟩
  · rw [nI_leI (by omega) (by omega)] at q
    obtain ⟨⟨p, hp, ep⟩, d, hd, ed⟩ := W0.pro (show i < zp w by omega)
    have e2 : nv (w (153 + 2 * i + 1)) = d := by rw [ed, nv_nI (by omega)]
    rw [inb_nI (by omega) (by omega), chk_t, nI_clamp (by omega), e_greater, bd_s, bnd_s, eo (153 + 2 * i) (by omega)]
    have em : (if (evlS LN tru w i).1 0 < w (153 + 2 * i) then w (153 + 2 * i) else (evlS LN tru w i).1 0) = maxS ((evlS LN tru w i).1 0) (w (153 + 2 * i)) := rfl
    rw [em]
    have W2 : WFc (upd (evlS LN tru w i).1 0 (maxS ((evlS LN tru w i).1 0) (w (153 + 2 * i)))) := W'.up (by decide)
    have hw2 : lawW (upd (evlS LN tru w i).1 0 (maxS ((evlS LN tru w i).1 0) (w (153 + 2 * i)))) LN := hw'.up (by decide) (by decide)
    have h2 : mset m' 124 0 (maxS ((evlS LN tru w i).1 0) (w (153 + 2 * i))) 124 = upd (evlS LN tru w i).1 0 (maxS ((evlS LN tru w i).1 0) (w (153 + 2 * i))) := by rw [mset_eq, h']
    have f2 : Fr [(123, 124), (132, 134)] m (mset m' 124 0 (maxS ((evlS LN tru w i).1 0) (w (153 + 2 * i)))) := Fr.set f' (by decide)
    have j2 : ∀ j, j < 28 ∨ 31 < j → mset m' 124 0 (maxS ((evlS LN tru w i).1 0) (w (153 + 2 * i))) 123 j = m 123 j := fun j hj => by rw [mset_k (by decide)]; exact j' j hj
    have el : lstS (upd (evlS LN tru w i).1 0 (maxS ((evlS LN tru w i).1 0) (w (153 + 2 * i)))) 10 (nI 300) (zs (upd (evlS LN tru w i).1 0 (maxS ((evlS LN tru w i).1 0) (w (153 + 2 * i))))) = lstS w 10 (nI 300) (zs w) := lst_same (fun j hj => by rw [ud_n (by omega)]; exact eo j (by omega)) ls
    have e0 : upd (evlS LN tru w i).1 0 (maxS ((evlS LN tru w i).1 0) (w (153 + 2 * i))) 0 = maxS ((evlS LN tru w i).1 0) (w (153 + 2 * i)) := ud_s
    have em2 : maxS ((evlS LN tru w i).1 0) (w (153 + 2 * i)) = nI (max a p) := by rw [h0, ep, maxS_n (by omega) (by omega)]
    have z2 : zd (upd (evlS LN tru w i).1 0 (maxS ((evlS LN tru w i).1 0) (w (153 + 2 * i)))) = zd w := by
      unfold zd
      rw [ud_n (by decide), eo 38 (by omega)]
    rw [e_endM hN h2 W2, bd_s, el, h2, e0]
    have step : evlS LN tru w (i + 1) = if upd (evlS LN tru w i).1 0 (maxS ((evlS LN tru w i).1 0) (w (153 + 2 * i))) 0 < lstS w 10 (nI 300) (zs w) then
      ((dosS LN tru (nv (w (153 + 2 * i + 1))) 21 (upd (evlS LN tru w i).1 0 (maxS ((evlS LN tru w i).1 0) (w (153 + 2 * i)))) 0).1,
        (evlS LN tru w i).2 + (dosS LN tru (nv (w (153 + 2 * i + 1))) 21 (upd (evlS LN tru w i).1 0 (maxS ((evlS LN tru w i).1 0) (w (153 + 2 * i)))) 0).2)
      else (upd (evlS LN tru w i).1 0 (maxS ((evlS LN tru w i).1 0) (w (153 + 2 * i))), (evlS LN tru w i).2) := rfl
    rw [e0, e2] at step
    refine wp_ite (fun q2 => ?_) (fun q2 => ?_)
    · rw [if_neg (Int32.not_lt.mpr q2)] at step
      exact hX (zp w - (i + 1)) _ _ _ (by omega) ⟨i + 1, by omega, rfl, by rw [step], rfl, by rw [step]; exact h2, j2, f2⟩
    · rw [if_pos (Int32.not_le.mp q2)] at step
      rw [inb_nI (by omega) (by omega), chk_t, nI_clamp (by omega), ud_n (by omega), eo (153 + 2 * i + 1) (by omega), ed]
      have hlt := Int32.not_le.mp q2
      obtain ⟨t, ht9, et⟩ := lst10_le W0 (zs w) (Nat.le_refl _)
      rw [et, em2, nI_ltI (by omega) (by omega)] at hlt
      have hm2 : WFm 9998 (upd (evlS LN tru w i).1 0 (maxS ((evlS LN tru w i).1 0) (w (153 + 2 * i)))) := ⟨max a p, b, by rw [e0, em2], by rw [ud_n (by decide)]; exact h4, by omega, by omega⟩
      refine wp_bind (w_doesM (tru := tru) hN h2 W2 hm2 (by omega) (by rw [z2]; exact hd) hw2 ho (by rw [j2 26 (by decide)]; exact ht)) ?_
      rintro v m4 ⟨rfl, h4', j4, f4⟩
      rw [bnd_s, nI_add]
      exact hX (zp w - (i + 1)) _ _ _ (by omega) ⟨i + 1, by omega, rfl, by rw [step], rfl, by rw [step]; exact h4', fun j hj => by rw [j4 j hj]; exact j2 j hj, f2.trans f4⟩
end EVE
