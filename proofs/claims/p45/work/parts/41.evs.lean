/-! evenings -/
section EVS
variable {w w' : Arr} {LN : List Lin} {m m' m2 : Mem} {N k p : Nat} {h : Nat → Arr}
def hig (i : Nat) : Prop := (37 ≤ i ∧ i < 40) ∨ i = 41 ∨ (45 ≤ i ∧ i < 153) ∨ (185 ≤ i ∧ i < 197)
def nxt (k : Nat) (h : Nat → Arr) (w : Arr) (i : Nat) : Arr := if i + 1 = min 6 (k + 1) then w else h (i + (if k = 6 then 1 else 0))
def Hok (k : Nat) (h : Nat → Arr) (w : Arr) : Prop := k ≤ 6 ∧ ∀ i, i < k → lowW (h i) ∧ sml (h i) ∧ ∀ j, hig j → h i j = w j
def PaC (k p : Nat) (h : Nat → Arr) (m : Mem) : Prop := p < 6 ∧ m 48 2 = nI k ∧ m 48 1 = nI p ∧ ∀ i, i < k → MomR (50 + 7 * ((p + 6 - k + i) % 6)) (h i) m
def PaM (k : Nat) (h : Nat → Arr) (m : Mem) : Prop := m 123 4 = nI k ∧ ∀ i, i < k → ∀ j, j < 37 → m 126 (37 * i + j) = h i j
theorem Hok.next (H : Hok k h w) (G : Good LN w) (hw : ∀ j, hig j → w' j = w j) : Hok (min 6 (k + 1)) (nxt k h w) w' := by
  refine ⟨Nat.min_le_left _ _, fun i hi => ?_⟩
  unfold nxt
  split
  · exact ⟨G.1.lowW G.2.1, G.1.sml, fun j hj => (hw j hj).symm⟩
  · obtain ⟨hk, hh⟩ := H
    obtain ⟨a, b, c⟩ := hh (i + (if k = 6 then 1 else 0)) (by split <;> omega)
    exact ⟨a, b, fun j hj => by rw [c j hj, hw j hj]⟩
theorem w_kC (H : HRep 2 LN w m) (G : Good LN w) (O : Hok k h w) (P : PaC k p h m) :
    Wp (f_X4_keep N m) (fun _ m' => HRep 2 LN w m' ∧ PaC (min 6 (k + 1)) ((p + 1) % 6) (nxt k h w) m' ∧ Fr [(48, 48), (50, 91)] m m') := by
  obtain ⟨hp, e2, e1, hs⟩ := P
  obtain ⟨hk, ho⟩ := O
  refine wp_mono (w_keepC H G.1 hk hp e1 e2) ?_
  rintro _ m1 ⟨H1, hM, g1, g2, gc⟩
  refine ⟨H1, ⟨Nat.mod_lt _ (by decide), g2, g1, fun i hi => ?_⟩, fun c hc => gc c ?_ ?_⟩
  · unfold nxt
    split
    · rename_i hlast
      have eq : ((p + 1) % 6 + 6 - min 6 (k + 1) + i) % 6 = p := by omega
      rw [eq]; exact hM
    · rename_i hlast
      have hi2 : i + (if k = 6 then 1 else 0) < k := by
        split <;> omega
      have eq : ((p + 1) % 6 + 6 - min 6 (k + 1) + i) % 6 = (p + 6 - k + (i + (if k = 6 then 1 else 0))) % 6 := by
        split <;> omega
      rw [eq]
      have hne : (p + 6 - k + (i + (if k = 6 then 1 else 0))) % 6 ≠ p := by
        rw [← eq]
        omega
      have hq6 : (p + 6 - k + (i + (if k = 6 then 1 else 0))) % 6 < 6 := Nat.mod_lt _ (by decide)
      exact (hs _ hi2).cg (ho _ hi2).2.1 (fun c h1 h2 => gc c (by omega) (by omega)) (fun _ _ => rfl)
  · have := hc (48, 48) List.mem_cons_self
    omega
  · have := hc (50, 91) (by decide)
    omega
theorem w_kM (hN : 20000 ≤ N) (hm : m 124 = w) (hk : k ≤ 6) (P : PaM k h m) :
    Wp (f_X12_keeps N m) (fun _ m' => PaM (min 6 (k + 1)) (nxt k h w) m' ∧ m' 123 26 = nI 1 ∧ (∀ j, j ≠ 4 → j ≠ 26 → m' 123 j = m 123 j) ∧ Fr [(123, 123), (126, 126)] m m') := by
  obtain ⟨e4, hs⟩ := P
  refine wp_mono (w_keepsM hN hm hk e4) ?_
  rintro _ m1 ⟨g4, g26, gj, gf, g1, g2⟩
  refine ⟨⟨g4, fun i hi j hj => ?_⟩, g26, gj, gf⟩
  unfold nxt
  split
  · rename_i hl
    rw [show i = min 6 (k + 1) - 1 by omega]
    exact g1 j hj
  · rename_i hl
    rw [g2 i (by omega) j hj]
    exact hs _ (by split <;> omega) j hj
def evT (LN : List Lin) (k : Nat) (h : Nat → Arr) (w : Arr) : Nat → Nat × (Nat → Arr) × Arr × Nat
  | 0 => (k, h, w, 0)
  | t + 1 => (min 6 ((evT LN k h w t).1 + 1), nxt (evT LN k h w t).1 (evT LN k h w t).2.1 (evT LN k h w t).2.2.1, eveS LN true (evT LN k h w t).2.2.1, (evT LN k h w t).2.2.2 + eveN LN true (evT LN k h w t).2.2.1)
theorem evT_ok (O : Hok k h w) (G : Good LN w) : ∀ t, Hok (evT LN k h w t).1 (evT LN k h w t).2.1 (evT LN k h w t).2.2.1 ∧ Good LN (evT LN k h w t).2.2.1 ∧ ∀ j, hig j → (evT LN k h w t).2.2.1 j = w j
  | 0 => ⟨O, G, fun _ _ => rfl⟩
  | t + 1 => by
    obtain ⟨a, b, c⟩ := evT_ok O G t
    have wf := eveS_wf (LN := LN) (tru := true) b.1 b.2.2
    have eo : ∀ j, hig j → eveS LN true (evT LN k h w t).2.2.1 j = (evT LN k h w t).2.2.1 j := fun j hj => eveS_o b.1 (by unfold hig at hj; omega)
    exact ⟨a.next b eo, wf, fun j hj => (eo j hj).trans (c j hj)⟩
theorem w_evsC {T : Nat} (hN : 20000 ≤ N) (hT : T ≤ 20) (H : HRep 2 LN w m) (G : Good LN w) (O : Hok k h w) (P : PaC k p h m) (h4 : m 113 4 = nI 0) :
    Wp (it2 (f_X11_evenings_L32 N (nI T)) N (nI 0) (nI 0) m) (fun v m' => v = nI (evT LN k h w T).2.2.2 ∧ HRep 2 LN (evT LN k h w T).2.2.1 m' ∧ (∃ p', PaC (evT LN k h w T).1 p' (evT LN k h w T).2.1 m') ∧ Fr [(3, 24), (48, 48), (50, 91), (111, 115)] m m' ∧ m' 113 4 = nI 0) := by
  refine wp_it2 (fun n a c m' => ∃ i p', i ≤ T ∧ n = T - i ∧ a = nI (evT LN k h w i).2.2.2 ∧ c = nI i ∧ HRep 2 LN (evT LN k h w i).2.2.1 m' ∧ PaC (evT LN k h w i).1 p' (evT LN k h w i).2.1 m' ∧ Fr [(3, 24), (48, 48), (50, 91), (111, 115)] m m' ∧ m' 113 4 = nI 0) ?_ N T _ _ _ (by omega)
    ⟨0, p, by omega, rfl, rfl, rfl, H, P, Fr.rf, h4⟩
  rintro n X a c m' ⟨i, p', hi, rfl, rfl, rfl, H', P', f', t'⟩ hX
  obtain ⟨O', G', -⟩ := evT_ok O G i
  unfold f_X11_evenings_L32
  simp only [li_0, li_1, li_2, li_3, li_4, li_5, li_6, li_7, li_8, li_9, li_10, li_11, li_12, li_13, li_14, li_15, li_16, li_17, li_18, li_19, li_20, li_21, li_22, li_23, li_24, li_25, li_26, li_27, li_28, li_29, li_30, li_31, li_32, li_37, li_38, li_39, li_40, li_41, li_42, li_43, li_44, li_45, li_46, li_47, li_48, li_49, li_50, li_57, li_59, li_60, li_61, li_62, li_63, li_64, li_65, li_69, li_81, li_89, li_90, li_92, li_97, li_99, li_100, li_101, li_103, li_104, li_105, li_106, li_108, li_111, li_112, li_113, li_114, li_115, li_116, li_117, li_119, li_122, li_123, li_124, li_125, li_126, li_127, li_128, li_129, li_130, li_131, li_132, li_133, li_134, li_135, li_136, li_137, li_140, li_141, li_142, li_143, li_145, li_147, li_150, li_153, li_159, li_160, li_161, li_162, li_185, li_197, li_213, li_222, li_223, li_255, li_256, li_257, li_258, li_259, li_260, li_261, li_262, li_263, li_264, li_271, li_272, li_273, li_274, li_275, li_276, li_277, li_278, li_300, li_400, li_420, li_500, li_802, li_820, li_823, li_839, li_855, li_871, li_887, li_999, li_1000, li_1001, li_1002, li_1003, li_1004, li_1005, li_1006, li_1007, li_1008, li_1009, li_1010, li_1011, li_1012, li_1013, li_1014, li_1015, li_1016, li_1017, li_1018, li_1019, li_1020, li_1021, li_1022, li_1023, li_1707, li_4096, li_9999, li_65536, li_100000, li_1000000, li_1664525, li_100000000, li_252645135, li_858993459, li_1000000007, li_1013904223, li_1431655765, li_m1]
  refine wp_ite (fun q => ?_) (fun q => ?_)
  · rw [nI_leI (by omega) (by omega)] at q
    have : i = T := by omega
    subst this
    exact wp_ret ⟨rfl, H', ⟨p', P'⟩, f', t'⟩
  · rw [nI_leI (by omega) (by omega)] at q
    refine wp_bind (w_kC H' G' O' P') ?_
    rintro _ m1 ⟨H1, P1, f1⟩
    have t1 : m1 113 4 = nI (if true = true then 0 else 1) := by rw [f1.at 113 (by decide)]; exact t'
    refine wp_bind (w_eveC (tru := true) hN H1 G'.1 G'.2.2 t1) ?_
    rintro _ m3 ⟨rfl, H3, f3, t3⟩
    rw [bnd_s, nI_add, nI_up]
    refine hX (T - (i + 1)) _ _ _ (by omega) ⟨i + 1, (p' + 1) % 6, by omega, rfl, rfl, rfl, H3, ?_, (f'.trans (f1.mono (by decide))).trans (f3.mono (by decide)), ?_⟩
    · obtain ⟨a, b, c, d⟩ := P1
      refine ⟨a, by rw [f3.at 48 (by decide)]; exact b, by rw [f3.at 48 (by decide)]; exact c, fun i2 hi2 => ?_⟩
      have hs := ((O'.next (w' := (evT LN k h w i).2.2.1) G' (fun _ _ => rfl)).2 i2 hi2).2.1
      refine (d i2 hi2).cg hs (fun c h1 h2 => f3 c (fun q hq => ?_)) (fun _ _ => rfl)
      have hq6 : ((p' + 1) % 6 + 6 - min 6 ((evT LN k h w i).1 + 1) + i2) % 6 < 6 := Nat.mod_lt _ (by decide)
      simp only [List.mem_cons, List.not_mem_nil, or_false] at hq
      rcases hq with rfl | rfl | rfl <;> simp only <;> omega
    · rw [t3, f1.at 113 (by decide)]; exact t'
theorem w_evsM {T : Nat} (hN : 20000 ≤ N) (hT : T ≤ 20) (hm : m 124 = w) (G : Good LN w) (ho : lawOk LN) (O : Hok k h w) (P : PaM k h m) :
    Wp (it2 (f_X12_evenings_L30 N (nI T)) N (nI 0) (nI 0) m) (fun v m' => v = nI (evT LN k h w T).2.2.2 ∧ m' 124 = (evT LN k h w T).2.2.1 ∧ PaM (evT LN k h w T).1 (evT LN k h w T).2.1 m' ∧ (∀ j, j ≠ 4 → j < 26 → m' 123 j = m 123 j) ∧ Fr [(123, 124), (126, 126), (132, 134)] m m') := by
  refine wp_it2 (fun n a c m' => ∃ i, i ≤ T ∧ n = T - i ∧ a = nI (evT LN k h w i).2.2.2 ∧ c = nI i ∧ m' 124 = (evT LN k h w i).2.2.1 ∧ PaM (evT LN k h w i).1 (evT LN k h w i).2.1 m' ∧ (∀ j, j ≠ 4 → j < 26 → m' 123 j = m 123 j) ∧ Fr [(123, 124), (126, 126), (132, 134)] m m') ?_ N T _ _ _ (by omega)
    ⟨0, by omega, rfl, rfl, rfl, hm, P, fun _ _ _ => rfl, Fr.rf⟩
  rintro n X a c m' ⟨i, hi, rfl, rfl, rfl, h', P', j', f'⟩ hX
  obtain ⟨O', G', -⟩ := evT_ok O G i
  unfold f_X12_evenings_L30
  simp only [li_0, li_1, li_2, li_3, li_4, li_5, li_6, li_7, li_8, li_9, li_10, li_11, li_12, li_13, li_14, li_15, li_16, li_17, li_18, li_19, li_20, li_21, li_22, li_23, li_24, li_25, li_26, li_27, li_28, li_29, li_30, li_31, li_32, li_37, li_38, li_39, li_40, li_41, li_42, li_43, li_44, li_45, li_46, li_47, li_48, li_49, li_50, li_57, li_59, li_60, li_61, li_62, li_63, li_64, li_65, li_69, li_81, li_89, li_90, li_92, li_97, li_99, li_100, li_101, li_103, li_104, li_105, li_106, li_108, li_111, li_112, li_113, li_114, li_115, li_116, li_117, li_119, li_122, li_123, li_124, li_125, li_126, li_127, li_128, li_129, li_130, li_131, li_132, li_133, li_134, li_135, li_136, li_137, li_140, li_141, li_142, li_143, li_145, li_147, li_150, li_153, li_159, li_160, li_161, li_162, li_185, li_197, li_213, li_222, li_223, li_255, li_256, li_257, li_258, li_259, li_260, li_261, li_262, li_263, li_264, li_271, li_272, li_273, li_274, li_275, li_276, li_277, li_278, li_300, li_400, li_420, li_500, li_802, li_820, li_823, li_839, li_855, li_871, li_887, li_999, li_1000, li_1001, li_1002, li_1003, li_1004, li_1005, li_1006, li_1007, li_1008, li_1009, li_1010, li_1011, li_1012, li_1013, li_1014, li_1015, li_1016, li_1017, li_1018, li_1019, li_1020, li_1021, li_1022, li_1023, li_1707, li_4096, li_9999, li_65536, li_100000, li_1000000, li_1664525, li_100000000, li_252645135, li_858993459, li_1000000007, li_1013904223, li_1431655765, li_m1]
  refine wp_ite (fun q => ?_) (fun q => ?_)
  · rw [nI_leI (by omega) (by omega)] at q
    have : i = T := by omega
    subst this
    exact wp_ret ⟨rfl, h', P', j', f'⟩
  · rw [nI_leI (by omega) (by omega)] at q
    refine wp_bind (w_kM hN h' O'.1 P') ?_
    rintro _ m1 ⟨P1, s26, j1, f1⟩
    refine wp_bind (w_eveM (tru := true) hN (by rw [f1.at 124 (by decide)]; exact h') G'.1 G'.2.2 ho s26) ?_
    rintro _ m3 ⟨rfl, h3, j3, f3⟩
    rw [bnd_s, nI_add, nI_up]
    refine hX (T - (i + 1)) _ _ _ (by omega) ⟨i + 1, by omega, rfl, rfl, rfl, h3, ⟨?_, fun i hi j hj => ?_⟩, fun j h1 h2 => ?_, (f'.trans (f1.mono (by decide))).trans (f3.mono (by decide))⟩
    · rw [j3 4 (by decide)]; exact P1.1
    · rw [f3.at 126 (by decide)]
      exact P1.2 i hi j hj
    · rw [j3 j (by omega), j1 j h1 (by omega), j' j h1 h2]
theorem pr_evenings {a : Int32} (hN : 20000 ≤ N) : Pr (f_X11_evenings N a) (f_X12_evenings N a) := by
  intro m hI
  obtain ⟨LN, H, G, ⟨k, p, hk, hp, e2, e1, e3, hs⟩, hIm, hT, hFl, h113⟩ := id hI
  unfold f_X11_evenings
  simp only [li_0, li_1, li_2, li_3, li_4, li_5, li_6, li_7, li_8, li_9, li_10, li_11, li_12, li_13, li_14, li_15, li_16, li_17, li_18, li_19, li_20, li_21, li_22, li_23, li_24, li_25, li_26, li_27, li_28, li_29, li_30, li_31, li_32, li_37, li_38, li_39, li_40, li_41, li_42, li_43, li_44, li_45, li_46, li_47, li_48, li_49, li_50, li_57, li_59, li_60, li_61, li_62, li_63, li_64, li_65, li_69, li_81, li_89, li_90, li_92, li_97, li_99, li_100, li_101, li_103, li_104, li_105, li_106, li_108, li_111, li_112, li_113, li_114, li_115, li_116, li_117, li_119, li_122, li_123, li_124, li_125, li_126, li_127, li_128, li_129, li_130, li_131, li_132, li_133, li_134, li_135, li_136, li_137, li_140, li_141, li_142, li_143, li_145, li_147, li_150, li_153, li_159, li_160, li_161, li_162, li_185, li_197, li_213, li_222, li_223, li_255, li_256, li_257, li_258, li_259, li_260, li_261, li_262, li_263, li_264, li_271, li_272, li_273, li_274, li_275, li_276, li_277, li_278, li_300, li_400, li_420, li_500, li_802, li_820, li_823, li_839, li_855, li_871, li_887, li_999, li_1000, li_1001, li_1002, li_1003, li_1004, li_1005, li_1006, li_1007, li_1008, li_1009, li_1010, li_1011, li_1012, li_1013, li_1014, li_1015, li_1016, li_1017, li_1018, li_1019, li_1020, li_1021, li_1022, li_1023, li_1707, li_4096, li_9999, li_65536, li_100000, li_1000000, li_1664525, li_100000000, li_252645135, li_858993459, li_1000000007, li_1013904223, li_1431655765, li_m1]
  rw [e_within, bd_s]
  cases hq : decide (nI 1 ≤ a ∧ a ≤ nI 20) with
  | false =>
    rw [if_pos (by decide)]
    refine wp_ret ?_
    unfold f_X12_evenings
    simp only [li_0, li_1, li_2, li_3, li_4, li_5, li_6, li_7, li_8, li_9, li_10, li_11, li_12, li_13, li_14, li_15, li_16, li_17, li_18, li_19, li_20, li_21, li_22, li_23, li_24, li_25, li_26, li_27, li_28, li_29, li_30, li_31, li_32, li_37, li_38, li_39, li_40, li_41, li_42, li_43, li_44, li_45, li_46, li_47, li_48, li_49, li_50, li_57, li_59, li_60, li_61, li_62, li_63, li_64, li_65, li_69, li_81, li_89, li_90, li_92, li_97, li_99, li_100, li_101, li_103, li_104, li_105, li_106, li_108, li_111, li_112, li_113, li_114, li_115, li_116, li_117, li_119, li_122, li_123, li_124, li_125, li_126, li_127, li_128, li_129, li_130, li_131, li_132, li_133, li_134, li_135, li_136, li_137, li_140, li_141, li_142, li_143, li_145, li_147, li_150, li_153, li_159, li_160, li_161, li_162, li_185, li_197, li_213, li_222, li_223, li_255, li_256, li_257, li_258, li_259, li_260, li_261, li_262, li_263, li_264, li_271, li_272, li_273, li_274, li_275, li_276, li_277, li_278, li_300, li_400, li_420, li_500, li_802, li_820, li_823, li_839, li_855, li_871, li_887, li_999, li_1000, li_1001, li_1002, li_1003, li_1004, li_1005, li_1006, li_1007, li_1008, li_1009, li_1010, li_1011, li_1012, li_1013, li_1014, li_1015, li_1016, li_1017, li_1018, li_1019, li_1020, li_1021, li_1022, li_1023, li_1707, li_4096, li_9999, li_65536, li_100000, li_1000000, li_1664525, li_100000000, li_252645135, li_858993459, li_1000000007, li_1013904223, li_1431655765, li_m1]
    rw [e_isIn, bd_s, hq, if_pos (by decide)]
    exact wp_ret ⟨rfl, hI⟩
  | true =>
    rw [if_neg (by decide), hr_hour H (by decide), bd_s]
    have eM : ∀ m1 : Mem, m1 124 = m 124 → f_X12_evenings N a m1 = if m 124 1 + a ≤ nI 9999 then it2 (f_X12_evenings_L30 N a) N (nI 0) (nI 0) m1 else some (mo1, m1) := by
      intro m1 h1
      unfold f_X12_evenings
      simp only [li_0, li_1, li_2, li_3, li_4, li_5, li_6, li_7, li_8, li_9, li_10, li_11, li_12, li_13, li_14, li_15, li_16, li_17, li_18, li_19, li_20, li_21, li_22, li_23, li_24, li_25, li_26, li_27, li_28, li_29, li_30, li_31, li_32, li_37, li_38, li_39, li_40, li_41, li_42, li_43, li_44, li_45, li_46, li_47, li_48, li_49, li_50, li_57, li_59, li_60, li_61, li_62, li_63, li_64, li_65, li_69, li_81, li_89, li_90, li_92, li_97, li_99, li_100, li_101, li_103, li_104, li_105, li_106, li_108, li_111, li_112, li_113, li_114, li_115, li_116, li_117, li_119, li_122, li_123, li_124, li_125, li_126, li_127, li_128, li_129, li_130, li_131, li_132, li_133, li_134, li_135, li_136, li_137, li_140, li_141, li_142, li_143, li_145, li_147, li_150, li_153, li_159, li_160, li_161, li_162, li_185, li_197, li_213, li_222, li_223, li_255, li_256, li_257, li_258, li_259, li_260, li_261, li_262, li_263, li_264, li_271, li_272, li_273, li_274, li_275, li_276, li_277, li_278, li_300, li_400, li_420, li_500, li_802, li_820, li_823, li_839, li_855, li_871, li_887, li_999, li_1000, li_1001, li_1002, li_1003, li_1004, li_1005, li_1006, li_1007, li_1008, li_1009, li_1010, li_1011, li_1012, li_1013, li_1014, li_1015, li_1016, li_1017, li_1018, li_1019, li_1020, li_1021, li_1022, li_1023, li_1707, li_4096, li_9999, li_65536, li_100000, li_1000000, li_1664525, li_100000000, li_252645135, li_858993459, li_1000000007, li_1013904223, li_1431655765, li_m1]
      rw [e_isIn, bd_s, hq, if_neg (by decide), h1]
    show Wp (if m 124 1 + a ≤ nI 9999 then _ else _) _
    obtain ⟨T, -, hT20, rfl⟩ := rng_of (by decide) (by decide) hq
    refine wp_ite (fun q => ?_) (fun q => ?_)
    · have O : Hok k (fun i => ovl (m 124) (m 126) i) (m 124) := ⟨hk, fun i hi => ⟨(hs i hi).2, sml_ovl G.1 (hs i hi).2, fun j hj => ovl_hi (by unfold hig at hj; omega)⟩⟩
      refine wp_mono (w_evsC hN hT20 H G O ⟨hp, e2, e1, fun i hi => (hs i hi).1⟩ h113) ?_
      rintro _ m1 ⟨rfl, H1, ⟨p1, c1, c2, c3, c4⟩, f1, t1⟩
      have e124 : m1 124 = m 124 := f1.at 124 (by decide)
      have e123 : m1 123 = m 123 := f1.at 123 (by decide)
      have e126 : m1 126 = m 126 := f1.at 126 (by decide)
      rw [eM m1 e124, if_pos q]
      refine wp_mono (w_evsM hN hT20 e124 G H.lawk O ⟨by rw [e123]; exact e3, fun i hi j hj => by rw [e126]; exact (ovl_lo hj).symm⟩) ?_
      rintro _ m2 ⟨rfl, h2, ⟨d1, d2⟩, j2, f2⟩
      obtain ⟨O', G', hh⟩ := evT_ok O G T
      refine ⟨rfl, hI.re (LN := LN) (H1.fr G'.1.sml f2 (by decide +kernel)) h2 G' ⟨_, p1, O'.1, c1, by rw [f2.at 48 (by decide)]; exact c2, by rw [f2.at 48 (by decide)]; exact c3, d1, fun i hi => ?_⟩ (fun c hc => ?_) ?_ ?_ (fun j hj => ?_)⟩
      · obtain ⟨l1, l2, l3⟩ := O'.2 i hi
        have eo : ∀ j, j < 37 ∨ hig j → ovl (evT LN k (fun i => ovl (m 124) (m 126) i) (m 124) T).2.2.1 (m2 126) i j = (evT LN k (fun i => ovl (m 124) (m 126) i) (m 124) T).2.1 i j := by
          intro j hj
          by_cases q : j < 37
          · rw [ovl_lo q]; exact d2 i hi j q
          · rw [ovl_hi (Nat.le_of_not_lt q)]
            exact (l3 j (hj.resolve_left q)).symm
        have hq6 : (p1 + 6 - (evT LN k (fun i => ovl (m 124) (m 126) i) (m 124) T).1 + i) % 6 < 6 := Nat.mod_lt _ (by decide)
        refine ⟨(c4 i hi).cg l2 (fun c h1 h2 => f2 c (fun q hq => ?_)) (fun j hj => eo j ?_), ?_⟩
        · simp only [List.mem_cons, List.not_mem_nil, or_false] at hq
          rcases hq with rfl | rfl | rfl <;> simp only <;> omega
        · unfold hig
          rcases hj with hj | hj | hj | rfl
          · simp [own] at hj; omega
          · simp [own] at hj; omega
          · simp [own] at hj; omega
          · omega
        · obtain ⟨y1, y2, y3, y4, y5⟩ := l1
          have ez : zh (ovl (evT LN k (fun i => ovl (m 124) (m 126) i) (m 124) T).2.2.1 (m2 126) i) = zh ((evT LN k (fun i => ovl (m 124) (m 126) i) (m 124) T).2.1 i) := by unfold zh; rw [eo 37 (by unfold hig; omega)]
          unfold lowW WFm
          have lh := l2.1
          rw [ez, eo 6 (by omega), eo 7 (by omega), eo 8 (by omega), eo 0 (by omega), eo 4 (by omega)]
          exact ⟨y1, y2, y3, fun h hh => by rw [eo (9 + h) (by omega)]; exact y4 h hh, y5⟩
      · rw [f2 c (fun q hq => by
          simp only [List.mem_cons, List.not_mem_nil, or_false] at hq
          rcases hq with rfl | rfl | rfl <;> simp only <;> omega), f1 c (fun q hq => by
          simp only [List.mem_cons, List.not_mem_nil, or_false] at hq
          rcases hq with rfl | rfl | rfl | rfl <;> simp only <;> omega)]
      · rw [f2.at 103 (by decide), f1.at 103 (by decide)]; exact ⟨rfl, rfl⟩
      · rw [f2.at 113 (by decide), t1, h113]
      · rw [j2 j (by omega) (by omega), e123]
    · refine wp_ret ?_
      rw [eM m rfl, if_neg q]
      exact wp_ret ⟨rfl, hI⟩
end EVS
