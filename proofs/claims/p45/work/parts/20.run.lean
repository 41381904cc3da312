/-! the class's steps -/
def opK (k : Nat) : Nat := if k = 23 then 4 else if k = 24 then 5 else if k = 25 then 2 else if k = 27 then 6 else if k = 28 then 7 else if k = 29 then 8 else if k = 30 then 9 else if k = 31 then 10 else 11
def trS (p : Spt) : List (Int32 × Int32) := if p.1 = 0 then [(nI 0, p.2)] else if p.1 ≤ 10 then [(nI 1, nI (p.1 - 1))] else if p.1 = 26 then [(nI 0, p.2), (nI 3, nI 0)] else [(nI (opK p.1), nI 0)]
def cdAt (a : Arr) : Nat → List (Int32 × Int32) → Prop
  | _, [] => True
  | x, p :: r => a (x * 2 + 0) = p.1 ∧ a (x * 2 + 1) = p.2 ∧ cdAt a (x + 1) r
theorem trS_len (p : Spt) : 1 ≤ (trS p).length ∧ (trS p).length ≤ 2 := by
  unfold trS
  split
  · simp
  · split
    · simp
    · split <;> simp
theorem e_joined {N k : Nat} {b a : Int32} (m : Mem) (hk : k = 23 ∨ k = 24 ∨ k = 25 ∨ k = 27 ∨ k = 28 ∨ k = 29 ∨ k = 31 ∨ k = 32) : f_X2_joined N (nI (opK k)) b a m = some (ev2 k b a, m) := by
  unfold f_X2_joined
  rcases hk with rfl | rfl | rfl | rfl | rfl | rfl | rfl | rfl
  · rw [swt_at 2 (by rw [nI_toInt (by decide)]; rfl) rfl]; rfl
  · rw [swt_at 3 (by rw [nI_toInt (by decide)]; rfl) rfl]; rfl
  · rw [swt_at 0 (by rw [nI_toInt (by decide)]; rfl) rfl]; rfl
  · rw [swt_at 4 (by rw [nI_toInt (by decide)]; rfl) rfl]; simp only [ev2]; split <;> rfl
  · rw [swt_at 5 (by rw [nI_toInt (by decide)]; rfl) rfl]; simp only [ev2]; split <;> rfl
  · rw [swt_at 6 (by rw [nI_toInt (by decide)]; rfl) rfl]; simp only [ev2]; split <;> rfl
  · rw [swt_at 8 (by rw [nI_toInt (by decide)]; rfl) rfl]; rfl
  · rw [swt_at 9 (by rw [nI_toInt (by decide)]; rfl) rfl]; rfl
theorem e_joinedP {N : Nat} {b a : Int32} (m : Mem) (h : a ≠ nI 0) : f_X2_joined N (nI 3) b a m = some (b / a, m) := by
  unfold f_X2_joined
  rw [swt_at 1 (by rw [nI_toInt (by decide)]; rfl) rfl, if_neg (show ¬ a = 0 from h), decide_eq_true (show a ≠ 0 from h)]; rfl
theorem opK_in {k : Nat} : 2 ≤ opK k ∧ opK k ≤ 11 ∧ (opK k = 9 ↔ k = 30) := by
  unfold opK
  repeat' split
  all_goals omega
section RUNS
variable {N e n : Nat} {a1 : Int32} {Kc : Int32 → Mem → Ans} {Q : Int32 → Mem → Prop}
/-- one step that pushes -/
theorem w_push {x z : Nat} {op v u : Int32} {m : Mem} {X : Int32 → Int32 → Mem → Ans} (hF : Fx m) (hn : m 13 3 = nI n) (hn4 : n ≤ 400) (hx : x < e) (he : e ≤ n) (g1 : m 14 (x * 2 + 0) = op) (g2 : m 14 (x * 2 + 1) = v) (hz : z < 22)
    (ho : (op = nI 0 ∧ u = v) ∨ ∃ i, i < 10 ∧ op = nI 1 ∧ v = nI i ∧ u = m 111 i) (k : Wp (X (nI (z + 1)) (nI (x + 1)) (mset m 112 z u)) Q) : Wp (f_X2_run_L5 N a1 (nI e) Kc X (nI z) (nI x) m) Q := by
  unfold f_X2_run_L5
  simp only [li_0, li_1, li_2, li_3, li_4, li_5, li_6, li_7, li_8, li_9, li_10, li_11, li_12, li_13, li_14, li_15, li_16, li_17, li_18, li_19, li_20, li_21, li_22, li_23, li_24, li_25, li_26, li_27, li_28, li_29, li_30, li_31, li_32, li_37, li_38, li_39, li_40, li_41, li_42, li_43, li_44, li_45, li_46, li_47, li_48, li_49, li_50, li_57, li_59, li_60, li_61, li_62, li_63, li_64, li_65, li_69, li_81, li_89, li_90, li_92, li_97, li_99, li_100, li_101, li_103, li_104, li_105, li_106, li_108, li_111, li_112, li_113, li_114, li_115, li_116, li_117, li_119, li_122, li_123, li_124, li_125, li_126, li_127, li_128, li_129, li_130, li_131, li_132, li_133, li_134, li_135, li_136, li_137, li_140, li_141, li_142, li_143, li_145, li_147, li_150, li_153, li_159, li_160, li_161, li_162, li_185, li_197, li_213, li_222, li_223, li_255, li_256, li_257, li_258, li_259, li_260, li_261, li_262, li_263, li_264, li_271, li_272, li_273, li_274, li_275, li_276, li_277, li_278, li_300, li_400, li_420, li_500, li_802, li_820, li_823, li_839, li_855, li_871, li_887, li_999, li_1000, li_1001, li_1002, li_1003, li_1004, li_1005, li_1006, li_1007, li_1008, li_1009, li_1010, li_1011, li_1012, li_1013, li_1014, li_1015, li_1016, li_1017, li_1018, li_1019, li_1020, li_1021, li_1022, li_1023, li_1707, li_4096, li_9999, li_65536, li_100000, li_1000000, li_1664525, li_100000000, li_252645135, li_858993459, li_1000000007, li_1013904223, li_1431655765, li_m1]
  rw [if_neg (nI_ge (by omega) (by omega)), e_at hF (show (13, 400, 2) ∈ tbs by decide) hn hn4 (by omega) (by decide), bd_s, e_at hF (show (13, 400, 2) ∈ tbs by decide) hn hn4 (by omega) (by decide), bd_s, g1, g2]
  rcases ho with ⟨rfl, rfl⟩ | ⟨i, hi, rfl, rfl, rfl⟩
  · rw [if_pos rfl]
    unfold f_X2_run_J52
    simp only [li_0, li_1, li_2, li_3, li_4, li_5, li_6, li_7, li_8, li_9, li_10, li_11, li_12, li_13, li_14, li_15, li_16, li_17, li_18, li_19, li_20, li_21, li_22, li_23, li_24, li_25, li_26, li_27, li_28, li_29, li_30, li_31, li_32, li_37, li_38, li_39, li_40, li_41, li_42, li_43, li_44, li_45, li_46, li_47, li_48, li_49, li_50, li_57, li_59, li_60, li_61, li_62, li_63, li_64, li_65, li_69, li_81, li_89, li_90, li_92, li_97, li_99, li_100, li_101, li_103, li_104, li_105, li_106, li_108, li_111, li_112, li_113, li_114, li_115, li_116, li_117, li_119, li_122, li_123, li_124, li_125, li_126, li_127, li_128, li_129, li_130, li_131, li_132, li_133, li_134, li_135, li_136, li_137, li_140, li_141, li_142, li_143, li_145, li_147, li_150, li_153, li_159, li_160, li_161, li_162, li_185, li_197, li_213, li_222, li_223, li_255, li_256, li_257, li_258, li_259, li_260, li_261, li_262, li_263, li_264, li_271, li_272, li_273, li_274, li_275, li_276, li_277, li_278, li_300, li_400, li_420, li_500, li_802, li_820, li_823, li_839, li_855, li_871, li_887, li_999, li_1000, li_1001, li_1002, li_1003, li_1004, li_1005, li_1006, li_1007, li_1008, li_1009, li_1010, li_1011, li_1012, li_1013, li_1014, li_1015, li_1016, li_1017, li_1018, li_1019, li_1020, li_1021, li_1022, li_1023, li_1707, li_4096, li_9999, li_65536, li_100000, li_1000000, li_1664525, li_100000000, li_252645135, li_858993459, li_1000000007, li_1013904223, li_1431655765, li_m1]
    rw [if_neg (nI_no0 (by omega)), if_pos (nI_lt (by omega) (by omega)), if_pos trivial, inb_nI (by omega) (by omega), chk_t, nI_clamp (by omega), bnd_s, nI_up, nI_up]
    exact k
  · rw [if_neg (nI_ne (by decide) (by decide) (by decide)), if_pos rfl]
    unfold f_X2_run_J52 f_X2_answer
    simp only [li_0, li_1, li_2, li_3, li_4, li_5, li_6, li_7, li_8, li_9, li_10, li_11, li_12, li_13, li_14, li_15, li_16, li_17, li_18, li_19, li_20, li_21, li_22, li_23, li_24, li_25, li_26, li_27, li_28, li_29, li_30, li_31, li_32, li_37, li_38, li_39, li_40, li_41, li_42, li_43, li_44, li_45, li_46, li_47, li_48, li_49, li_50, li_57, li_59, li_60, li_61, li_62, li_63, li_64, li_65, li_69, li_81, li_89, li_90, li_92, li_97, li_99, li_100, li_101, li_103, li_104, li_105, li_106, li_108, li_111, li_112, li_113, li_114, li_115, li_116, li_117, li_119, li_122, li_123, li_124, li_125, li_126, li_127, li_128, li_129, li_130, li_131, li_132, li_133, li_134, li_135, li_136, li_137, li_140, li_141, li_142, li_143, li_145, li_147, li_150, li_153, li_159, li_160, li_161, li_162, li_185, li_197, li_213, li_222, li_223, li_255, li_256, li_257, li_258, li_259, li_260, li_261, li_262, li_263, li_264, li_271, li_272, li_273, li_274, li_275, li_276, li_277, li_278, li_300, li_400, li_420, li_500, li_802, li_820, li_823, li_839, li_855, li_871, li_887, li_999, li_1000, li_1001, li_1002, li_1003, li_1004, li_1005, li_1006, li_1007, li_1008, li_1009, li_1010, li_1011, li_1012, li_1013, li_1014, li_1015, li_1016, li_1017, li_1018, li_1019, li_1020, li_1021, li_1022, li_1023, li_1707, li_4096, li_9999, li_65536, li_100000, li_1000000, li_1664525, li_100000000, li_252645135, li_858993459, li_1000000007, li_1013904223, li_1431655765, li_m1]
    rw [if_neg (nI_no0 (by omega)), if_pos (nI_lt (by omega) (by omega)), if_neg (nI_ne (by decide) (by decide) (by decide)), if_neg (nI_no0 (by omega)), if_neg (nI_ge (by omega) (by omega)), inb_nI (by omega) (by omega), chk_t, nI_clamp (by omega), bd_s,
      inb_nI (by omega) (by omega), chk_t, nI_clamp (by omega), bnd_s, nI_up, nI_up]
    exact k
/-- one step that joins two -/
theorem w_join {x z o : Nat} {u : Int32} {m : Mem} {X : Int32 → Int32 → Mem → Ans} (hF : Fx m) (hn : m 13 3 = nI n) (hn4 : n ≤ 400) (hx : x < e) (he : e ≤ n) (g1 : m 14 (x * 2 + 0) = nI o) (hz : z < 21) (ho : 2 ≤ o ∧ o ≤ 11 ∧ o ≠ 9)
    (hj : f_X2_joined N (nI o) (m 112 z) (m 112 (z + 1)) m = some (u, m)) (k : Wp (X (nI (z + 1)) (nI (x + 1)) (mset m 112 z u)) Q) : Wp (f_X2_run_L5 N a1 (nI e) Kc X (nI (z + 2)) (nI x) m) Q := by
  unfold f_X2_run_L5
  simp only [li_0, li_1, li_2, li_3, li_4, li_5, li_6, li_7, li_8, li_9, li_10, li_11, li_12, li_13, li_14, li_15, li_16, li_17, li_18, li_19, li_20, li_21, li_22, li_23, li_24, li_25, li_26, li_27, li_28, li_29, li_30, li_31, li_32, li_37, li_38, li_39, li_40, li_41, li_42, li_43, li_44, li_45, li_46, li_47, li_48, li_49, li_50, li_57, li_59, li_60, li_61, li_62, li_63, li_64, li_65, li_69, li_81, li_89, li_90, li_92, li_97, li_99, li_100, li_101, li_103, li_104, li_105, li_106, li_108, li_111, li_112, li_113, li_114, li_115, li_116, li_117, li_119, li_122, li_123, li_124, li_125, li_126, li_127, li_128, li_129, li_130, li_131, li_132, li_133, li_134, li_135, li_136, li_137, li_140, li_141, li_142, li_143, li_145, li_147, li_150, li_153, li_159, li_160, li_161, li_162, li_185, li_197, li_213, li_222, li_223, li_255, li_256, li_257, li_258, li_259, li_260, li_261, li_262, li_263, li_264, li_271, li_272, li_273, li_274, li_275, li_276, li_277, li_278, li_300, li_400, li_420, li_500, li_802, li_820, li_823, li_839, li_855, li_871, li_887, li_999, li_1000, li_1001, li_1002, li_1003, li_1004, li_1005, li_1006, li_1007, li_1008, li_1009, li_1010, li_1011, li_1012, li_1013, li_1014, li_1015, li_1016, li_1017, li_1018, li_1019, li_1020, li_1021, li_1022, li_1023, li_1707, li_4096, li_9999, li_65536, li_100000, li_1000000, li_1664525, li_100000000, li_252645135, li_858993459, li_1000000007, li_1013904223, li_1431655765, li_m1]
  rw [if_neg (nI_ge (by omega) (by omega)), e_at hF (show (13, 400, 2) ∈ tbs by decide) hn hn4 (by omega) (by decide), bd_s, e_at hF (show (13, 400, 2) ∈ tbs by decide) hn hn4 (by omega) (by decide), bd_s, g1,
    if_neg (nI_ne (by omega) (by omega) (by omega)), if_neg (nI_ne (by omega) (by omega) (by omega)), if_neg (nI_ne (by omega) (by omega) (by omega)), if_neg (nI_nlt (by omega) (by omega)), if_pos (nI_le (by omega) (by omega)),
    show nI (z + 2) - nI 2 = nI z from pk_sub (by omega), show nI (z + 2) - nI 1 = nI (z + 1) from pk_sub (by omega), inb_nI (by omega) (by omega), chk_t, inb_nI (by omega) (by omega), chk_t, nI_clamp (by omega), nI_clamp (by omega), hj, bd_s, chk_t, bnd_s, nI_up, show nI (z + 2) + mo1 = nI (z + 1) from pk_m1 _]
  exact k
/-- a not -/
theorem w_not {x z : Nat} {m : Mem} {X : Int32 → Int32 → Mem → Ans} (hF : Fx m) (hn : m 13 3 = nI n) (hn4 : n ≤ 400) (hx : x < e) (he : e ≤ n) (g1 : m 14 (x * 2 + 0) = nI 9) (hz : z < 22) (h01 : m 112 z = 0 ∨ m 112 z = 1)
    (k : Wp (X (nI (z + 1)) (nI (x + 1)) (mset m 112 z (1 - m 112 z))) Q) : Wp (f_X2_run_L5 N a1 (nI e) Kc X (nI (z + 1)) (nI x) m) Q := by
  unfold f_X2_run_L5
  simp only [li_0, li_1, li_2, li_3, li_4, li_5, li_6, li_7, li_8, li_9, li_10, li_11, li_12, li_13, li_14, li_15, li_16, li_17, li_18, li_19, li_20, li_21, li_22, li_23, li_24, li_25, li_26, li_27, li_28, li_29, li_30, li_31, li_32, li_37, li_38, li_39, li_40, li_41, li_42, li_43, li_44, li_45, li_46, li_47, li_48, li_49, li_50, li_57, li_59, li_60, li_61, li_62, li_63, li_64, li_65, li_69, li_81, li_89, li_90, li_92, li_97, li_99, li_100, li_101, li_103, li_104, li_105, li_106, li_108, li_111, li_112, li_113, li_114, li_115, li_116, li_117, li_119, li_122, li_123, li_124, li_125, li_126, li_127, li_128, li_129, li_130, li_131, li_132, li_133, li_134, li_135, li_136, li_137, li_140, li_141, li_142, li_143, li_145, li_147, li_150, li_153, li_159, li_160, li_161, li_162, li_185, li_197, li_213, li_222, li_223, li_255, li_256, li_257, li_258, li_259, li_260, li_261, li_262, li_263, li_264, li_271, li_272, li_273, li_274, li_275, li_276, li_277, li_278, li_300, li_400, li_420, li_500, li_802, li_820, li_823, li_839, li_855, li_871, li_887, li_999, li_1000, li_1001, li_1002, li_1003, li_1004, li_1005, li_1006, li_1007, li_1008, li_1009, li_1010, li_1011, li_1012, li_1013, li_1014, li_1015, li_1016, li_1017, li_1018, li_1019, li_1020, li_1021, li_1022, li_1023, li_1707, li_4096, li_9999, li_65536, li_100000, li_1000000, li_1664525, li_100000000, li_252645135, li_858993459, li_1000000007, li_1013904223, li_1431655765, li_m1]
  rw [if_neg (nI_ge (by omega) (by omega)), e_at hF (show (13, 400, 2) ∈ tbs by decide) hn hn4 (by omega) (by decide), bd_s, e_at hF (show (13, 400, 2) ∈ tbs by decide) hn hn4 (by omega) (by decide), bd_s, g1,
    if_neg (nI_ne (by decide) (by decide) (by decide)), if_neg (nI_ne (by decide) (by decide) (by decide)), if_pos rfl, if_neg (nI_nlt (by omega) (by omega)), if_pos (nI_le (by omega) (by omega)), nI_dn, inb_nI (by omega) (by omega), chk_t, nI_clamp (by omega), chk_t, bnd_s, bnd_s, nI_up]
  rcases h01 with h | h
  · rw [h] at k
    rw [if_pos (show m 112 z = nI 0 from h)]
    exact k
  · rw [h] at k
    rw [if_neg (by rw [h]; decide)]
    exact k
theorem w_runL {b : Bool} {fa : Arr} (hn4 : n ≤ 400) (he : e ≤ n) : ∀ (L : List Spt) (K x : Nat) (st : List Int32) (s : List Bool) (m : Mem), 2 * L.length < K → Fx m → m 13 3 = nI n → (∀ i, i < 10 → m 111 i = fa (i + 1)) → cdAt (m 14) x (L.flatMap trS) → x + (L.flatMap trS).length = e → Stk (m 112) st → tcOk s st → tcS L s = some [b] → st.length ≤ 22 →
    (∀ m', Fr [(112, 112)] m m' → m' 112 0 = (evS fa L st).headD 0 → Wp (Kc (nI 1) m') Q) → Wp (it2 (f_X2_run_L5 N a1 (nI e) Kc) K (nI st.length) (nI x) m) Q
  | _, 0, _, _, _, _, h, _, _, _, _, _, _, _, _, _, _ => absurd h (by omega)
  | [], K + 1, x, st, s, m, hK, hF, hn, hfa, hc, hx, hS, ho, hty, hl, k => by
    cases hty
    have := tcOk_len ho
    match st, this, hS, k with
    | [y], _, hS, k =>
      rw [it2_s]
      unfold f_X2_run_L5
      simp only [List.flatMap_nil, List.length_nil] at hx
      rw [if_pos (nI_le (by omega) (by omega))]
      exact k m Fr.rf hS.1
  | p :: L, K + 1, x, st, s, m, hK, hF, hn, hfa, hc, hx, hS, ho, hty, hl, k => by
    simp only [List.length_cons] at hK
    rw [List.flatMap_cons] at hc hx
    rw [List.length_append] at hx
    unfold tcS at hty
    cases hq : tc1 p.1 p.2 s with
    | none => rw [hq] at hty; cases hty
    | some u =>
    rw [hq] at hty
    have hty : tcS L u = some [b] := hty
    have hou := tc1_ok fa hq ho
    have next : ∀ (K1 x1 : Nat) (m1 : Mem), 2 * L.length < K1 → Fr [(112, 112)] m m1 → cdAt (m 14) x1 (L.flatMap trS) → x1 + (L.flatMap trS).length = e → Stk (m1 112) (ev1 fa p.1 p.2 st) → (ev1 fa p.1 p.2 st).length ≤ 22 →
        Wp (it2 (f_X2_run_L5 N a1 (nI e) Kc) K1 (nI (ev1 fa p.1 p.2 st).length) (nI x1) m1) Q := by
      intro K1 x1 m1 hK1 hfr hc1 hx1 hz hlen
      refine w_runL hn4 he L K1 x1 (ev1 fa p.1 p.2 st) u m1 hK1 (hF.fr hfr (by decide +kernel)) (by rw [hfr.at 13 (by decide)]; exact hn) (fun i hi => by rw [hfr.at 111 (by decide)]; exact hfa i hi) (by rw [hfr.at 14 (by decide)]; exact hc1) hx1 hz hou hty hlen (fun m' h1 h2 => k m' (Fr.trans hfr h1) h2)
    obtain ⟨K, rfl⟩ : ∃ K', K = K' + 1 := ⟨K - 1, by omega⟩
    have fs : ∀ (z : Nat) (v : Int32), Fr [(112, 112)] m (mset m 112 z v) := fun z v => Fr.set Fr.rf (by decide)
    rw [it2_s]
    refine tc1_cases fa hq ho ?_ ?_ ?_ ?_ ?_
    · rintro k0 - hlen ev
      have et : trS p = [(nI 0, p.2)] := by unfold trS; rw [if_pos k0]
      rw [et] at hc hx
      simp only [List.length_cons, List.length_nil] at hx
      refine w_push hF hn hn4 (by omega) he hc.1 hc.2.1 hlen (Or.inl ⟨rfl, rfl⟩) ?_
      have h2 := next (K + 1) (x + 1) (mset m 112 st.length p.2) (by omega) (fs _ _) hc.2.2 (by omega) (by rw [ev, mset_eq]; exact hS.push) (by rw [ev]; simp; omega)
      rw [ev] at h2
      exact h2
    · rintro k1 k2 - hlen ev
      have et : trS p = [(nI 1, nI (p.1 - 1))] := by unfold trS; rw [if_neg (by omega), if_pos k2]
      rw [et] at hc hx
      simp only [List.length_cons, List.length_nil] at hx
      have e1 : m 111 (p.1 - 1) = fa p.1 := by
        rw [hfa (p.1 - 1) (by omega), show p.1 - 1 + 1 = p.1 by omega]
      refine w_push hF hn hn4 (by omega) he hc.1 hc.2.1 hlen (Or.inr ⟨p.1 - 1, by omega, rfl, rfl, rfl⟩) ?_
      have h2 := next (K + 1) (x + 1) (mset m 112 st.length (m 111 (p.1 - 1))) (by omega) (fs _ _) hc.2.2 (by omega) (by rw [ev, mset_eq, e1]; exact hS.push) (by rw [ev]; simp; omega)
      rw [ev] at h2
      exact h2
    · rintro a r t k0 hv rfl ht - hlen ev
      have et : trS p = [(nI 0, p.2), (nI 3, nI 0)] := by unfold trS; rw [if_neg (by omega), if_neg (by omega), if_pos k0]
      rw [et] at hc hx
      simp only [List.length_cons, List.length_nil] at hx hl
      obtain ⟨c1, c2, c3, c4, c5⟩ := hc
      refine w_push (z := r.length + 1) hF hn hn4 (by omega) he c1 c2 (by omega) (Or.inl ⟨rfl, rfl⟩) ?_
      rw [it2_s]
      have hj : f_X2_joined N (nI 3) (mset m 112 (r.length + 1) p.2 112 r.length) (mset m 112 (r.length + 1) p.2 112 (r.length + 1)) (mset m 112 (r.length + 1) p.2) = some (a / p.2, mset m 112 (r.length + 1) p.2) := by
        rw [mset_at, mset_j (by omega), show m 112 r.length = a from hS.1]
        exact e_joinedP _ hv
      refine w_join (z := r.length) (hF.out (by decide)) (by rw [mset_ne (by decide)]; exact hn) hn4 (by omega) he (by rw [mset_ne (by decide)]; exact c3) (by omega) (by omega) hj ?_
      have h2 := next K (x + 1 + 1) (mset (mset m 112 (r.length + 1) p.2) 112 r.length (a / p.2)) (by omega) (Fr.set (fs _ _) (by decide)) c5 (by omega) (by rw [ev, mset_eq, mset_eq]; exact (hS.2.up (by omega)).push) (by rw [ev]; simp; omega)
      rw [ev] at h2
      exact h2
    · rintro a r t k0 rfl ha ht - ev
      have et : trS p = [(nI 9, nI 0)] := by unfold trS; rw [if_neg (by omega), if_neg (by omega), if_neg (by omega), k0]; rfl
      rw [et] at hc hx
      simp only [List.length_cons, List.length_nil] at hx hl
      have e1 : m 112 r.length = a := hS.1
      refine w_not (z := r.length) hF hn hn4 (by omega) he hc.1 (by omega) (by rw [e1]; exact ha) ?_
      rw [e1]
      have h2 := next (K + 1) (x + 1) (mset m 112 r.length (1 - a)) (by omega) (fs _ _) hc.2.2 (by omega) (by rw [ev, mset_eq]; exact Stk.push hS.2) (by rw [ev]; simp; omega)
      rw [ev] at h2
      exact h2
    · rintro a b2 r t y k0 rfl ht - hy ev
      have et : trS p = [(nI (opK p.1), nI 0)] := by unfold trS; rw [if_neg (by omega), if_neg (by omega), if_neg (by omega)]
      rw [et] at hc hx
      simp only [List.length_cons, List.length_nil] at hx hl
      have o := opK_in (k := p.1)
      have hj : f_X2_joined N (nI (opK p.1)) (m 112 r.length) (m 112 (r.length + 1)) m = some (ev2 p.1 b2 a, m) := by
        rw [show m 112 (r.length + 1) = a from hS.1, show m 112 r.length = b2 from hS.2.1]
        exact e_joined m k0
      refine w_join (z := r.length) hF hn hn4 (by omega) he hc.1 (by omega) (by omega) hj ?_
      have h2 := next (K + 1) (x + 1) (mset m 112 r.length (ev2 p.1 b2 a)) (by omega) (fs _ _) hc.2.2 (by omega) (by rw [ev, mset_eq]; exact Stk.push hS.2.2) (by rw [ev]; simp; omega)
      rw [ev] at h2
      exact h2
end RUNS
theorem flat_len : ∀ L : List Spt, L.length ≤ (L.flatMap trS).length
  | [] => Nat.le_refl _
  | p :: L => by
    rw [List.flatMap_cons, List.length_append, List.length_cons]
    have := flat_len L
    have := (trS_len p).1
    omega
theorem w_run {N x n : Nat} {b : Bool} {L : List Spt} {m : Mem} {fa : Arr} (hN : 20000 ≤ N) (hF : Fx m) (hn : m 13 3 = nI n) (hn4 : n ≤ 400) (hfa : ∀ i, i < 10 → m 111 i = fa (i + 1)) (hc : cdAt (m 14) x (L.flatMap trS)) (he : x + (L.flatMap trS).length ≤ n) (hty : tcS L [] = some [b]) :
    Wp (f_X2_run N (nI x) (nI (x + (L.flatMap trS).length)) m) (fun v m' => v = (evS fa L []).headD 0 ∧ Fr [(112, 112)] m m') := by
  unfold f_X2_run
  have := flat_len L
  refine w_runL hn4 he L N x [] [] m (by omega) hF hn hfa hc rfl trivial trivial hty (by simp) ?_
  intro m' hfr hv
  simp only [li_0, li_1, li_2, li_3, li_4, li_5, li_6, li_7, li_8, li_9, li_10, li_11, li_12, li_13, li_14, li_15, li_16, li_17, li_18, li_19, li_20, li_21, li_22, li_23, li_24, li_25, li_26, li_27, li_28, li_29, li_30, li_31, li_32, li_37, li_38, li_39, li_40, li_41, li_42, li_43, li_44, li_45, li_46, li_47, li_48, li_49, li_50, li_57, li_59, li_60, li_61, li_62, li_63, li_64, li_65, li_69, li_81, li_89, li_90, li_92, li_97, li_99, li_100, li_101, li_103, li_104, li_105, li_106, li_108, li_111, li_112, li_113, li_114, li_115, li_116, li_117, li_119, li_122, li_123, li_124, li_125, li_126, li_127, li_128, li_129, li_130, li_131, li_132, li_133, li_134, li_135, li_136, li_137, li_140, li_141, li_142, li_143, li_145, li_147, li_150, li_153, li_159, li_160, li_161, li_162, li_185, li_197, li_213, li_222, li_223, li_255, li_256, li_257, li_258, li_259, li_260, li_261, li_262, li_263, li_264, li_271, li_272, li_273, li_274, li_275, li_276, li_277, li_278, li_300, li_400, li_420, li_500, li_802, li_820, li_823, li_839, li_855, li_871, li_887, li_999, li_1000, li_1001, li_1002, li_1003, li_1004, li_1005, li_1006, li_1007, li_1008, li_1009, li_1010, li_1011, li_1012, li_1013, li_1014, li_1015, li_1016, li_1017, li_1018, li_1019, li_1020, li_1021, li_1022, li_1023, li_1707, li_4096, li_9999, li_65536, li_100000, li_1000000, li_1664525, li_100000000, li_252645135, li_858993459, li_1000000007, li_1013904223, li_1431655765, li_m1]
  rw [if_neg (nI_ge (by decide) (by decide)), if_neg (nI_nlt (by decide) (by decide)), show nI 1 - nI 1 = nI 0 from rfl, inb_nI (by decide) (by decide), chk_t, nI_clamp (by decide)]
  exact wp_ret ⟨hv, hfr⟩
