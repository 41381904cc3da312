/-! THE LAW as lines: how it lies on both sides, what it says -/
abbrev Lin : Type := Nat × List Spt × List Spt
def lnOk (l : Lin) : Prop := l.1 < 3 ∧ tcS l.2.1 [] = some [false] ∧ (l.2.2 = [] ∨ tcS l.2.2 [] = some [true])
def lnW (w : Arr) (i f : Nat) (l : Lin) : Prop := w (823 + i) = nI f ∧ w (839 + i) = nI (f + l.2.1.length) ∧ w (855 + i) = nI (f + l.2.1.length + l.2.2.length) ∧ w (871 + i) = nI (20 + l.1) ∧ f + l.2.1.length + l.2.2.length ≤ 400 ∧ stAt w f l.2.1 ∧ stAt w (f + l.2.1.length) l.2.2
def lawW (w : Arr) (LN : List Lin) : Prop := w 40 = nI LN.length ∧ LN.length ≤ 16 ∧ ∀ i l, LN[i]? = some l → ∃ f, lnW w i f l
def flt (L : List Spt) : List (Int32 × Int32) := L.flatMap trS
def lnC (m : Mem) (t i c n : Nat) (l : Lin) : Prop := m (t + 1) (i * 4 + 0) = nI (256 + l.1) ∧ m (t + 1) (i * 4 + 1) = nI c ∧ m (t + 1) (i * 4 + 2) = nI (c + (flt l.2.1).length) ∧ m (t + 1) (i * 4 + 3) = nI (c + (flt l.2.1).length + (flt l.2.2).length) ∧
  c + (flt l.2.1).length + (flt l.2.2).length ≤ n ∧ cdAt (m (t + 3)) c (flt l.2.1) ∧ cdAt (m (t + 3)) (c + (flt l.2.1).length) (flt l.2.2)
def lawC (t : Nat) (m : Mem) (LN : List Lin) : Prop := m t 3 = nI LN.length ∧ ∃ n, n ≤ 400 ∧ m (t + 2) 3 = nI n ∧ ∀ i l, LN[i]? = some l → ∃ c, lnC m t i c n l
def lawOk (LN : List Lin) : Prop := LN.length ≤ 16 ∧ ∀ l ∈ LN, lnOk l
def sayL (fa : Arr) (word : Nat) : List Lin → Option Int32
  | [] => none
  | l :: r => if l.1 = word ∧ (l.2.2 = [] ∨ (evS fa l.2.2 []).headD 0 = 1) then some ((evS fa l.2.1 []).headD 0) else sayL fa word r
def clm (b : Nat) (x : Int32) : Nat := min b x.toInt.toNat
theorem clm_le (b : Nat) (x : Int32) : clm b x ≤ b := Nat.min_le_left _ _
theorem clm_neg {b : Nat} {x : Int32} (h : x < 0) : clm b x = 0 := by
  unfold clm
  have : x.toInt < 0 := Int32.lt_iff_toInt_lt.mp h
  rw [Int.toNat_of_nonpos (by omega)]
  exact Nat.min_eq_right (Nat.zero_le _)
theorem clm_nI {b k : Nat} (h : k < 2 ^ 31) : clm b (nI k) = min b k := by
  unfold clm
  rw [nI_toInt h]; rfl
theorem clm_held {b : Nat} (hb : b < 2 ^ 31) (x : Int32) : (if nI 0 < (if x < nI b then x else nI b) then (if x < nI b then x else nI b) else nI 0) = nI (clm b x) := by
  rcases pk_ix x (n := 2 ^ 31 - 1) (by decide) with h | h | ⟨k, hk, rfl⟩
  · have h1 : x < nI b := by
      refine Int32.lt_iff_toInt_lt.mpr ?_
      have : x.toInt < 0 := Int32.lt_iff_toInt_lt.mp h
      rw [nI_toInt hb]; omega
    rw [if_pos h1, if_neg (show ¬ nI 0 < x from fun q => Int32.lt_irrefl (Int32.lt_trans q h)), clm_neg h]
  · have : x = nI (2 ^ 31 - 1) := by
      have h1 := Int32.le_iff_toInt_le.mp h
      rw [nI_toInt (by decide)] at h1
      have h2 := Int32.toInt_lt x
      refine Int32.toInt_inj.mp ?_
      rw [nI_toInt (by decide)]
      omega
    subst this
    rw [clm_nI (by decide)]
    by_cases hq : 2 ^ 31 - 1 < b
    · omega
    · rw [if_neg (nI_nlt (by omega) (by decide)), Nat.min_eq_left (by omega)]
      by_cases h0 : b = 0
      · subst h0; rfl
      · rw [if_pos (nI_lt (by omega) (by omega))]
  · rw [clm_nI (by omega)]
    by_cases hq : k < b
    · rw [if_pos (nI_lt hq (by omega)), Nat.min_eq_right (by omega)]
      by_cases h0 : k = 0
      · subst h0; rfl
      · rw [if_pos (nI_lt (by omega) (by omega))]
    · rw [if_neg (nI_nlt (by omega) (by omega)), Nat.min_eq_left (by omega)]
      by_cases h0 : b = 0
      · subst h0; rfl
      · rw [if_pos (nI_lt (by omega) (by omega))]
theorem if_flip {α : Type} {a b : Int32} (x y : α) : (if a ≤ b then x else y) = (if b < a then y else x) := by
  by_cases h : a ≤ b
  · rw [if_pos h, if_neg (Int32.not_lt.mpr h)]
  · rw [if_neg h, if_pos (Int32.not_le.mp h)]
theorem min_sym {x y : Int32} : (if x ≤ y then x else y) = (if x < y then x else y) := by
  by_cases h : x < y
  · rw [if_pos h, if_pos (Int32.le_of_lt h)]
  · rw [if_neg h]
    split
    · rename_i h2
      exact Int32.le_antisymm h2 (Int32.not_lt.mp h)
    · rfl
theorem e_lesser {N : Nat} {a b : Int32} (m : Mem) : f_X12_lesser N a b m = some (if b < a then b else a, m) := by
  unfold f_X12_lesser
  rw [← min_sym]
  split <;> rfl
theorem max_sym {x y : Int32} : (if x ≤ y then y else x) = (if x < y then y else x) := by
  by_cases h : x < y
  · rw [if_pos h, if_pos (Int32.le_of_lt h)]
  · rw [if_neg h]
    split
    · rename_i h2
      exact Int32.le_antisymm (Int32.not_lt.mp h) h2
    · rfl
theorem e_greater {N : Nat} {a b : Int32} (m : Mem) : f_X12_greater N a b m = some (if a < b then b else a, m) := by
  unfold f_X12_greater
  rw [← max_sym]
  split <;> rfl
theorem ev1_cg {fa fb : Arr} {k : Nat} {v : Int32} {s s' : List Bool} {st : List Int32} (hf : ∀ i, i < 10 → fa (i + 1) = fb (i + 1)) (h : tc1 k v s = some s') (ho : tcOk s st) : ev1 fa k v st = ev1 fb k v st := by
  have e : ∀ j, 1 ≤ j → j ≤ 10 → fa j = fb j := fun j h1 h2 => by
    have := hf (j - 1) (by omega)
    rw [show j - 1 + 1 = j by omega] at this
    exact this
  cases st with
  | nil =>
    cases s with
    | cons _ _ => exact ho.elim
    | nil =>
      simp only [tc1] at h
      split at h
      · simp only [ev1]
        split
        · rfl
        · rw [e k (by omega) (by omega)]
      · cases h
  | cons a r =>
    simp only [ev1]
    split
    · rfl
    · split
      · rw [e k (by omega) (by omega)]
      · rfl
theorem evS_cg {fa fb : Arr} (hf : ∀ i, i < 10 → fa (i + 1) = fb (i + 1)) : ∀ {L : List Spt} {s s' : List Bool} {st : List Int32}, tcS L s = some s' → tcOk s st → evS fa L st = evS fb L st
  | [], _, _, _, _, _ => rfl
  | p :: r, s, s', st, h, ho => by
    unfold tcS at h
    cases hq : tc1 p.1 p.2 s with
    | none => rw [hq] at h; cases h
    | some u =>
      rw [hq] at h
      have h : tcS r u = some s' := h
      show evS fa r (ev1 fa p.1 p.2 st) = evS fb r (ev1 fb p.1 p.2 st)
      rw [← ev1_cg hf hq ho]
      exact evS_cg hf h (tc1_ok fa hq ho)
theorem ev_01 {fa : Arr} {L : List Spt} (h : tcS L [] = some [true]) : (evS fa L []).headD 0 = 0 ∨ (evS fa L []).headD 0 = 1 := by
  have := tcS_ok fa h (st := []) trivial
  match evS fa L [], this with
  | [x], q => exact q.1 rfl
theorem get_drop {α : Type} {L : List α} {i : Nat} {l : α} (h : L[i]? = some l) : L.drop i = l :: L.drop (i + 1) := by
  obtain ⟨hi, rfl⟩ := List.getElem?_eq_some_iff.mp h
  exact List.drop_eq_getElem_cons hi
theorem get_lt {α : Type} {L : List α} {i : Nat} (h : i < L.length) : ∃ l, L[i]? = some l := ⟨_, List.getElem?_eq_getElem h⟩
/-! the reference's says -/
def sayV (most : Nat) (wo : Int32) (o : Option Int32) : Nat := match o with
  | some x => clm most x
  | none => clm most wo
theorem w_says {N word most : Nat} {wo : Int32} {LN : List Lin} {m : Mem} {fa : Arr} (hN : 20000 ≤ N) (hw : lawW (m 124) LN) (ho : lawOk LN) (hword : word < 3) (hmost : most < 2 ^ 31) (hfa : ∀ i, i < 10 → m 133 (i + 1) = fa (i + 1)) :
    Wp (f_X12_says N (nI (20 + word)) wo (nI most) m) (fun v m' => v = nI (sayV most wo (sayL fa word LN)) ∧ Fr [(132, 132)] m m') := by
  obtain ⟨h40, h16, hln⟩ := hw
  unfold f_X12_says
  refine wp_it1 (fun n a m' => ∃ i, i ≤ LN.length ∧ n = LN.length - i ∧ a = nI i ∧ Fr [(132, 132)] m m' ∧ sayL fa word LN = sayL fa word (LN.drop i)) ?_ N LN.length _ _ (by omega) ⟨0, by omega, rfl, rfl, Fr.rf, rfl⟩
  rintro n X a m' ⟨i, hi, rfl, rfl, hfr, hs⟩ hX
  have e124 : m' 124 = m 124 := hfr.at 124 (by decide)
  have e133 : m' 133 = m 133 := hfr.at 133 (by decide)
  unfold f_X12_says_L3
  simp only [li_0, li_1, li_2, li_3, li_4, li_5, li_6, li_7, li_8, li_9, li_10, li_11, li_12, li_13, li_14, li_15, li_16, li_17, li_18, li_19, li_20, li_21, li_22, li_23, li_24, li_25, li_26, li_27, li_28, li_29, li_30, li_31, li_32, li_37, li_38, li_39, li_40, li_41, li_42, li_43, li_44, li_45, li_46, li_47, li_48, li_49, li_50, li_57, li_59, li_60, li_61, li_62, li_63, li_64, li_65, li_69, li_81, li_89, li_90, li_92, li_97, li_99, li_100, li_101, li_103, li_104, li_105, li_106, li_108, li_111, li_112, li_113, li_114, li_115, li_116, li_117, li_119, li_122, li_123, li_124, li_125, li_126, li_127, li_128, li_129, li_130, li_131, li_132, li_133, li_134, li_135, li_136, li_137, li_140, li_141, li_142, li_143, li_145, li_147, li_150, li_153, li_159, li_160, li_161, li_162, li_185, li_197, li_213, li_222, li_223, li_255, li_256, li_257, li_258, li_259, li_260, li_261, li_262, li_263, li_264, li_271, li_272, li_273, li_274, li_275, li_276, li_277, li_278, li_300, li_400, li_420, li_500, li_802, li_820, li_823, li_839, li_855, li_871, li_887, li_999, li_1000, li_1001, li_1002, li_1003, li_1004, li_1005, li_1006, li_1007, li_1008, li_1009, li_1010, li_1011, li_1012, li_1013, li_1014, li_1015, li_1016, li_1017, li_1018, li_1019, li_1020, li_1021, li_1022, li_1023, li_1707, li_4096, li_9999, li_65536, li_100000, li_1000000, li_1664525, li_100000000, li_252645135, li_858993459, li_1000000007, li_1013904223, li_1431655765, li_m1, nI_add]
  rw [e124, h40]
  refine wp_ite (fun q => ?_) (fun q => ?_)
  · rw [nI_leI (by omega) (by omega)] at q
    rw [e_lesser, bd_s, e_greater, bd_s, clm_held hmost]
    refine wp_ret ⟨?_, hfr⟩
    rw [hs, List.drop_eq_nil_of_le q]; rfl
  · rw [nI_leI (by omega) (by omega)] at q
    obtain ⟨l, hl⟩ := get_lt (show i < LN.length by omega)
    obtain ⟨f, g1, g2, g3, g4, g5, g6, g7⟩ := hln i l hl
    have hok := ho.2 l (List.mem_of_getElem? hl)
    rw [get_drop hl] at hs
    have hskip : (∀ (h : ¬ (l.1 = word ∧ (l.2.2 = [] ∨ (evS fa l.2.2 []).headD 0 = 1))), ∀ m1, Fr [(132, 132)] m m1 → Wp (X (nI (i + 1)) m1) (fun v m' => v = nI (sayV most wo (sayL fa word LN)) ∧ Fr [(132, 132)] m m')) := by
      intro h m1 h1
      refine hX (LN.length - (i + 1)) _ _ (by omega) ⟨i + 1, by omega, rfl, rfl, h1, ?_⟩
      rw [hs]
      show (if _ then _ else _) = _
      rw [if_neg h]
    rw [inb_nI (by omega) (by omega), chk_t, nI_clamp (by omega), g4]
    refine wp_ite (fun q2 => ?_) (fun q2 => ?_)
    · have hwd : l.1 = word := by
        have := (nI_eq (by have := hok.1; omega) (by omega)).mp q2
        omega
      have hsay : ∀ (h : l.2.2 = [] ∨ (evS fa l.2.2 []).headD 0 = 1), ∀ m1, Fr [(132, 132)] m m1 →
          Wp (bd (f_X12_comesTo N (nI 0) (m1 124 (823 + i)) (m1 124 (839 + i)) m1) fun r_65 m_65 =>
            bd (f_X12_lesser N (nI most) r_65 m_65) fun r_68 m_68 => bd (f_X12_greater N (nI 0) r_68 m_68) fun r_71 m_71 => some (r_71, m_71)) (fun v m' => v = nI (sayV most wo (sayL fa word LN)) ∧ Fr [(132, 132)] m m') := by
        intro h m1 h1
        have e1 : m1 124 = m 124 := h1.at 124 (by decide)
        have e2 : m1 133 = m 133 := h1.at 133 (by decide)
        rw [e1, g1, g2]
        refine wp_bind (w_comesTo hN (by omega) (by rw [e1]; exact g6) hok.2.1) ?_
        rintro v m2 ⟨rfl, h2⟩
        rw [e_lesser, bd_s, e_greater, bd_s, clm_held hmost]
        refine wp_ret ⟨?_, h1.trans h2⟩
        rw [hs]
        show _ = nI (sayV most wo (if _ then _ else _))
        rw [if_pos ⟨hwd, h⟩, e2, evS_cg (st := []) hfa hok.2.1 trivial]
        rfl
      unfold f_X12_isSo
      simp only [li_0, li_1, li_2, li_3, li_4, li_5, li_6, li_7, li_8, li_9, li_10, li_11, li_12, li_13, li_14, li_15, li_16, li_17, li_18, li_19, li_20, li_21, li_22, li_23, li_24, li_25, li_26, li_27, li_28, li_29, li_30, li_31, li_32, li_37, li_38, li_39, li_40, li_41, li_42, li_43, li_44, li_45, li_46, li_47, li_48, li_49, li_50, li_57, li_59, li_60, li_61, li_62, li_63, li_64, li_65, li_69, li_81, li_89, li_90, li_92, li_97, li_99, li_100, li_101, li_103, li_104, li_105, li_106, li_108, li_111, li_112, li_113, li_114, li_115, li_116, li_117, li_119, li_122, li_123, li_124, li_125, li_126, li_127, li_128, li_129, li_130, li_131, li_132, li_133, li_134, li_135, li_136, li_137, li_140, li_141, li_142, li_143, li_145, li_147, li_150, li_153, li_159, li_160, li_161, li_162, li_185, li_197, li_213, li_222, li_223, li_255, li_256, li_257, li_258, li_259, li_260, li_261, li_262, li_263, li_264, li_271, li_272, li_273, li_274, li_275, li_276, li_277, li_278, li_300, li_400, li_420, li_500, li_802, li_820, li_823, li_839, li_855, li_871, li_887, li_999, li_1000, li_1001, li_1002, li_1003, li_1004, li_1005, li_1006, li_1007, li_1008, li_1009, li_1010, li_1011, li_1012, li_1013, li_1014, li_1015, li_1016, li_1017, li_1018, li_1019, li_1020, li_1021, li_1022, li_1023, li_1707, li_4096, li_9999, li_65536, li_100000, li_1000000, li_1664525, li_100000000, li_252645135, li_858993459, li_1000000007, li_1013904223, li_1431655765, li_m1, nI_add]
      rw [inb_nI (by omega) (by omega), chk_t, inb_nI (by omega) (by omega), chk_t, nI_clamp (by omega), nI_clamp (by omega), e124, g2, g3]
      by_cases hB : l.2.2 = []
      · have : l.2.2.length = 0 := by rw [hB]; rfl
        rw [if_pos (by rw [this]; rfl), bd_s, if_neg (nI_ne (by decide) (by decide) (by decide))]
        rw [inb_nI (by omega) (by omega), chk_t, chk_t, nI_clamp (by omega)]
        exact hsay (Or.inl hB) m' hfr
      · have hlen : 0 < l.2.2.length := List.length_pos_iff.mpr hB
        have hty : tcS l.2.2 [] = some [true] := hok.2.2.resolve_left hB
        rw [if_neg (nI_ne (by omega) (by omega) (by omega)), chk_t, chk_t]
        refine wp_bd (wp_bind (w_comesTo hN (by omega) (by rw [e124]; exact g7) hty) ?_)
        rintro v m2 ⟨rfl, h2⟩
        rw [e133, evS_cg (st := []) hfa hty trivial]
        rcases ev_01 (fa := fa) hty with h0 | h0
        · rw [if_neg (by rw [h0]; decide)]
          refine wp_ret ?_
          rw [if_pos rfl]
          exact hskip (fun z => by rcases z.2 with z | z; exact hB z; rw [h0] at z; cases z) m2 (hfr.trans h2)
        · rw [if_pos (by rw [h0]; rfl)]
          refine wp_ret ?_
          rw [if_neg (nI_ne (by decide) (by decide) (by decide))]
          rw [chk_t, inb_nI (by omega) (by omega), chk_t, nI_clamp (by omega)]
          exact hsay (Or.inr h0) m2 (hfr.trans h2)
    · exact hskip (fun z => q2 (by rw [z.1])) m' hfr
/-! the class's tell -/
theorem w_tell {N word : Nat} {LN : List Lin} {m : Mem} {fa : Arr} (hN : 20000 ≤ N) (hF : Fx m) (hc : lawC 11 m LN) (ho : lawOk LN) (hword : word < 3) (hfa : ∀ i, i < 10 → m 111 i = fa (i + 1)) :
    Wp (f_X2_tell N (nI (256 + word)) m) (fun v m' => v = (match sayL fa word LN with | some x => nI (clm (if word = 1 then 1000 else 99) x) | none => if word = 0 then fa 6 / nI 3 else if word = 1 then fa 3 * nI 100 else nI 2) ∧ Fr [(112, 112)] m m') := by
  obtain ⟨h3, n, hn4, hn, hln⟩ := hc
  have hlen := ho.1
  unfold f_X2_tell
  refine wp_it1 (fun q a m' => ∃ i, i ≤ LN.length ∧ q = LN.length - i ∧ a = nI i ∧ Fr [(112, 112)] m m' ∧ sayL fa word LN = sayL fa word (LN.drop i)) ?_ N LN.length _ _ (by omega) ⟨0, by omega, rfl, rfl, Fr.rf, rfl⟩
  rintro q X a m' ⟨i, hi, rfl, rfl, hfr, hs⟩ hX
  have hF' : Fx m' := hF.fr hfr (by decide +kernel)
  have e3 : m' 11 3 = nI LN.length := by rw [hfr.at 11 (by decide)]; exact h3
  have e12 : m' 12 = m 12 := hfr.at 12 (by decide)
  have e14 : m' 14 = m 14 := hfr.at 14 (by decide)
  have e13 : m' 13 = m 13 := hfr.at 13 (by decide)
  have e111 : m' 111 = m 111 := hfr.at 111 (by decide)
  have ht : (11, 16, 4) ∈ tbs := by decide
  unfold f_X2_tell_L2
  simp only [li_0, li_1, li_2, li_3, li_4, li_5, li_6, li_7, li_8, li_9, li_10, li_11, li_12, li_13, li_14, li_15, li_16, li_17, li_18, li_19, li_20, li_21, li_22, li_23, li_24, li_25, li_26, li_27, li_28, li_29, li_30, li_31, li_32, li_37, li_38, li_39, li_40, li_41, li_42, li_43, li_44, li_45, li_46, li_47, li_48, li_49, li_50, li_57, li_59, li_60, li_61, li_62, li_63, li_64, li_65, li_69, li_81, li_89, li_90, li_92, li_97, li_99, li_100, li_101, li_103, li_104, li_105, li_106, li_108, li_111, li_112, li_113, li_114, li_115, li_116, li_117, li_119, li_122, li_123, li_124, li_125, li_126, li_127, li_128, li_129, li_130, li_131, li_132, li_133, li_134, li_135, li_136, li_137, li_140, li_141, li_142, li_143, li_145, li_147, li_150, li_153, li_159, li_160, li_161, li_162, li_185, li_197, li_213, li_222, li_223, li_255, li_256, li_257, li_258, li_259, li_260, li_261, li_262, li_263, li_264, li_271, li_272, li_273, li_274, li_275, li_276, li_277, li_278, li_300, li_400, li_420, li_500, li_802, li_820, li_823, li_839, li_855, li_871, li_887, li_999, li_1000, li_1001, li_1002, li_1003, li_1004, li_1005, li_1006, li_1007, li_1008, li_1009, li_1010, li_1011, li_1012, li_1013, li_1014, li_1015, li_1016, li_1017, li_1018, li_1019, li_1020, li_1021, li_1022, li_1023, li_1707, li_4096, li_9999, li_65536, li_100000, li_1000000, li_1664525, li_100000000, li_252645135, li_858993459, li_1000000007, li_1013904223, li_1431655765, li_m1, nI_add]
  rw [e3]
  refine wp_ite (fun q => ?_) (fun q => ?_)
  · rw [nI_leI (by omega) (by omega)] at q
    rw [hs, List.drop_eq_nil_of_le q]
    unfold f_X2_answer
    simp only [li_0, li_1, li_2, li_3, li_4, li_5, li_6, li_7, li_8, li_9, li_10, li_11, li_12, li_13, li_14, li_15, li_16, li_17, li_18, li_19, li_20, li_21, li_22, li_23, li_24, li_25, li_26, li_27, li_28, li_29, li_30, li_31, li_32, li_37, li_38, li_39, li_40, li_41, li_42, li_43, li_44, li_45, li_46, li_47, li_48, li_49, li_50, li_57, li_59, li_60, li_61, li_62, li_63, li_64, li_65, li_69, li_81, li_89, li_90, li_92, li_97, li_99, li_100, li_101, li_103, li_104, li_105, li_106, li_108, li_111, li_112, li_113, li_114, li_115, li_116, li_117, li_119, li_122, li_123, li_124, li_125, li_126, li_127, li_128, li_129, li_130, li_131, li_132, li_133, li_134, li_135, li_136, li_137, li_140, li_141, li_142, li_143, li_145, li_147, li_150, li_153, li_159, li_160, li_161, li_162, li_185, li_197, li_213, li_222, li_223, li_255, li_256, li_257, li_258, li_259, li_260, li_261, li_262, li_263, li_264, li_271, li_272, li_273, li_274, li_275, li_276, li_277, li_278, li_300, li_400, li_420, li_500, li_802, li_820, li_823, li_839, li_855, li_871, li_887, li_999, li_1000, li_1001, li_1002, li_1003, li_1004, li_1005, li_1006, li_1007, li_1008, li_1009, li_1010, li_1011, li_1012, li_1013, li_1014, li_1015, li_1016, li_1017, li_1018, li_1019, li_1020, li_1021, li_1022, li_1023, li_1707, li_4096, li_9999, li_65536, li_100000, li_1000000, li_1664525, li_100000000, li_252645135, li_858993459, li_1000000007, li_1013904223, li_1431655765, li_m1]
    have a5 : m' 111 5 = fa 6 := by rw [e111]; exact hfa 5 (by decide)
    have a2 : m' 111 2 = fa 3 := by rw [e111]; exact hfa 2 (by decide)
    rw [if_neg (show ¬ nI 5 < nI 0 by decide), if_neg (show ¬ nI 10 ≤ nI 5 by decide), inb_nI (by decide) (by decide), chk_t, nI_clamp (by decide), bd_s, a5,
      if_neg (show ¬ nI 2 < nI 0 by decide), if_neg (show ¬ nI 10 ≤ nI 2 by decide), inb_nI (by decide) (by decide), chk_t, nI_clamp (by decide), bd_s, a2]
    rcases (show word = 0 ∨ word = 1 ∨ word = 2 by omega) with rfl | rfl | rfl
    · rw [if_pos rfl]
      exact wp_ret ⟨rfl, hfr⟩
    · rw [if_neg (by decide), if_pos rfl]
      exact wp_ret ⟨rfl, hfr⟩
    · rw [if_neg (by decide), if_neg (by decide)]
      exact wp_ret ⟨rfl, hfr⟩
  · rw [nI_leI (by omega) (by omega)] at q
    obtain ⟨l, hl⟩ := get_lt (show i < LN.length by omega)
    obtain ⟨c, g1, g2, g3, g4, g5, g6, g7⟩ := hln i l hl
    have hok := ho.2 l (List.mem_of_getElem? hl)
    rw [get_drop hl] at hs
    have hskip : (∀ (h : ¬ (l.1 = word ∧ (l.2.2 = [] ∨ (evS fa l.2.2 []).headD 0 = 1))), ∀ m1, Fr [(112, 112)] m m1 → Wp (X (nI (i + 1)) m1) (fun v m' => v = (match sayL fa word LN with | some x => nI (clm (if word = 1 then 1000 else 99) x) | none => if word = 0 then fa 6 / nI 3 else if word = 1 then fa 3 * nI 100 else nI 2) ∧ Fr [(112, 112)] m m')) := by
      intro h m1 h1
      refine hX (LN.length - (i + 1)) _ _ (by omega) ⟨i + 1, by omega, rfl, rfl, h1, ?_⟩
      rw [hs]
      show (if _ then _ else _) = _
      rw [if_neg h]
    rw [e_at hF' ht e3 (by omega) (show i < LN.length by omega) (show 1 < 4 by decide), bd_s, e_at hF' ht e3 (by omega) (show i < LN.length by omega) (show 2 < 4 by decide), bd_s,
      e_at hF' ht e3 (by omega) (show i < LN.length by omega) (show 3 < 4 by decide), bd_s, e_at hF' ht e3 (by omega) (show i < LN.length by omega) (show 0 < 4 by decide), bd_s, e12, g1, g2, g3, g4]
    refine wp_ite (fun q2 => ?_) (fun q2 => ?_)
    · have hwd : l.1 = word := by
        have := (nI_eq (by have := hok.1; omega) (by omega)).mp q2
        omega
      have hsay : ∀ (h : l.2.2 = [] ∨ (evS fa l.2.2 []).headD 0 = 1), ∀ m1, Fr [(112, 112)] m m1 →
          Wp (bd (f_X2_run N (nI c) (nI (c + (flt l.2.1).length)) m1) fun r_96 m_96 => bd (f_X2_held N (nI (256 + word)) r_96 m_96) fun r_99 m_99 => some (r_99, m_99)) (fun v m' => v = (match sayL fa word LN with | some x => nI (clm (if word = 1 then 1000 else 99) x) | none => if word = 0 then fa 6 / nI 3 else if word = 1 then fa 3 * nI 100 else nI 2) ∧ Fr [(112, 112)] m m') := by
        intro h m1 h1
        have e1 : m1 111 = m 111 := h1.at 111 (by decide)
        have e2 : m1 14 = m 14 := h1.at 14 (by decide)
        have e4 : m1 13 = m 13 := h1.at 13 (by decide)
        refine wp_bind (w_run hN (hF.fr h1 (by decide +kernel)) (n := n) (by rw [e4]; exact hn) hn4 (fun i hi => by rw [e1]; exact hfa i hi) (by rw [e2]; exact g6) (show c + (flt l.2.1).length ≤ n by omega) hok.2.1) ?_
        rintro v m2 ⟨rfl, h2⟩
        have hres : sayL fa word LN = some ((evS fa l.2.1 []).headD 0) := by
          rw [hs]
          show (if _ then _ else _) = _
          rw [if_pos ⟨hwd, h⟩]
        rw [hres]
        unfold f_X2_held
        simp only [li_0, li_1, li_2, li_3, li_4, li_5, li_6, li_7, li_8, li_9, li_10, li_11, li_12, li_13, li_14, li_15, li_16, li_17, li_18, li_19, li_20, li_21, li_22, li_23, li_24, li_25, li_26, li_27, li_28, li_29, li_30, li_31, li_32, li_37, li_38, li_39, li_40, li_41, li_42, li_43, li_44, li_45, li_46, li_47, li_48, li_49, li_50, li_57, li_59, li_60, li_61, li_62, li_63, li_64, li_65, li_69, li_81, li_89, li_90, li_92, li_97, li_99, li_100, li_101, li_103, li_104, li_105, li_106, li_108, li_111, li_112, li_113, li_114, li_115, li_116, li_117, li_119, li_122, li_123, li_124, li_125, li_126, li_127, li_128, li_129, li_130, li_131, li_132, li_133, li_134, li_135, li_136, li_137, li_140, li_141, li_142, li_143, li_145, li_147, li_150, li_153, li_159, li_160, li_161, li_162, li_185, li_197, li_213, li_222, li_223, li_255, li_256, li_257, li_258, li_259, li_260, li_261, li_262, li_263, li_264, li_271, li_272, li_273, li_274, li_275, li_276, li_277, li_278, li_300, li_400, li_420, li_500, li_802, li_820, li_823, li_839, li_855, li_871, li_887, li_999, li_1000, li_1001, li_1002, li_1003, li_1004, li_1005, li_1006, li_1007, li_1008, li_1009, li_1010, li_1011, li_1012, li_1013, li_1014, li_1015, li_1016, li_1017, li_1018, li_1019, li_1020, li_1021, li_1022, li_1023, li_1707, li_4096, li_9999, li_65536, li_100000, li_1000000, li_1664525, li_100000000, li_252645135, li_858993459, li_1000000007, li_1013904223, li_1431655765, li_m1]
        by_cases hw1 : word = 1
        · subst hw1
          rw [if_pos rfl, clm_held (by decide), bd_s]
          exact wp_ret ⟨rfl, h1.trans h2⟩
        · rw [if_neg (nI_ne (by omega) (by omega) (by decide)), clm_held (by decide), bd_s]
          refine wp_ret ⟨?_, h1.trans h2⟩
          simp only [if_neg hw1]
      by_cases hB : l.2.2 = []
      · have : (flt l.2.2).length = 0 := by rw [hB]; rfl
        rw [if_pos (by rw [this]; rfl)]
        exact hsay (Or.inl hB) m' hfr
      · have hlen : 0 < (flt l.2.2).length := Nat.lt_of_lt_of_le (List.length_pos_iff.mpr hB) (flat_len _)
        have hty : tcS l.2.2 [] = some [true] := hok.2.2.resolve_left hB
        rw [if_neg (nI_ne (by omega) (by omega) (by omega))]
        refine wp_bind (w_run hN hF' (n := n) (by rw [e13]; exact hn) hn4 (fun i hi => by rw [e111]; exact hfa i hi) (by rw [e14]; exact g7) (show c + (flt l.2.1).length + (flt l.2.2).length ≤ n by omega) hty) ?_
        rintro v m2 ⟨rfl, h2⟩
        rcases ev_01 (fa := fa) hty with h0 | h0
        · rw [if_pos (by rw [h0]; rfl)]
          exact hskip (fun z => by rcases z.2 with z | z; exact hB z; rw [h0] at z; cases z) m2 (hfr.trans h2)
        · rw [if_neg (by rw [h0]; decide)]
          exact hsay (Or.inr h0) m2 (hfr.trans h2)
    · exact hskip (fun z => q2 (by rw [z.1])) m' hfr
