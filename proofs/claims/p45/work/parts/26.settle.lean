/-! clapping, round by round -/
theorem pcN_or {x h : Nat} (hb : x.testBit h = false) : ∀ n, pcN n (x ||| 2 ^ h) = pcN n x + (if h < n then 1 else 0)
  | 0 => by rw [if_neg (by omega)]; rfl
  | n + 1 => by
    unfold pcN
    rw [pcN_or hb n, Nat.testBit_or, Nat.testBit_two_pow]
    by_cases e : h = n
    · subst e
      rw [if_neg (by omega), if_pos (by omega), hb]
      simp
    · rw [show decide (h = n) = false from decide_eq_false e, Bool.or_false]
      by_cases h2 : h < n
      · rw [if_pos h2, if_pos (by omega)]; omega
      · rw [if_neg h2, if_neg (by omega)]; omega
theorem pc_or {x h : Nat} (hb : x.testBit h = false) (hh : h < 12) : pc (x ||| 2 ^ h) = pc x + 1 := by
  unfold pc
  rw [pcN_or hb 12, if_pos hh]
theorem and_lt {a b n : Nat} (h : a < 2 ^ n) : a &&& b < 2 ^ n := Nat.lt_of_le_of_lt Nat.and_le_left h
def rdyS (w : Arr) : Nat := sdf (zt w) (zv w)
def stpS (LN : List Lin) (w : Arr) (d : Nat) (rdy : Nat) (dr : Nat → Int32) (cl h : Nat) : Nat := if rdy.testBit h = true ∧ cl.testBit h = false ∧ dr h < nI (clapS LN w h d (pc (zn w h &&& cl))) then cl ||| 2 ^ h else cl
def rndS (LN : List Lin) (w : Arr) (d : Nat) (rdy : Nat) (dr : Nat → Int32) (cl : Nat) : Nat → Nat
  | 0 => cl
  | h + 1 => stpS LN w d rdy dr (rndS LN w d rdy dr cl h) h
def setS (LN : List Lin) (w : Arr) (d : Nat) (rdy : Nat) (dr : Nat → Int32) : Nat → Nat → Nat → Nat × Nat
  | 0, cl, r => (cl, r)
  | k + 1, cl, r => if rndS LN w d rdy dr cl (zh w) = cl then (cl, r) else setS LN w d rdy dr k (rndS LN w d rdy dr cl (zh w)) (r + 1)
section SETTLE
variable {w : Arr} {LN : List Lin} {m : Mem} {N d rdy : Nat} {dr : Nat → Int32}
theorem stpS_lt {cl h n : Nat} (hc : cl < 2 ^ n) (hh : h < n) : stpS LN w d rdy dr cl h < 2 ^ n := by
  unfold stpS
  split
  · exact Nat.or_lt_two_pow hc (Nat.pow_lt_pow_right (by decide) hh)
  · exact hc
theorem rndS_lt {cl n : Nat} (hc : cl < 2 ^ n) : ∀ h, h ≤ n → rndS LN w d rdy dr cl h < 2 ^ n
  | 0, _ => hc
  | h + 1, hh => stpS_lt (rndS_lt hc h (by omega)) (by omega)
theorem stpS_pc {cl h : Nat} (hh : h < 12) : stpS LN w d rdy dr cl h = cl ∨ pc (stpS LN w d rdy dr cl h) = pc cl + 1 := by
  unfold stpS
  split
  · rename_i q
    exact Or.inr (pc_or q.2.1 hh)
  · exact Or.inl rfl
theorem rndS_pc {cl : Nat} : ∀ h, h ≤ 12 → rndS LN w d rdy dr cl h = cl ∨ pc cl < pc (rndS LN w d rdy dr cl h)
  | 0, _ => Or.inl rfl
  | h + 1, hh => by
    show stpS _ _ _ _ _ _ _ = _ ∨ _ < pc (stpS _ _ _ _ _ _ _)
    rcases rndS_pc (cl := cl) h (by omega) with q | q <;> rcases stpS_pc (LN := LN) (w := w) (d := d) (rdy := rdy) (dr := dr) (cl := rndS LN w d rdy dr cl h) (h := h) (by omega) with z | z
    · left; rw [z, q]
    · right; rw [z, q]; omega
    · right; rw [z]; exact q
    · right; rw [z]; omega
theorem rdyS_lt (W0 : WFc w) : rdyS w < 2 ^ zh w := Nat.lt_of_le_of_lt (sdf_le _ _) W0.h7.2
/-- whoever is not going to clap at so many beside him -/
def knw (LN : List Lin) (w : Arr) (d : Nat) (dr : Nat → Int32) (cl : Nat) (a : Arr) : Prop := ∀ h, h < zh w → a h = mo1 ∨ ∃ b, b ≤ 12 ∧ a h = nI b ∧ (cl.testBit h = true ∨ ¬ dr h < nI (clapS LN w h d b))
theorem knw.more {cl cl' : Nat} {a : Arr} (h : knw LN w d dr cl a) (hs : ∀ i, cl.testBit i = true → cl'.testBit i = true) : knw LN w d dr cl' a := by
  intro i hi
  rcases h i hi with q | ⟨b, hb, e, q⟩
  · exact Or.inl q
  · refine Or.inr ⟨b, hb, e, ?_⟩
    rcases q with q | q
    · exact Or.inl (hs i q)
    · exact Or.inr q
theorem knw.set {cl i b : Nat} {a : Arr} (h : knw LN w d dr cl a) (hb : b ≤ 12) (hq : cl.testBit i = true ∨ ¬ dr i < nI (clapS LN w i d b)) : knw LN w d dr cl (upd a i (nI b)) := by
  intro j hj
  by_cases e : j = i
  · subst e
    exact Or.inr ⟨b, hb, ud_s, hq⟩
  · rw [ud_n e]
    exact h j hj
theorem testBit_or_of {x y i : Nat} (h : x.testBit i = true) : (x ||| y).testBit i = true := by rw [Nat.testBit_or, h]; rfl
/-- one HEARER in a round of the class -/
theorem w_round1 {cl h : Nat} {K : Mem → Ans} {X : Int32 → Mem → Ans} {m1 : Mem} {s4 a5 : Int32} {Q : Int32 → Mem → Prop} (hN : 20000 ≤ N) (H : HRep 2 LN w m1) (W0 : WFc w) (hd : d < zd w) (hrdy : rdy < 2 ^ zh w) (hh : h < zh w) (hcl : cl < 2 ^ zh w) (h5 : m1 113 5 = nI cl)
    (hdr : rdy.testBit h = true → (if m1 113 4 = nI 0 then m1 114 h else nI 500) = dr h) (hk : knw LN w d dr cl (m1 115))
    (k : ∀ m2, Fr [(111, 113), (115, 115)] m1 m2 → (∀ j, j ≠ 5 → m2 113 j = m1 113 j) → m2 113 5 = nI (stpS LN w d rdy dr cl h) → knw LN w d dr (stpS LN w d rdy dr cl h) (m2 115) → Wp (X (nI (h + 1)) m2) Q) :
    Wp (f_X8_applaud_L79 N (nI d) (nI rdy) s4 a5 K X (nI h) m1) Q := by
  have l := W0.lzh
  have p := W0.p12
  unfold f_X8_applaud_L79
  simp only [li_0, li_1, li_2, li_3, li_4, li_5, li_6, li_7, li_8, li_9, li_10, li_11, li_12, li_13, li_14, li_15, li_16, li_17, li_18, li_19, li_20, li_21, li_22, li_23, li_24, li_25, li_26, li_27, li_28, li_29, li_30, li_31, li_32, li_37, li_38, li_39, li_40, li_41, li_42, li_43, li_44, li_45, li_46, li_47, li_48, li_49, li_50, li_57, li_59, li_60, li_61, li_62, li_63, li_64, li_65, li_69, li_81, li_89, li_90, li_92, li_97, li_99, li_100, li_101, li_103, li_104, li_105, li_106, li_108, li_111, li_112, li_113, li_114, li_115, li_116, li_117, li_119, li_122, li_123, li_124, li_125, li_126, li_127, li_128, li_129, li_130, li_131, li_132, li_133, li_134, li_135, li_136, li_137, li_140, li_141, li_142, li_143, li_145, li_147, li_150, li_153, li_159, li_160, li_161, li_162, li_185, li_197, li_213, li_222, li_223, li_255, li_256, li_257, li_258, li_259, li_260, li_261, li_262, li_263, li_264, li_271, li_272, li_273, li_274, li_275, li_276, li_277, li_278, li_300, li_400, li_420, li_500, li_802, li_820, li_823, li_839, li_855, li_871, li_887, li_999, li_1000, li_1001, li_1002, li_1003, li_1004, li_1005, li_1006, li_1007, li_1008, li_1009, li_1010, li_1011, li_1012, li_1013, li_1014, li_1015, li_1016, li_1017, li_1018, li_1019, li_1020, li_1021, li_1022, li_1023, li_1707, li_4096, li_9999, li_65536, li_100000, li_1000000, li_1664525, li_100000000, li_252645135, li_858993459, li_1000000007, li_1013904223, li_1431655765, li_m1]
  rw [H.hea.1, W0.h37, if_neg (nI_ge hh (by omega)), if_neg (nI_ge (by omega) (by omega)), if_neg (nI_ge (by omega) (by omega)), h5, nz_diff, e_isInX _ (by omega) (Nat.lt_of_le_of_lt (sdf_le _ _) (by omega)), bd_s, sdf_bit]
  have no : ∀ (hn : ¬ (rdy.testBit h = true ∧ cl.testBit h = false)), Wp (X (nI (h + 1)) m1) Q := by
    intro hn
    have e : stpS LN w d rdy dr cl h = cl := by
      unfold stpS
      rw [if_neg (fun z => hn ⟨z.1, z.2.1⟩)]
    exact k m1 Fr.rf (fun j _ => rfl) (by rw [e]; exact h5) (by rw [e]; exact hk)
  cases hr : rdy.testBit h with
  | false =>
    rw [Bool.false_and, if_pos (by decide), nI_up]
    exact no (fun z => by rw [hr] at z; cases z.1)
  | true =>
    cases hc : cl.testBit h with
    | true =>
      rw [Bool.not_true, Bool.and_false, if_pos (by decide), nI_up]
      exact no (fun z => by rw [hc] at z; cases z.2)
    | false =>
      rw [Bool.not_false, Bool.and_true, if_neg (by decide), hr_hea H W0 hh (by decide), bd_s, h5, show heaV w h 6 = w (185 + h) from rfl, (W0.zn hh).1, nz_and, e_bitCount _ (Nat.lt_of_lt_of_le (and_lt (W0.zn hh).2) p), bd_s]
      have hb := pc_le (zn w h &&& cl)
      have J : Wp (f_X8_applaud_J174 N (nI d) (nI rdy) s4 a5 K X (nI h) (nI (pc (zn w h &&& cl))) (dr h) m1) Q := by
        unfold f_X8_applaud_J174
        simp only [li_0, li_1, li_2, li_3, li_4, li_5, li_6, li_7, li_8, li_9, li_10, li_11, li_12, li_13, li_14, li_15, li_16, li_17, li_18, li_19, li_20, li_21, li_22, li_23, li_24, li_25, li_26, li_27, li_28, li_29, li_30, li_31, li_32, li_37, li_38, li_39, li_40, li_41, li_42, li_43, li_44, li_45, li_46, li_47, li_48, li_49, li_50, li_57, li_59, li_60, li_61, li_62, li_63, li_64, li_65, li_69, li_81, li_89, li_90, li_92, li_97, li_99, li_100, li_101, li_103, li_104, li_105, li_106, li_108, li_111, li_112, li_113, li_114, li_115, li_116, li_117, li_119, li_122, li_123, li_124, li_125, li_126, li_127, li_128, li_129, li_130, li_131, li_132, li_133, li_134, li_135, li_136, li_137, li_140, li_141, li_142, li_143, li_145, li_147, li_150, li_153, li_159, li_160, li_161, li_162, li_185, li_197, li_213, li_222, li_223, li_255, li_256, li_257, li_258, li_259, li_260, li_261, li_262, li_263, li_264, li_271, li_272, li_273, li_274, li_275, li_276, li_277, li_278, li_300, li_400, li_420, li_500, li_802, li_820, li_823, li_839, li_855, li_871, li_887, li_999, li_1000, li_1001, li_1002, li_1003, li_1004, li_1005, li_1006, li_1007, li_1008, li_1009, li_1010, li_1011, li_1012, li_1013, li_1014, li_1015, li_1016, li_1017, li_1018, li_1019, li_1020, li_1021, li_1022, li_1023, li_1707, li_4096, li_9999, li_65536, li_100000, li_1000000, li_1664525, li_100000000, li_252645135, li_858993459, li_1000000007, li_1013904223, li_1431655765, li_m1]
        rw [inb_nI (by omega) (by omega), chk_t, nI_clamp (by omega), nI_up]
        refine wp_ite (fun q => ?_) (fun q => ?_)
        · rw [chk_t, bnd_s]
          rcases hk h hh with z | ⟨b, hb2, e, z⟩
          · rw [z] at q
            exact absurd q.symm (nI_no1 (by omega))
          · rw [e] at q
            have := (nI_eq (by omega) (by omega)).mp q
            subst this
            have z := z.resolve_left (by rw [hc]; decide)
            have es : stpS LN w d rdy dr cl h = cl := by
              unfold stpS
              rw [if_neg (fun y => z y.2.2)]
            exact k _ (Fr.set Fr.rf (by decide)) (fun j _ => mset_k (by decide)) (by rw [es, mset_k (by decide)]; exact h5) (by rw [es, mset_eq]; exact hk.set hb (Or.inr z))
        · refine wp_bind (w_clap hN H W0 hh hd) ?_
          rintro v m2 ⟨rfl, h2⟩
          have e113 : m2 113 = m1 113 := h2.at 113 (by decide)
          have e115 : m2 115 = m1 115 := h2.at 115 (by decide)
          have f2 : Fr [(111, 113), (115, 115)] m1 m2 := h2.mono (by decide)
          refine wp_ite (fun z => ?_) (fun z => ?_)
          · rw [chk_t, bnd_s]
            have es : stpS LN w d rdy dr cl h = cl := by
              unfold stpS
              rw [if_neg (fun y => Int32.not_lt.mpr z y.2.2)]
            exact k _ (Fr.set f2 (by decide)) (fun j _ => by rw [mset_k (by decide), e113]) (by rw [es, mset_k (by decide), e113]; exact h5) (by rw [es, mset_eq, e115]; exact hk.set hb (Or.inr (Int32.not_lt.mpr z)))
          · rw [bnd_s, chk_t, bnd_s, e113, h5, nz_one (by omega), nz_or]
            have es : stpS LN w d rdy dr cl h = cl ||| 2 ^ h := by
              unfold stpS
              rw [if_pos ⟨hr, hc, Int32.not_le.mp z⟩]
            refine k _ (Fr.set (Fr.set f2 (by decide)) (by decide)) (fun j hj => by rw [mset_k (by decide), mset_j hj, e113]) (by rw [es, mset_k (by decide), mset_at]) ?_
            rw [es, mset_eq, mset_ne (by decide), e115]
            refine (hk.more (fun i hi => testBit_or_of hi)).set hb (Or.inl ?_)
            rw [Nat.testBit_or, Nat.testBit_two_pow]
            simp
      have hdr' := hdr hr
      refine wp_ite (fun q => ?_) (fun q => ?_)
      · rw [if_pos q] at hdr'
        rw [inb_nI (by omega) (by omega), chk_t, nI_clamp (by omega), hdr']
        exact J
      · rw [if_neg q] at hdr'
        rw [hdr']
        exact J
/-- a round of the class -/
theorem w_roundC {cl : Nat} {K : Mem → Ans} {m1 : Mem} {s4 a5 : Int32} {Q : Int32 → Mem → Prop} (hN : 20000 ≤ N) (H : HRep 2 LN w m1) (W0 : WFc w) (hd : d < zd w) (hrdy : rdy < 2 ^ zh w) (hcl : cl < 2 ^ zh w) (h5 : m1 113 5 = nI cl)
    (hdr : ∀ h, h < zh w → rdy.testBit h = true → (if m1 113 4 = nI 0 then m1 114 h else nI 500) = dr h) (hk : knw LN w d dr cl (m1 115))
    (k : ∀ m2, Fr [(111, 113), (115, 115)] m1 m2 → (∀ j, j ≠ 5 → m2 113 j = m1 113 j) → m2 113 5 = nI (rndS LN w d rdy dr cl (zh w)) → knw LN w d dr (rndS LN w d rdy dr cl (zh w)) (m2 115) → Wp (K m2) Q) :
    Wp (it1 (f_X8_applaud_L79 N (nI d) (nI rdy) s4 a5 K) N (nI 0) m1) Q := by
  have l := W0.lzh
  refine wp_it1 (fun n a m2 => ∃ i, i ≤ zh w ∧ n = zh w - i ∧ a = nI i ∧ Fr [(111, 113), (115, 115)] m1 m2 ∧ (∀ j, j ≠ 5 → m2 113 j = m1 113 j) ∧ m2 113 5 = nI (rndS LN w d rdy dr cl i) ∧ knw LN w d dr (rndS LN w d rdy dr cl i) (m2 115)) ?_ N (zh w) _ _ (by omega) ⟨0, by omega, rfl, rfl, Fr.rf, fun j _ => rfl, h5, hk⟩
  rintro n X a m2 ⟨i, hi, rfl, rfl, f2, hj, h5', hk'⟩ hX
  have H2 := H.fr W0.sml f2 (by decide +kernel)
  by_cases e : i = zh w
  · subst e
    unfold f_X8_applaud_L79
    rw [H2.hea.1, W0.h37, if_pos (nI_le (Nat.le_refl _) (by omega))]
    exact k m2 f2 hj h5' hk'
  · have hdr2 : rdy.testBit i = true → (if m2 113 4 = nI 0 then m2 114 i else nI 500) = dr i := by
      intro hr
      rw [hj 4 (by decide), f2.at 114 (by decide)]
      exact hdr i (by omega) hr
    refine w_round1 hN H2 W0 hd hrdy (by omega) (rndS_lt hcl i (by omega)) h5' hdr2 hk' ?_
    intro m3 f3 hj3 h53 hk3
    exact hX (zh w - (i + 1)) _ _ (by omega) ⟨i + 1, by omega, rfl, rfl, f2.trans f3, fun j hj0 => (hj3 j hj0).trans (hj j hj0), h53, hk3⟩
/-- round by round -/
theorem w_rounds {m1 : Mem} (hN : 20000 ≤ N) (H : HRep 2 LN w m) (W0 : WFc w) (hd : d < zd w)
    (hdr : ∀ h, h < zh w → (rdyS w).testBit h = true → (if m 113 4 = nI 0 then m 114 h else nI 500) = dr h) (f1 : Fr [(111, 113), (115, 115)] m m1) (e4 : m1 113 4 = m 113 4) (e5 : m1 113 5 = nI 0) (e6 : m1 113 6 = nI 0) (hk : knw LN w d dr 0 (m1 115)) :
    Wp (it2 (f_X8_applaud_L59 N (nI d) (nI (rdyS w))) N (nI 1) (nI 0) m1) (fun _ m' => Fr [(111, 113), (115, 115)] m m' ∧ m' 113 4 = m 113 4 ∧ m' 113 5 = nI (setS LN w d (rdyS w) dr 13 0 0).1 ∧ m' 113 6 = nI (setS LN w d (rdyS w) dr 13 0 0).2) := by
  have l := W0.lzh
  have p := W0.p12
  generalize hT : setS LN w d (rdyS w) dr 13 0 0 = T
  refine wp_it2 (fun n a c m2 => (∃ k cl r, k ≤ 13 ∧ n = k + 1 ∧ a = nI 1 ∧ c = nI (13 - k) ∧ setS LN w d (rdyS w) dr k cl r = T ∧ cl < 2 ^ zh w ∧ Fr [(111, 113), (115, 115)] m m2 ∧ m2 113 4 = m 113 4 ∧ m2 113 5 = nI cl ∧ m2 113 6 = nI r ∧ knw LN w d dr cl (m2 115))
        ∨ (a = nI 0 ∧ Fr [(111, 113), (115, 115)] m m2 ∧ m2 113 4 = m 113 4 ∧ m2 113 5 = nI T.1 ∧ m2 113 6 = nI T.2)) ?_ N 14 _ _ _ (by omega)
      (Or.inl ⟨13, 0, 0, Nat.le_refl _, rfl, rfl, rfl, hT, pow_pos' _, f1, e4, e5, e6, hk⟩)
  rintro n X a c m2 (⟨k, cl, r, hk13, rfl, rfl, rfl, hs, hcl, f2, g4, g5, g6, hk2⟩ | ⟨rfl, f2, g4, g5, g6⟩) hX
  · unfold f_X8_applaud_L59
    simp only [li_0, li_1, li_2, li_3, li_4, li_5, li_6, li_7, li_8, li_9, li_10, li_11, li_12, li_13, li_14, li_15, li_16, li_17, li_18, li_19, li_20, li_21, li_22, li_23, li_24, li_25, li_26, li_27, li_28, li_29, li_30, li_31, li_32, li_37, li_38, li_39, li_40, li_41, li_42, li_43, li_44, li_45, li_46, li_47, li_48, li_49, li_50, li_57, li_59, li_60, li_61, li_62, li_63, li_64, li_65, li_69, li_81, li_89, li_90, li_92, li_97, li_99, li_100, li_101, li_103, li_104, li_105, li_106, li_108, li_111, li_112, li_113, li_114, li_115, li_116, li_117, li_119, li_122, li_123, li_124, li_125, li_126, li_127, li_128, li_129, li_130, li_131, li_132, li_133, li_134, li_135, li_136, li_137, li_140, li_141, li_142, li_143, li_145, li_147, li_150, li_153, li_159, li_160, li_161, li_162, li_185, li_197, li_213, li_222, li_223, li_255, li_256, li_257, li_258, li_259, li_260, li_261, li_262, li_263, li_264, li_271, li_272, li_273, li_274, li_275, li_276, li_277, li_278, li_300, li_400, li_420, li_500, li_802, li_820, li_823, li_839, li_855, li_871, li_887, li_999, li_1000, li_1001, li_1002, li_1003, li_1004, li_1005, li_1006, li_1007, li_1008, li_1009, li_1010, li_1011, li_1012, li_1013, li_1014, li_1015, li_1016, li_1017, li_1018, li_1019, li_1020, li_1021, li_1022, li_1023, li_1707, li_4096, li_9999, li_65536, li_100000, li_1000000, li_1664525, li_100000000, li_252645135, li_858993459, li_1000000007, li_1013904223, li_1431655765, li_m1]
    match k, hk13, hs, hX with
    | 0, _, hs, hX =>
      rw [if_pos (nI_lt (by decide) (by decide))]
      cases hs
      exact wp_ret ⟨f2, g4, g5, g6⟩
    | k + 1, hk13, hs, hX =>
      rw [if_neg (nI_nlt (by omega) (by omega)), if_neg (nI_ne (by decide) (by decide) (by decide)), g5, bnd_s]
      refine w_roundC hN (H.fr W0.sml f2 (by decide +kernel)) W0 hd (rdyS_lt W0) hcl g5 (fun h hh hr => by rw [g4, f2.at 114 (by decide)]; exact hdr h hh hr) hk2 ?_
      intro m3 f3 hj3 h53 hk3
      have f23 := f2.trans f3
      unfold f_X8_applaud_J233
      rw [h53]
      have hlt := rndS_lt (LN := LN) (w := w) (d := d) (rdy := rdyS w) (dr := dr) hcl (zh w) (Nat.le_refl _)
      refine wp_ite (fun q => ?_) (fun q => ?_)
      · have q := (nI_eq (by omega) (by omega)).mp q
        unfold f_X8_applaud_J247
        simp only [li_0, li_1, li_2, li_3, li_4, li_5, li_6, li_7, li_8, li_9, li_10, li_11, li_12, li_13, li_14, li_15, li_16, li_17, li_18, li_19, li_20, li_21, li_22, li_23, li_24, li_25, li_26, li_27, li_28, li_29, li_30, li_31, li_32, li_37, li_38, li_39, li_40, li_41, li_42, li_43, li_44, li_45, li_46, li_47, li_48, li_49, li_50, li_57, li_59, li_60, li_61, li_62, li_63, li_64, li_65, li_69, li_81, li_89, li_90, li_92, li_97, li_99, li_100, li_101, li_103, li_104, li_105, li_106, li_108, li_111, li_112, li_113, li_114, li_115, li_116, li_117, li_119, li_122, li_123, li_124, li_125, li_126, li_127, li_128, li_129, li_130, li_131, li_132, li_133, li_134, li_135, li_136, li_137, li_140, li_141, li_142, li_143, li_145, li_147, li_150, li_153, li_159, li_160, li_161, li_162, li_185, li_197, li_213, li_222, li_223, li_255, li_256, li_257, li_258, li_259, li_260, li_261, li_262, li_263, li_264, li_271, li_272, li_273, li_274, li_275, li_276, li_277, li_278, li_300, li_400, li_420, li_500, li_802, li_820, li_823, li_839, li_855, li_871, li_887, li_999, li_1000, li_1001, li_1002, li_1003, li_1004, li_1005, li_1006, li_1007, li_1008, li_1009, li_1010, li_1011, li_1012, li_1013, li_1014, li_1015, li_1016, li_1017, li_1018, li_1019, li_1020, li_1021, li_1022, li_1023, li_1707, li_4096, li_9999, li_65536, li_100000, li_1000000, li_1664525, li_100000000, li_252645135, li_858993459, li_1000000007, li_1013904223, li_1431655765, li_m1]
        rw [if_pos trivial, bnd_s, hj3 6 (by decide), g6]
        have hs' : (cl, r) = T := by
          rw [← hs]
          unfold setS
          rw [if_pos q]
        refine hX 0 _ _ _ (by omega) (Or.inr ⟨rfl, Fr.set f23 (by decide), by rw [mset_j (by decide), hj3 4 (by decide)]; exact g4, by rw [mset_j (by decide), h53, q, ← hs'], by rw [mset_at, ← hs', nI_add, Nat.add_zero]⟩)
      · have q : ¬ rndS LN w d (rdyS w) dr cl (zh w) = cl := fun z => q (by rw [z])
        unfold f_X8_applaud_J247
        simp only [li_0, li_1, li_2, li_3, li_4, li_5, li_6, li_7, li_8, li_9, li_10, li_11, li_12, li_13, li_14, li_15, li_16, li_17, li_18, li_19, li_20, li_21, li_22, li_23, li_24, li_25, li_26, li_27, li_28, li_29, li_30, li_31, li_32, li_37, li_38, li_39, li_40, li_41, li_42, li_43, li_44, li_45, li_46, li_47, li_48, li_49, li_50, li_57, li_59, li_60, li_61, li_62, li_63, li_64, li_65, li_69, li_81, li_89, li_90, li_92, li_97, li_99, li_100, li_101, li_103, li_104, li_105, li_106, li_108, li_111, li_112, li_113, li_114, li_115, li_116, li_117, li_119, li_122, li_123, li_124, li_125, li_126, li_127, li_128, li_129, li_130, li_131, li_132, li_133, li_134, li_135, li_136, li_137, li_140, li_141, li_142, li_143, li_145, li_147, li_150, li_153, li_159, li_160, li_161, li_162, li_185, li_197, li_213, li_222, li_223, li_255, li_256, li_257, li_258, li_259, li_260, li_261, li_262, li_263, li_264, li_271, li_272, li_273, li_274, li_275, li_276, li_277, li_278, li_300, li_400, li_420, li_500, li_802, li_820, li_823, li_839, li_855, li_871, li_887, li_999, li_1000, li_1001, li_1002, li_1003, li_1004, li_1005, li_1006, li_1007, li_1008, li_1009, li_1010, li_1011, li_1012, li_1013, li_1014, li_1015, li_1016, li_1017, li_1018, li_1019, li_1020, li_1021, li_1022, li_1023, li_1707, li_4096, li_9999, li_65536, li_100000, li_1000000, li_1664525, li_100000000, li_252645135, li_858993459, li_1000000007, li_1013904223, li_1431655765, li_m1]
        rw [if_neg (nI_ne (by decide) (by decide) (by decide)), bnd_s, hj3 6 (by decide), g6, nI_add, nI_up]
        refine hX (k + 1) _ _ _ (by omega) (Or.inl ⟨k, rndS LN w d (rdyS w) dr cl (zh w), r + 1, by omega, rfl, rfl, by congr 1; omega, ?_, hlt, Fr.set f23 (by decide), by rw [mset_j (by decide), hj3 4 (by decide)]; exact g4, by rw [mset_j (by decide), h53], mset_at _ _ _ _, ?_⟩)
        · rw [← hs]
          show _ = (if _ then _ else _)
          rw [if_neg q]
        · rw [mset_ne (by decide)]
          exact hk3
  · unfold f_X8_applaud_L59
    simp only [li_0, li_1, li_2, li_3, li_4, li_5, li_6, li_7, li_8, li_9, li_10, li_11, li_12, li_13, li_14, li_15, li_16, li_17, li_18, li_19, li_20, li_21, li_22, li_23, li_24, li_25, li_26, li_27, li_28, li_29, li_30, li_31, li_32, li_37, li_38, li_39, li_40, li_41, li_42, li_43, li_44, li_45, li_46, li_47, li_48, li_49, li_50, li_57, li_59, li_60, li_61, li_62, li_63, li_64, li_65, li_69, li_81, li_89, li_90, li_92, li_97, li_99, li_100, li_101, li_103, li_104, li_105, li_106, li_108, li_111, li_112, li_113, li_114, li_115, li_116, li_117, li_119, li_122, li_123, li_124, li_125, li_126, li_127, li_128, li_129, li_130, li_131, li_132, li_133, li_134, li_135, li_136, li_137, li_140, li_141, li_142, li_143, li_145, li_147, li_150, li_153, li_159, li_160, li_161, li_162, li_185, li_197, li_213, li_222, li_223, li_255, li_256, li_257, li_258, li_259, li_260, li_261, li_262, li_263, li_264, li_271, li_272, li_273, li_274, li_275, li_276, li_277, li_278, li_300, li_400, li_420, li_500, li_802, li_820, li_823, li_839, li_855, li_871, li_887, li_999, li_1000, li_1001, li_1002, li_1003, li_1004, li_1005, li_1006, li_1007, li_1008, li_1009, li_1010, li_1011, li_1012, li_1013, li_1014, li_1015, li_1016, li_1017, li_1018, li_1019, li_1020, li_1021, li_1022, li_1023, li_1707, li_4096, li_9999, li_65536, li_100000, li_1000000, li_1664525, li_100000000, li_252645135, li_858993459, li_1000000007, li_1013904223, li_1431655765, li_m1]
    refine wp_ite (fun _ => wp_ret ⟨f2, g4, g5, g6⟩) (fun _ => ?_)
    rw [if_pos trivial]
    exact wp_ret ⟨f2, g4, g5, g6⟩
/-- the class's applause -/
theorem w_applaud (hN : 20000 ≤ N) (H : HRep 2 LN w m) (W0 : WFc w) (hd : d < zd w)
    (hdr : ∀ h, h < zh w → (rdyS w).testBit h = true → (if m 113 4 = nI 0 then m 114 h else nI 500) = dr h) :
    Wp (f_X8_applaud N (nI d) m) (fun _ m' => Fr [(111, 113), (115, 115)] m m' ∧ m' 113 4 = m 113 4 ∧ m' 113 5 = nI (setS LN w d (rdyS w) dr 13 0 0).1 ∧ m' 113 6 = nI (setS LN w d (rdyS w) dr 13 0 0).2) := by
  have l := W0.lzh
  have p := W0.p12
  unfold f_X8_applaud
  simp only [li_0, li_1, li_2, li_3, li_4, li_5, li_6, li_7, li_8, li_9, li_10, li_11, li_12, li_13, li_14, li_15, li_16, li_17, li_18, li_19, li_20, li_21, li_22, li_23, li_24, li_25, li_26, li_27, li_28, li_29, li_30, li_31, li_32, li_37, li_38, li_39, li_40, li_41, li_42, li_43, li_44, li_45, li_46, li_47, li_48, li_49, li_50, li_57, li_59, li_60, li_61, li_62, li_63, li_64, li_65, li_69, li_81, li_89, li_90, li_92, li_97, li_99, li_100, li_101, li_103, li_104, li_105, li_106, li_108, li_111, li_112, li_113, li_114, li_115, li_116, li_117, li_119, li_122, li_123, li_124, li_125, li_126, li_127, li_128, li_129, li_130, li_131, li_132, li_133, li_134, li_135, li_136, li_137, li_140, li_141, li_142, li_143, li_145, li_147, li_150, li_153, li_159, li_160, li_161, li_162, li_185, li_197, li_213, li_222, li_223, li_255, li_256, li_257, li_258, li_259, li_260, li_261, li_262, li_263, li_264, li_271, li_272, li_273, li_274, li_275, li_276, li_277, li_278, li_300, li_400, li_420, li_500, li_802, li_820, li_823, li_839, li_855, li_871, li_887, li_999, li_1000, li_1001, li_1002, li_1003, li_1004, li_1005, li_1006, li_1007, li_1008, li_1009, li_1010, li_1011, li_1012, li_1013, li_1014, li_1015, li_1016, li_1017, li_1018, li_1019, li_1020, li_1021, li_1022, li_1023, li_1707, li_4096, li_9999, li_65536, li_100000, li_1000000, li_1664525, li_100000000, li_252645135, li_858993459, li_1000000007, li_1013904223, li_1431655765, li_m1]
  rw [bnd_s, bnd_s]
  generalize hm0 : mset (mset m 113 5 (nI 0)) 113 6 (nI 0) = m0
  have f0 : Fr [(111, 113), (115, 115)] m m0 := by rw [← hm0]; exact Fr.set (Fr.set Fr.rf (by decide)) (by decide)
  have e4 : m0 113 4 = m 113 4 := by rw [← hm0, mset_j (by decide), mset_j (by decide)]
  have e5 : m0 113 5 = nI 0 := by rw [← hm0, mset_j (by decide), mset_at]
  have e6 : m0 113 6 = nI 0 := by rw [← hm0, mset_at]
  refine wp_it1 (fun n a m1 => ∃ i, i ≤ 12 ∧ n = 12 - i ∧ a = nI i ∧ Fr [(115, 115)] m0 m1 ∧ ∀ j, j < i → m1 115 j = mo1) ?_ N 12 _ _ (by omega) ⟨0, by omega, rfl, rfl, Fr.rf, fun j hj => absurd hj (by omega)⟩
  rintro n X a m1 ⟨i, hi, rfl, rfl, f1, hmo⟩ hX
  unfold f_X8_applaud_L12
  simp only [li_0, li_1, li_2, li_3, li_4, li_5, li_6, li_7, li_8, li_9, li_10, li_11, li_12, li_13, li_14, li_15, li_16, li_17, li_18, li_19, li_20, li_21, li_22, li_23, li_24, li_25, li_26, li_27, li_28, li_29, li_30, li_31, li_32, li_37, li_38, li_39, li_40, li_41, li_42, li_43, li_44, li_45, li_46, li_47, li_48, li_49, li_50, li_57, li_59, li_60, li_61, li_62, li_63, li_64, li_65, li_69, li_81, li_89, li_90, li_92, li_97, li_99, li_100, li_101, li_103, li_104, li_105, li_106, li_108, li_111, li_112, li_113, li_114, li_115, li_116, li_117, li_119, li_122, li_123, li_124, li_125, li_126, li_127, li_128, li_129, li_130, li_131, li_132, li_133, li_134, li_135, li_136, li_137, li_140, li_141, li_142, li_143, li_145, li_147, li_150, li_153, li_159, li_160, li_161, li_162, li_185, li_197, li_213, li_222, li_223, li_255, li_256, li_257, li_258, li_259, li_260, li_261, li_262, li_263, li_264, li_271, li_272, li_273, li_274, li_275, li_276, li_277, li_278, li_300, li_400, li_420, li_500, li_802, li_820, li_823, li_839, li_855, li_871, li_887, li_999, li_1000, li_1001, li_1002, li_1003, li_1004, li_1005, li_1006, li_1007, li_1008, li_1009, li_1010, li_1011, li_1012, li_1013, li_1014, li_1015, li_1016, li_1017, li_1018, li_1019, li_1020, li_1021, li_1022, li_1023, li_1707, li_4096, li_9999, li_65536, li_100000, li_1000000, li_1664525, li_100000000, li_252645135, li_858993459, li_1000000007, li_1013904223, li_1431655765, li_m1]
  refine wp_ite (fun q => ?_) (fun q => ?_)
  · rw [nI_leI (by omega) (by omega)] at q
    have : i = 12 := by omega
    subst this
    have f01 := f0.trans (f1.mono (by decide))
    have H1 := H.fr W0.sml f01 (by decide +kernel)
    rw [e_those3 hN H1 W0, bd_s, e_those4 hN H1 W0, bd_s, bnd_s, nz_diff]
    have e113 : m1 113 = m0 113 := f1.at 113 (by decide)
    exact w_rounds hN H W0 hd hdr f01 (by rw [e113, e4]) (by rw [e113, e5]) (by rw [e113, e6]) (fun h hh => Or.inl (hmo h (by omega)))
  · rw [nI_leI (by omega) (by omega)] at q
    rw [inb_nI (by omega) (by omega), chk_t, nI_clamp (by omega), bnd_s, nI_up]
    refine hX (12 - (i + 1)) _ _ (by omega) ⟨i + 1, by omega, rfl, rfl, Fr.set f1 (by decide), fun j hj => ?_⟩
    by_cases e : j = i
    · subst e; exact mset_at _ _ _ _
    · rw [mset_j e]; exact hmo j (by omega)
end SETTLE
