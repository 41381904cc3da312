/-! what is told and done: pairs -/
def heaI (c : Nat) : Nat := if c = 0 then 45 else if c = 1 then 57 else if c = 2 then 69 else 9
section TOLD
variable {w w' : Arr} {LN : List Lin} {m m' m2 : Mem} {N : Nat}
/-- a number of a HEARER: HANDS, LIKES, MANNERS, PAID -/
theorem HRep.hea_set {h c : Nat} {v : Int32} (H : HRep 2 LN w m) (W0 : WFc w) (hh : h < zh w) (hc : c = 0 ∨ c = 1 ∨ c = 2 ∨ c = 5) : HRep 2 LN (upd w (heaI c + h) v) (mset m 4 (h * 8 + c) v) := by
  have l := W0.lzh
  have q : heaI c = 45 ∨ heaI c = 57 ∨ heaI c = 69 ∨ heaI c = 9 := by
    rcases hc with rfl | rfl | rfl | rfl <;> decide
  refine H.one (j0 := 1) W0.sml (by decide) (H.fx.out (by decide)) (fun k h1 h2 h3 h4 => mset_ne (by omega)) ⟨?_, fun h' hh' c' hc' => ?_⟩ (fun j hj hne i hi => ud_n ?_)
  · rw [mset_ne (by decide), ud_n (by omega)]; exact H.hea.1
  · have ez : zh (upd w (heaI c + h) v) = zh w := by unfold zh; rw [ud_n (by omega)]
    rw [ez] at hh'
    have e7 : zt (upd w (heaI c + h) v) = zt w := by unfold zt; rw [ud_n (by omega)]
    have e8 : zv (upd w (heaI c + h) v) = zv w := by unfold zv; rw [ud_n (by omega)]
    have ec : cnt (upd w (heaI c + h) v) h' = cnt w h' := cnt_cg (fun i hi => ud_n (by omega)) W0.lzs h'
    show mset m 4 (h * 8 + c) v 4 (h' * 8 + c') = _
    by_cases e : h' = h ∧ c' = c
    · obtain ⟨rfl, rfl⟩ := e
      rw [mset_at]
      rcases hc with rfl | rfl | rfl | rfl
      · exact ud_s.symm
      · exact ud_s.symm
      · exact ud_s.symm
      · exact ud_s.symm
    · rw [mset_j (by omega), show m 4 (h' * 8 + c') = heaV w h' c' from H.hea.2 h' hh' c' hc']
      unfold heaV
      rw [e7, e8, ec]
      have hi : ∀ x c0, (c0 = 0 ∧ x = 45 ∨ c0 = 1 ∧ x = 57 ∨ c0 = 2 ∧ x = 69 ∨ c0 = 5 ∧ x = 9) → c' = c0 → w (x + h') = upd w (heaI c + h) v (x + h') := by
        intro x c0 hx hcc
        refine (ud_n ?_).symm
        rcases hc with rfl | rfl | rfl | rfl
        · show x + h' ≠ 45 + h; omega
        · show x + h' ≠ 57 + h; omega
        · show x + h' ≠ 69 + h; omega
        · show x + h' ≠ 9 + h; omega
      split
      · exact hi 45 0 (by omega) ‹_›
      · split
        · exact hi 57 1 (by omega) ‹_›
        · split
          · exact hi 69 2 (by omega) ‹_›
          · split
            · rfl
            · split
              · rfl
              · split
                · exact hi 9 5 (by omega) ‹_›
                · split
                  · exact (ud_n (by omega)).symm
                  · rfl
  · rintro rfl
    have hj' : j = 1 ∨ j = 3 ∨ j = 5 ∨ j = 7 ∨ j = 13 ∨ j = 15 ∨ j = 17 ∨ j = 19 ∨ j = 21 := by simpa [cmps] using hj
    rcases hj' with rfl | rfl | rfl | rfl | rfl | rfl | rfl | rfl | rfl
    all_goals simp [own] at hi
    all_goals omega
theorem hr_heaPut {h c : Nat} {v : Int32} (H : HRep 2 LN w m) (W0 : WFc w) (hh : h < zh w) (hc : c < 8) : f_X9_put N 3 (nI h) (nI c) v m = some (0, mset m 4 (h * 8 + c) v) :=
  e_put H.fx (show (3, 12, 8) ∈ tbs by decide) (H.hea.1.trans W0.h37) W0.lzh hh hc
/-- HEARERS, DEEDS may be told numbers: what stays good -/
theorem WFc.hea_set {h c v : Nat} (W0 : WFc w) (hh : h < zh w) (hc : c = 0 ∧ v ≤ 9 ∨ c = 1 ∧ v ≤ 9 ∨ c = 2 ∧ v ≤ 9 ∨ c = 5 ∧ v ≤ 99) : WFc (upd w (heaI c + h) (nI v)) := by
  have l := W0.lzh
  have q : heaI c = 45 ∨ heaI c = 57 ∨ heaI c = 69 ∨ heaI c = 9 := by
    rcases hc with ⟨rfl, -⟩ | ⟨rfl, -⟩ | ⟨rfl, -⟩ | ⟨rfl, -⟩ <;> decide
  obtain ⟨a1, a2, a3, a4, a5, a6, a7, a8, a9, b1, b2, b3, b4, b5, b6, b7⟩ := id W0
  have s := W0.sml
  obtain ⟨s1, s2, s3, s4, s5, s6⟩ := s
  have o : ∀ i, ¬ (45 ≤ i ∧ i < 81) → ¬ (9 ≤ i ∧ i < 21) → upd w (heaI c + h) (nI v) i = w i := fun i h1 h2 => ud_n (by omega)
  have ezh : zh (upd w (heaI c + h) (nI v)) = zh w := by unfold zh; rw [o 37 (by omega) (by omega)]
  have ezd : zd (upd w (heaI c + h) (nI v)) = zd w := by unfold zd; rw [o 38 (by omega) (by omega)]
  have ezs : zs (upd w (heaI c + h) (nI v)) = zs w := by unfold zs; rw [o 41 (by omega) (by omega)]
  have ezp : zp (upd w (heaI c + h) (nI v)) = zp w := by unfold zp; rw [o 42 (by omega) (by omega)]
  have ezq : zq (upd w (heaI c + h) (nI v)) = zq w := by unfold zq; rw [o 44 (by omega) (by omega)]
  unfold WFc
  rw [ezh, ezd, ezs, ezp, ezq, o 37 (by omega) (by omega), o 38 (by omega) (by omega), o 6 (by omega) (by omega), o 41 (by omega) (by omega), o 42 (by omega) (by omega), o 43 (by omega) (by omega), o 44 (by omega) (by omega), o 7 (by omega) (by omega), o 8 (by omega) (by omega)]
  refine ⟨a1, a2, a3, a4, a5, a6, a7, a8, a9, fun h' hh' => ?_, fun h hh h2 => ?_, fun d hd => ?_, fun i hi => ?_, fun i hi => ?_, fun v hv => ?_, fun i hi => ?_⟩
  · obtain ⟨g1, g2, g3, g4, g5⟩ := b1 h' hh'
    rw [o (185 + h') (by omega) (by omega)]
    have key : ∀ x bnd, isn (w (x + h')) bnd → (x + h' = heaI c + h → v ≤ bnd) → isn (upd w (heaI c + h) (nI v) (x + h')) bnd := by
      intro x bnd hg hx
      by_cases e : x + h' = heaI c + h
      · rw [e, ud_s]; exact isn.nI (hx e)
      · rw [ud_n e]; exact hg
    have hi : heaI 0 = 45 ∧ heaI 1 = 57 ∧ heaI 2 = 69 ∧ heaI 5 = 9 := by decide
    refine ⟨key 45 9 g1 (fun e => ?_), key 57 9 g2 (fun e => ?_), key 69 9 g3 (fun e => ?_), key 9 99 g4 (fun e => ?_), g5⟩
    all_goals rcases hc with ⟨rfl, hv⟩ | ⟨rfl, hv⟩ | ⟨rfl, hv⟩ | ⟨rfl, hv⟩
    all_goals omega
  · rw [o (185 + h) (by omega) (by omega)]
    exact b2 h hh h2
  · rw [o (81 + d) (by omega) (by omega), o (89 + d) (by omega) (by omega)]
    exact b3 d hd
  · rw [o (105 + 3 * i) (by omega) (by omega), o (105 + 3 * i + 1) (by omega) (by omega), o (105 + 3 * i + 2) (by omega) (by omega)]
    exact b4 i hi
  · rw [o (153 + 2 * i) (by omega) (by omega), o (153 + 2 * i + 1) (by omega) (by omega)]
    exact b5 i hi
  · rw [o (213 + v) (by omega) (by omega)]
    exact b6 v hv
  · rw [o (197 + 2 * i) (by omega) (by omega), o (197 + 2 * i + 1) (by omega) (by omega)]
    exact b7 i hi
theorem WFc.dee_set {d v : Nat} (W0 : WFc w) (hd : d < zd w) (hv : v ≤ 9) : WFc (upd w (81 + d) (nI v)) := by
  have l := W0.lzd
  obtain ⟨a1, a2, a3, a4, a5, a6, a7, a8, a9, b1, b2, b3, b4, b5, b6, b7⟩ := id W0
  obtain ⟨s1, s2, s3, s4, s5, s6⟩ := W0.sml
  have o : ∀ i, ¬ (81 ≤ i ∧ i < 89) → upd w (81 + d) (nI v) i = w i := fun i h1 => ud_n (by omega)
  have ezh : zh (upd w (81 + d) (nI v)) = zh w := by unfold zh; rw [o 37 (by omega)]
  have ezd : zd (upd w (81 + d) (nI v)) = zd w := by unfold zd; rw [o 38 (by omega)]
  have ezs : zs (upd w (81 + d) (nI v)) = zs w := by unfold zs; rw [o 41 (by omega)]
  have ezp : zp (upd w (81 + d) (nI v)) = zp w := by unfold zp; rw [o 42 (by omega)]
  have ezq : zq (upd w (81 + d) (nI v)) = zq w := by unfold zq; rw [o 44 (by omega)]
  unfold WFc
  rw [ezh, ezd, ezs, ezp, ezq, o 37 (by omega), o 38 (by omega), o 6 (by omega), o 41 (by omega), o 42 (by omega), o 43 (by omega), o 44 (by omega), o 7 (by omega), o 8 (by omega)]
  refine ⟨a1, a2, a3, a4, a5, a6, a7, a8, a9, fun h hh => ?_, fun h hh h2 => ?_, fun e he => ?_, fun i hi => ?_, fun i hi => ?_, fun v hv => ?_, fun i hi => ?_⟩
  · rw [o (45 + h) (by omega), o (57 + h) (by omega), o (69 + h) (by omega), o (9 + h) (by omega), o (185 + h) (by omega)]
    exact b1 h hh
  · rw [o (185 + h) (by omega)]
    exact b2 h hh h2
  · rw [o (89 + e) (by omega)]
    refine ⟨?_, (b3 e he).2⟩
    by_cases q : e = d
    · rw [q, ud_s]; exact isn.nI hv
    · rw [ud_n (by omega)]; exact (b3 e he).1
  · rw [o (105 + 3 * i) (by omega), o (105 + 3 * i + 1) (by omega), o (105 + 3 * i + 2) (by omega)]
    exact b4 i hi
  · rw [o (153 + 2 * i) (by omega), o (153 + 2 * i + 1) (by omega)]
    exact b5 i hi
  · rw [o (213 + v) (by omega)]
    exact b6 v hv
  · rw [o (197 + 2 * i) (by omega), o (197 + 2 * i + 1) (by omega)]
    exact b7 i hi
theorem WFm.up {B i : Nat} {v : Int32} (h : WFm B w) (h0 : i ≠ 0) (h4 : i ≠ 4) : WFm B (upd w i v) := by
  obtain ⟨a, b, g0, g4, g⟩ := h
  exact ⟨a, b, by rw [ud_n (fun z => h0 z.symm)]; exact g0, by rw [ud_n (fun z => h4 z.symm)]; exact g4, g⟩
/-- one place of the state is told, one cell of the class's; what could be undone is forgotten -/
theorem told1 {c j i : Nat} {v : Int32} (hI : Inv m) (H' : HRep 2 LN (upd (m 124) i v) (mset m c j v)) (W' : WFc (upd (m 124) i v)) (hc : 2 < c ∧ c < 25) (h0 : i ≠ 0) (h4 : i ≠ 4) (h40 : i ≠ 40) (h823 : i < 823)
    (G : Good LN (m 124)) {x y : Mem} (ex : x = mset (mset m c j v) 48 2 (nI 0)) (ey : y = mset (mset x 124 i v) 123 4 (nI 0)) : Inv y := by
  obtain ⟨-, -, -, ⟨k, p, hk, hp, e2, e1, e3, hs⟩, -⟩ := id hI
  subst ex
  subst ey
  refine hI.re (LN := LN) (w' := upd (m 124) i v) (H'.fr W'.sml (Fr.set (S := [(48, 48), (123, 124)]) (Fr.set (Fr.set Fr.rf (by decide)) (by decide)) (by decide)) (by decide +kernel)) ?_ ⟨W', G.2.1.up h0 h4, G.2.2.up h40 h823⟩ (PastR.zero hp ?_ ?_ ?_) (fun k hk => ?_) ?_ ?_ ?_
  · rw [mset_ne (by decide), mset_eq, mset_ne (by decide), mset_ne (by omega)]
  · rw [mset_ne (by decide), mset_ne (by decide), mset_j (by decide), mset_ne (by omega)]; exact e1
  · rw [mset_ne (by decide), mset_ne (by decide), mset_at]
  · exact mset_at _ _ _ _
  · rw [mset_ne (by omega), mset_ne (by omega), mset_ne (by omega), mset_ne (by omega)]
  · rw [mset_ne (by omega), mset_ne (by omega), mset_ne (by omega), mset_ne (by omega)]; exact ⟨rfl, rfl⟩
  · rw [mset_ne (by omega), mset_ne (by omega), mset_ne (by omega), mset_ne (by omega)]
  · intro q hq
    rw [mset_j (by omega), mset_k (by omega), mset_k (by omega), mset_k (by omega)]
theorem e_setTo {t most wide n c hi : Nat} {a b : Int32} (hF : Fx m) (hp : (t, most, wide) ∈ tbs) (hn : m t 3 = nI n) (hnm : n ≤ most) (hc : c < wide) (hhi : hi < 1000) :
    f_X11_setTo N t a (nI c) b (nI hi) m = if inb a n = true ∧ decide (nI 0 ≤ b ∧ b ≤ nI hi) = true then some (1, mset m (t + 1) (nv a * wide + c) b) else some (0, m) := by
  obtain ⟨o1, o2, o3, o4, o5⟩ := tbs_ok _ hp
  simp only at o3
  unfold f_X11_setTo
  rw [e_has hF hp hn hnm, bd_s]
  rcases inb_cases a (n := n) (by omega) with ⟨e, -⟩ | ⟨k, hk, rfl⟩
  · rw [e, if_pos (by decide), if_neg (fun z => by cases z.1)]
  · rw [inb_nI hk (by omega), if_neg (by decide), e_within, bd_s]
    cases hq : decide ((0 : Int32) ≤ b ∧ b ≤ nI hi) with
    | false => rw [if_pos (by decide), if_neg (fun z => by rw [show decide (nI 0 ≤ b ∧ b ≤ nI hi) = false from hq] at z; cases z.2)]
    | true =>
      rw [if_neg (by decide), e_put hF hp hn hnm hk hc, bd_s, if_pos ⟨rfl, hq⟩, nv_nI (by omega)]
theorem pr_set {a b c : Int32} (hN : 20000 ≤ N) : Pr (f_X11_set N a b c) (f_X12_set N a b c) := by
  intro m hI
  obtain ⟨LN, H, G, ⟨k, p, hk, hp, e2, e1, e3, hs⟩, -⟩ := id hI
  have lh := G.1.lzh
  have ld := G.1.lzd
  have e37 := G.1.h37
  have e38 := G.1.h38
  have no : f_X12_canSet N a b c m = some (nI 0, m) → Wp (f_X12_set N a b c m) (fun v2 m2 => nI 0 = v2 ∧ Inv m2) := by
    intro h
    unfold f_X12_set
    rw [h, bd_s, if_pos (by decide)]
    exact wp_ret ⟨rfl, hI⟩
  have hF := H.fx
  have tH : (3, 12, 8) ∈ tbs := by decide
  have tD : (5, 8, 5) ∈ tbs := by decide
  have nH : m 3 3 = nI (zh (m 124)) := H.hea.1.trans e37
  have nD : m 5 3 = nI (zd (m 124)) := H.dee.1.trans e38
  have dft : ∀ (hx : ¬ a = nI 0 ∧ decide (nI 1 ≤ a ∧ a ≤ nI 3) = false ∧ ¬ a = nI 4 ∧ ¬ a = nI 5), f_X12_canSet N a b c m = some (nI 0, m) := by
    rintro ⟨h0, h13, h4, h5⟩
    unfold f_X12_canSet
    simp only [li_0, li_1, li_2, li_3, li_4, li_5, li_6, li_7, li_8, li_9, li_10, li_11, li_12, li_13, li_14, li_15, li_16, li_17, li_18, li_19, li_20, li_21, li_22, li_23, li_24, li_25, li_26, li_27, li_28, li_29, li_30, li_31, li_32, li_37, li_38, li_39, li_40, li_41, li_42, li_43, li_44, li_45, li_46, li_47, li_48, li_49, li_50, li_57, li_59, li_60, li_61, li_62, li_63, li_64, li_65, li_69, li_81, li_89, li_90, li_92, li_97, li_99, li_100, li_101, li_103, li_104, li_105, li_106, li_108, li_111, li_112, li_113, li_114, li_115, li_116, li_117, li_119, li_122, li_123, li_124, li_125, li_126, li_127, li_128, li_129, li_130, li_131, li_132, li_133, li_134, li_135, li_136, li_137, li_140, li_141, li_142, li_143, li_145, li_147, li_150, li_153, li_159, li_160, li_161, li_162, li_185, li_197, li_213, li_222, li_223, li_255, li_256, li_257, li_258, li_259, li_260, li_261, li_262, li_263, li_264, li_271, li_272, li_273, li_274, li_275, li_276, li_277, li_278, li_300, li_400, li_420, li_500, li_802, li_820, li_823, li_839, li_855, li_871, li_887, li_999, li_1000, li_1001, li_1002, li_1003, li_1004, li_1005, li_1006, li_1007, li_1008, li_1009, li_1010, li_1011, li_1012, li_1013, li_1014, li_1015, li_1016, li_1017, li_1018, li_1019, li_1020, li_1021, li_1022, li_1023, li_1707, li_4096, li_9999, li_65536, li_100000, li_1000000, li_1664525, li_100000000, li_252645135, li_858993459, li_1000000007, li_1013904223, li_1431655765, li_m1]
    rw [if_neg h0, e_isIn, h13, bd_s, if_pos (by decide), e_isDeed rfl G.1, bd_s]
    split
    · rfl
    · first | rfl | rw [if_neg h4, if_neg h5]
  unfold f_X11_set
  simp only [li_0, li_1, li_2, li_3, li_4, li_5, li_6, li_7, li_8, li_9, li_10, li_11, li_12, li_13, li_14, li_15, li_16, li_17, li_18, li_19, li_20, li_21, li_22, li_23, li_24, li_25, li_26, li_27, li_28, li_29, li_30, li_31, li_32, li_37, li_38, li_39, li_40, li_41, li_42, li_43, li_44, li_45, li_46, li_47, li_48, li_49, li_50, li_57, li_59, li_60, li_61, li_62, li_63, li_64, li_65, li_69, li_81, li_89, li_90, li_92, li_97, li_99, li_100, li_101, li_103, li_104, li_105, li_106, li_108, li_111, li_112, li_113, li_114, li_115, li_116, li_117, li_119, li_122, li_123, li_124, li_125, li_126, li_127, li_128, li_129, li_130, li_131, li_132, li_133, li_134, li_135, li_136, li_137, li_140, li_141, li_142, li_143, li_145, li_147, li_150, li_153, li_159, li_160, li_161, li_162, li_185, li_197, li_213, li_222, li_223, li_255, li_256, li_257, li_258, li_259, li_260, li_261, li_262, li_263, li_264, li_271, li_272, li_273, li_274, li_275, li_276, li_277, li_278, li_300, li_400, li_420, li_500, li_802, li_820, li_823, li_839, li_855, li_871, li_887, li_999, li_1000, li_1001, li_1002, li_1003, li_1004, li_1005, li_1006, li_1007, li_1008, li_1009, li_1010, li_1011, li_1012, li_1013, li_1014, li_1015, li_1016, li_1017, li_1018, li_1019, li_1020, li_1021, li_1022, li_1023, li_1707, li_4096, li_9999, li_65536, li_100000, li_1000000, li_1664525, li_100000000, li_252645135, li_858993459, li_1000000007, li_1013904223, li_1431655765, li_m1]
  rcases pk_ix a (n := 6) (by decide) with ha | ha | ⟨j, hj, rfl⟩
  · refine wp_eq (swt_lo ha (by decide)) ?_
    rw [if_pos trivial]
    exact wp_ret (no (dft ⟨fun z => by rw [z] at ha; exact absurd ha (by decide), decide_eq_false (fun z => Int32.not_lt.mpr z.1 (Int32.lt_trans ha (by decide))), fun z => by rw [z] at ha; exact absurd ha (by decide), fun z => by rw [z] at ha; exact absurd ha (by decide)⟩))
  · refine wp_eq (swt_hi ha (by decide) (by simp)) ?_
    rw [if_pos trivial]
    exact wp_ret (no (dft ⟨fun z => by rw [z] at ha; exact absurd ha (by decide), decide_eq_false (fun z => absurd (Int32.le_trans ha z.2) (by decide)), fun z => by rw [z] at ha; exact absurd ha (by decide), fun z => by rw [z] at ha; exact absurd ha (by decide)⟩))
  · match j, hj with
    | 0, _ =>
      refine wp_eq (swt_at 0 (by decide) rfl) ?_
      rw [e_within, bd_s]
      cases hq : decide (nI 0 ≤ c ∧ c ≤ nI 1000) with
      | false =>
        rw [if_pos (by decide), if_pos (by decide), isB_b2i, chk_t]
        refine wp_ret (no ?_)
        unfold f_X12_canSet
        simp only [li_0, li_1, li_2, li_3, li_4, li_5, li_6, li_7, li_8, li_9, li_10, li_11, li_12, li_13, li_14, li_15, li_16, li_17, li_18, li_19, li_20, li_21, li_22, li_23, li_24, li_25, li_26, li_27, li_28, li_29, li_30, li_31, li_32, li_37, li_38, li_39, li_40, li_41, li_42, li_43, li_44, li_45, li_46, li_47, li_48, li_49, li_50, li_57, li_59, li_60, li_61, li_62, li_63, li_64, li_65, li_69, li_81, li_89, li_90, li_92, li_97, li_99, li_100, li_101, li_103, li_104, li_105, li_106, li_108, li_111, li_112, li_113, li_114, li_115, li_116, li_117, li_119, li_122, li_123, li_124, li_125, li_126, li_127, li_128, li_129, li_130, li_131, li_132, li_133, li_134, li_135, li_136, li_137, li_140, li_141, li_142, li_143, li_145, li_147, li_150, li_153, li_159, li_160, li_161, li_162, li_185, li_197, li_213, li_222, li_223, li_255, li_256, li_257, li_258, li_259, li_260, li_261, li_262, li_263, li_264, li_271, li_272, li_273, li_274, li_275, li_276, li_277, li_278, li_300, li_400, li_420, li_500, li_802, li_820, li_823, li_839, li_855, li_871, li_887, li_999, li_1000, li_1001, li_1002, li_1003, li_1004, li_1005, li_1006, li_1007, li_1008, li_1009, li_1010, li_1011, li_1012, li_1013, li_1014, li_1015, li_1016, li_1017, li_1018, li_1019, li_1020, li_1021, li_1022, li_1023, li_1707, li_4096, li_9999, li_65536, li_100000, li_1000000, li_1664525, li_100000000, li_252645135, li_858993459, li_1000000007, li_1013904223, li_1431655765, li_m1]
        rw [if_pos trivial, e_isIn, hq, bd_s, isB_b2i, chk_t]
        rfl
      | true =>
        rw [if_neg (by decide), hr_setHour H (by decide), bd_s, if_neg (by decide), e_forget, bd_s, isB_b2i, chk_t]
        refine wp_ret ?_
        unfold f_X12_set f_X12_canSet
        simp only [li_0, li_1, li_2, li_3, li_4, li_5, li_6, li_7, li_8, li_9, li_10, li_11, li_12, li_13, li_14, li_15, li_16, li_17, li_18, li_19, li_20, li_21, li_22, li_23, li_24, li_25, li_26, li_27, li_28, li_29, li_30, li_31, li_32, li_37, li_38, li_39, li_40, li_41, li_42, li_43, li_44, li_45, li_46, li_47, li_48, li_49, li_50, li_57, li_59, li_60, li_61, li_62, li_63, li_64, li_65, li_69, li_81, li_89, li_90, li_92, li_97, li_99, li_100, li_101, li_103, li_104, li_105, li_106, li_108, li_111, li_112, li_113, li_114, li_115, li_116, li_117, li_119, li_122, li_123, li_124, li_125, li_126, li_127, li_128, li_129, li_130, li_131, li_132, li_133, li_134, li_135, li_136, li_137, li_140, li_141, li_142, li_143, li_145, li_147, li_150, li_153, li_159, li_160, li_161, li_162, li_185, li_197, li_213, li_222, li_223, li_255, li_256, li_257, li_258, li_259, li_260, li_261, li_262, li_263, li_264, li_271, li_272, li_273, li_274, li_275, li_276, li_277, li_278, li_300, li_400, li_420, li_500, li_802, li_820, li_823, li_839, li_855, li_871, li_887, li_999, li_1000, li_1001, li_1002, li_1003, li_1004, li_1005, li_1006, li_1007, li_1008, li_1009, li_1010, li_1011, li_1012, li_1013, li_1014, li_1015, li_1016, li_1017, li_1018, li_1019, li_1020, li_1021, li_1022, li_1023, li_1707, li_4096, li_9999, li_65536, li_100000, li_1000000, li_1664525, li_100000000, li_252645135, li_858993459, li_1000000007, li_1013904223, li_1431655765, li_m1]
        rw [if_pos trivial, e_isIn, hq, bd_s, isB_b2i, chk_t, bd_s, if_neg (by decide), if_pos trivial, bnd_s, e_forgets, bd_s]
        exact wp_ret ⟨rfl, told1 (LN := LN) (c := 8) (j := 3) (i := 39) (v := c) hI (H.hou_set (c := 3) G.1 (by decide)) (G.1.up (by decide)) (by decide) (by decide) (by decide) (by decide) (by decide) G rfl rfl⟩
    | j + 1, hj5 =>
      have hea : ∀ q, q < 3 → j = q → Wp (bd (f_X11_setTo N 3 b (nI q) c (nI 9) m) fun r_83 m_83 => if r_83 = nI 0 then (chk (isB r_83) (some (r_83, m_83))) else (bd (f_X4_forget N m_83) fun _ m_180 => chk (isB r_83) (some (r_83, m_180)))) (fun v1 m1 => Wp (f_X12_set N (nI (j + 1)) b c m1) (fun v2 m2 => v1 = v2 ∧ Inv m2)) := by
        rintro q hq3 rfl
        rw [e_setTo hF tH nH lh (by omega) (by decide)]
        have hcan : ∀ m1 : Mem, m1 124 = m 124 → f_X12_canSet N (nI (j + 1)) b c m1 = some (b2i (inb b (zh (m 124)) && decide (nI 0 ≤ c ∧ c ≤ nI 9)), m1) := by
          intro m1 h1
          unfold f_X12_canSet
          simp only [li_0, li_1, li_2, li_3, li_4, li_5, li_6, li_7, li_8, li_9, li_10, li_11, li_12, li_13, li_14, li_15, li_16, li_17, li_18, li_19, li_20, li_21, li_22, li_23, li_24, li_25, li_26, li_27, li_28, li_29, li_30, li_31, li_32, li_37, li_38, li_39, li_40, li_41, li_42, li_43, li_44, li_45, li_46, li_47, li_48, li_49, li_50, li_57, li_59, li_60, li_61, li_62, li_63, li_64, li_65, li_69, li_81, li_89, li_90, li_92, li_97, li_99, li_100, li_101, li_103, li_104, li_105, li_106, li_108, li_111, li_112, li_113, li_114, li_115, li_116, li_117, li_119, li_122, li_123, li_124, li_125, li_126, li_127, li_128, li_129, li_130, li_131, li_132, li_133, li_134, li_135, li_136, li_137, li_140, li_141, li_142, li_143, li_145, li_147, li_150, li_153, li_159, li_160, li_161, li_162, li_185, li_197, li_213, li_222, li_223, li_255, li_256, li_257, li_258, li_259, li_260, li_261, li_262, li_263, li_264, li_271, li_272, li_273, li_274, li_275, li_276, li_277, li_278, li_300, li_400, li_420, li_500, li_802, li_820, li_823, li_839, li_855, li_871, li_887, li_999, li_1000, li_1001, li_1002, li_1003, li_1004, li_1005, li_1006, li_1007, li_1008, li_1009, li_1010, li_1011, li_1012, li_1013, li_1014, li_1015, li_1016, li_1017, li_1018, li_1019, li_1020, li_1021, li_1022, li_1023, li_1707, li_4096, li_9999, li_65536, li_100000, li_1000000, li_1664525, li_100000000, li_252645135, li_858993459, li_1000000007, li_1013904223, li_1431655765, li_m1]
          rw [if_neg (nI_ne (by omega) (by omega) (by decide)), e_isIn, rng_is (by omega) (by decide) (by decide), decide_eq_true (by omega), bd_s, if_neg (by decide), e_isHearer h1 G.1, bd_s, e_isIn]
          cases inb b (zh (m 124)) with
          | false => rw [if_pos (by decide)]; rfl
          | true =>
            rw [if_neg (by decide), bd_s]
            cases decide (nI 0 ≤ c ∧ c ≤ nI 9) with
            | false => rw [if_pos (by decide)]; rfl
            | true => rw [if_neg (by decide)]; rfl
        by_cases hq : inb b (zh (m 124)) = true ∧ decide (nI 0 ≤ c ∧ c ≤ nI 9) = true
        · rw [if_pos hq, bd_s, if_neg (show ¬ (1 : Int32) = nI 0 by decide), e_forget, bd_s, show isB 1 = true by decide, chk_t]
          obtain ⟨h, hh, rfl⟩ := inb_of hq.1 (by omega)
          obtain ⟨v, -, hv, rfl⟩ := rng_of (by decide) (by decide) hq.2
          rw [nv_nI (by omega)]
          refine wp_ret ?_
          unfold f_X12_set
          rw [hcan _ (by rw [mset_ne (by decide), mset_ne (by decide)]), hq.1, hq.2, bd_s, if_neg (by decide)]
          simp only [li_0, li_1, li_2, li_3, li_4, li_5, li_6, li_7, li_8, li_9, li_10, li_11, li_12, li_13, li_14, li_15, li_16, li_17, li_18, li_19, li_20, li_21, li_22, li_23, li_24, li_25, li_26, li_27, li_28, li_29, li_30, li_31, li_32, li_37, li_38, li_39, li_40, li_41, li_42, li_43, li_44, li_45, li_46, li_47, li_48, li_49, li_50, li_57, li_59, li_60, li_61, li_62, li_63, li_64, li_65, li_69, li_81, li_89, li_90, li_92, li_97, li_99, li_100, li_101, li_103, li_104, li_105, li_106, li_108, li_111, li_112, li_113, li_114, li_115, li_116, li_117, li_119, li_122, li_123, li_124, li_125, li_126, li_127, li_128, li_129, li_130, li_131, li_132, li_133, li_134, li_135, li_136, li_137, li_140, li_141, li_142, li_143, li_145, li_147, li_150, li_153, li_159, li_160, li_161, li_162, li_185, li_197, li_213, li_222, li_223, li_255, li_256, li_257, li_258, li_259, li_260, li_261, li_262, li_263, li_264, li_271, li_272, li_273, li_274, li_275, li_276, li_277, li_278, li_300, li_400, li_420, li_500, li_802, li_820, li_823, li_839, li_855, li_871, li_887, li_999, li_1000, li_1001, li_1002, li_1003, li_1004, li_1005, li_1006, li_1007, li_1008, li_1009, li_1010, li_1011, li_1012, li_1013, li_1014, li_1015, li_1016, li_1017, li_1018, li_1019, li_1020, li_1021, li_1022, li_1023, li_1707, li_4096, li_9999, li_65536, li_100000, li_1000000, li_1664525, li_100000000, li_252645135, li_858993459, li_1000000007, li_1013904223, li_1431655765, li_m1]
          rw [if_neg (nI_ne (by omega) (by omega) (by decide)), if_neg (nI_ne (by omega) (by omega) (by decide)), if_neg (nI_ne (by omega) (by omega) (by decide)), nI_dn]
          simp only [pk_mul, nI_add]
          rw [inb_nI (by omega) (by omega), chk_t, nI_clamp (by omega), bnd_s, e_forgets, bd_s]
          have ei : 45 + 12 * j + h = heaI j + h := by
            have : ∀ j, j < 3 → 45 + 12 * j = heaI j := by decide
            rw [this j hq3]
          have hi9 : 45 ≤ heaI j ∧ heaI j ≤ 69 := by
            have : ∀ j, j < 3 → 45 ≤ heaI j ∧ heaI j ≤ 69 := by decide
            exact this j hq3
          rw [ei]
          exact wp_ret ⟨rfl, told1 (LN := LN) (c := 4) (j := h * 8 + j) (i := heaI j + h) (v := nI v) hI (H.hea_set G.1 hh (by omega)) (G.1.hea_set hh (by omega)) (by decide) (by omega) (by omega) (by omega) (by omega) G rfl rfl⟩
        · rw [if_neg hq, bd_s, if_pos (by decide), show isB 0 = true by decide, chk_t]
          refine wp_ret ?_
          have := hcan m rfl
          have hf : (inb b (zh (m 124)) && decide (nI 0 ≤ c ∧ c ≤ nI 9)) = false := by
            cases h1 : inb b (zh (m 124)) with
            | false => rfl
            | true =>
              cases h2 : decide (nI 0 ≤ c ∧ c ≤ nI 9) with
              | false => rfl
              | true => exact absurd ⟨h1, h2⟩ hq
          rw [hf] at this
          exact no this
      have dee : ∀ q col hi i0, (q = 3 ∧ col = 0 ∧ hi = 9 ∧ i0 = 81) ∨ (q = 4 ∧ col = 3 ∧ hi = 99 ∧ i0 = 21) → j = q → Wp (bd (f_X11_setTo N 5 b (nI col) c (nI hi) m) fun r_83 m_83 => if r_83 = nI 0 then (chk (isB r_83) (some (r_83, m_83))) else (bd (f_X4_forget N m_83) fun _ m_180 => chk (isB r_83) (some (r_83, m_180)))) (fun v1 m1 => Wp (f_X12_set N (nI (j + 1)) b c m1) (fun v2 m2 => v1 = v2 ∧ Inv m2)) := by
        rintro q col hi i0 hcase rfl
        rw [e_setTo hF tD nD ld (by omega) (by omega)]
        have hcan : ∀ m1 : Mem, m1 124 = m 124 → f_X12_canSet N (nI (j + 1)) b c m1 = some (b2i (inb b (zd (m 124)) && decide (nI 0 ≤ c ∧ c ≤ nI hi)), m1) := by
          intro m1 h1
          unfold f_X12_canSet
          simp only [li_0, li_1, li_2, li_3, li_4, li_5, li_6, li_7, li_8, li_9, li_10, li_11, li_12, li_13, li_14, li_15, li_16, li_17, li_18, li_19, li_20, li_21, li_22, li_23, li_24, li_25, li_26, li_27, li_28, li_29, li_30, li_31, li_32, li_37, li_38, li_39, li_40, li_41, li_42, li_43, li_44, li_45, li_46, li_47, li_48, li_49, li_50, li_57, li_59, li_60, li_61, li_62, li_63, li_64, li_65, li_69, li_81, li_89, li_90, li_92, li_97, li_99, li_100, li_101, li_103, li_104, li_105, li_106, li_108, li_111, li_112, li_113, li_114, li_115, li_116, li_117, li_119, li_122, li_123, li_124, li_125, li_126, li_127, li_128, li_129, li_130, li_131, li_132, li_133, li_134, li_135, li_136, li_137, li_140, li_141, li_142, li_143, li_145, li_147, li_150, li_153, li_159, li_160, li_161, li_162, li_185, li_197, li_213, li_222, li_223, li_255, li_256, li_257, li_258, li_259, li_260, li_261, li_262, li_263, li_264, li_271, li_272, li_273, li_274, li_275, li_276, li_277, li_278, li_300, li_400, li_420, li_500, li_802, li_820, li_823, li_839, li_855, li_871, li_887, li_999, li_1000, li_1001, li_1002, li_1003, li_1004, li_1005, li_1006, li_1007, li_1008, li_1009, li_1010, li_1011, li_1012, li_1013, li_1014, li_1015, li_1016, li_1017, li_1018, li_1019, li_1020, li_1021, li_1022, li_1023, li_1707, li_4096, li_9999, li_65536, li_100000, li_1000000, li_1664525, li_100000000, li_252645135, li_858993459, li_1000000007, li_1013904223, li_1431655765, li_m1]
          rw [if_neg (nI_ne (by omega) (by omega) (by decide)), e_isIn, rng_is (by omega) (by decide) (by decide), decide_eq_false (by omega), bd_s, if_pos (by decide), e_isDeed h1 G.1, bd_s, e_isIn, e_isIn]
          cases inb b (zd (m 124)) with
          | false => rw [if_pos (by decide)]; rfl
          | true =>
            rw [if_neg (by decide)]
            rcases hcase with ⟨rfl, rfl, rfl, rfl⟩ | ⟨rfl, rfl, rfl, rfl⟩
            · rw [if_pos rfl, bd_s]
              cases decide (nI 0 ≤ c ∧ c ≤ nI 9) with
              | false => rw [if_pos (by decide)]; rfl
              | true => rw [if_neg (by decide)]; rfl
            · rw [if_neg (by decide), if_pos rfl, bd_s]
              cases decide (nI 0 ≤ c ∧ c ≤ nI 99) with
              | false => rw [if_pos (by decide)]; rfl
              | true => rw [if_neg (by decide)]; rfl
        by_cases hq : inb b (zd (m 124)) = true ∧ decide (nI 0 ≤ c ∧ c ≤ nI hi) = true
        · rw [if_pos hq, bd_s, if_neg (show ¬ (1 : Int32) = nI 0 by decide), e_forget, bd_s, show isB 1 = true by decide, chk_t]
          obtain ⟨d, hd, rfl⟩ := inb_of hq.1 (by omega)
          obtain ⟨v, -, hv, rfl⟩ := rng_of (by decide) (by omega) hq.2
          rw [nv_nI (by omega)]
          refine wp_ret ?_
          unfold f_X12_set
          rw [hcan _ (by rw [mset_ne (by decide), mset_ne (by decide)]), hq.1, hq.2, bd_s, if_neg (by decide)]
          simp only [li_0, li_1, li_2, li_3, li_4, li_5, li_6, li_7, li_8, li_9, li_10, li_11, li_12, li_13, li_14, li_15, li_16, li_17, li_18, li_19, li_20, li_21, li_22, li_23, li_24, li_25, li_26, li_27, li_28, li_29, li_30, li_31, li_32, li_37, li_38, li_39, li_40, li_41, li_42, li_43, li_44, li_45, li_46, li_47, li_48, li_49, li_50, li_57, li_59, li_60, li_61, li_62, li_63, li_64, li_65, li_69, li_81, li_89, li_90, li_92, li_97, li_99, li_100, li_101, li_103, li_104, li_105, li_106, li_108, li_111, li_112, li_113, li_114, li_115, li_116, li_117, li_119, li_122, li_123, li_124, li_125, li_126, li_127, li_128, li_129, li_130, li_131, li_132, li_133, li_134, li_135, li_136, li_137, li_140, li_141, li_142, li_143, li_145, li_147, li_150, li_153, li_159, li_160, li_161, li_162, li_185, li_197, li_213, li_222, li_223, li_255, li_256, li_257, li_258, li_259, li_260, li_261, li_262, li_263, li_264, li_271, li_272, li_273, li_274, li_275, li_276, li_277, li_278, li_300, li_400, li_420, li_500, li_802, li_820, li_823, li_839, li_855, li_871, li_887, li_999, li_1000, li_1001, li_1002, li_1003, li_1004, li_1005, li_1006, li_1007, li_1008, li_1009, li_1010, li_1011, li_1012, li_1013, li_1014, li_1015, li_1016, li_1017, li_1018, li_1019, li_1020, li_1021, li_1022, li_1023, li_1707, li_4096, li_9999, li_65536, li_100000, li_1000000, li_1664525, li_100000000, li_252645135, li_858993459, li_1000000007, li_1013904223, li_1431655765, li_m1, nI_add]
          rcases hcase with ⟨rfl, rfl, rfl, rfl⟩ | ⟨rfl, rfl, rfl, rfl⟩
          · rw [if_neg (by decide), if_pos rfl, inb_nI (by omega) (by omega), chk_t, nI_clamp (by omega), bnd_s, e_forgets, bd_s]
            exact wp_ret ⟨rfl, told1 (LN := LN) (c := 6) (j := d * 5 + 0) (i := 81 + d) (v := nI v) hI (H.dee_set (c := 0) G.1 hd (by decide)) (G.1.dee_set hd (by omega)) (by decide) (by omega) (by omega) (by omega) (by omega) G rfl rfl⟩
          · rw [if_neg (by decide), if_neg (by decide), if_pos rfl, inb_nI (by omega) (by omega), chk_t, nI_clamp (by omega), bnd_s, e_forgets, bd_s]
            exact wp_ret ⟨rfl, told1 (LN := LN) (c := 6) (j := d * 5 + 3) (i := 21 + d) (v := nI v) hI (H.dee_set (c := 3) G.1 hd (by decide)) (G.1.up (by simp [ownF]; omega)) (by decide) (by omega) (by omega) (by omega) (by omega) G rfl rfl⟩
        · rw [if_neg hq, bd_s, if_pos (by decide), show isB 0 = true by decide, chk_t]
          refine wp_ret ?_
          have := hcan m rfl
          have hf : (inb b (zd (m 124)) && decide (nI 0 ≤ c ∧ c ≤ nI hi)) = false := by
            cases h1 : inb b (zd (m 124)) with
            | false => rfl
            | true =>
              cases h2 : decide (nI 0 ≤ c ∧ c ≤ nI hi) with
              | false => rfl
              | true => exact absurd ⟨h1, h2⟩ hq
          rw [hf] at this
          exact no this
      match j, hj5, hea, dee with
      | 0, _, hea, _ => exact wp_eq (swt_at 1 (by decide) rfl) (hea 0 (by decide) rfl)
      | 1, _, hea, _ => exact wp_eq (swt_at 2 (by decide) rfl) (hea 1 (by decide) rfl)
      | 2, _, hea, _ => exact wp_eq (swt_at 3 (by decide) rfl) (hea 2 (by decide) rfl)
      | 3, _, _, dee => exact wp_eq (swt_at 4 (by decide) rfl) (dee 3 0 9 81 (by decide) rfl)
      | 4, _, _, dee => exact wp_eq (swt_at 5 (by decide) rfl) (dee 4 3 99 21 (by decide) rfl)
end TOLD
