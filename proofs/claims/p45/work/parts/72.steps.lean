/-! the class's reading of a line of THE LAW, step by step -/
def tkK (B : Nat → Nat) (n : Nat) (j : Nat) : Nat := kT B n (psT B n j)
def tkV (B : Nat → Nat) (n : Nat) (j : Nat) : Int32 := vT B n (psT B n j)
/-- what else a line keeps, and what it leaves as it was -/
def Ce (li bk sd md fn fl pl : Nat) (m0 m : Mem) : Prop :=
  m 103 7 = nI bk ∧ m 103 8 = nI sd ∧ m 103 9 = nI li ∧ m 104 3 = nI (li + 1) ∧ m 105 (li * 4 + 2) = nI md ∧ m 105 (li * 4 + 3) = nI fn ∧ m 103 3 = nI fl ∧ ((fl ≠ 0 → m 103 4 = nI pl) ∧ (fl = 0 → m 103 4 = m0 103 4)) ∧
  (∀ x, x ≠ 99 → x ≠ 103 → (x < 105 ∨ 109 < x) → m x = m0 x) ∧ (∀ i, i ≠ li * 4 + 2 → i ≠ li * 4 + 3 → m 105 i = m0 105 i) ∧ ∀ i, i ≠ 3 → i ≠ 4 → i ≠ 6 → i ≠ 7 → i ≠ 8 → m 103 i = m0 103 i
def CMa (B : Nat → Nat) (n M li : Nat) (m0 m : Mem) (s : Mst) : Prop :=
  CT B n M s.2.1 m ∧ SC m s.2.2.1 s.2.2.2.1 ∧ Ce li (brk s.2.2.1) s.2.2.2.2.1 s.2.2.2.2.2.1 s.2.2.2.2.2.2.1 s.2.2.2.2.2.2.2 (psT B n s.2.1) m0 m
section STEP
variable {N : Nat} {m0 m m1 m' : Mem} {B : Nat → Nat} {n M li : Nat} {W : List Nat} {C : Cod} {ex j sd md fn fl : Nat}
theorem kwd_lt (T : List Nat) : kwd T < 279 := by
  have := fnd_ne T WD 0
  have e : WD.length = 23 := rfl
  unfold kwd
  omega
theorem kT_lt {s : Nat} (hB : ∀ i, i < n → B i < 256) : kT B n s < 279 := by
  have := chr_le (i := s) hB
  have := kwd_lt (txt B n s (enT B n s))
  unfold kT
  repeat' split <;> first | omega | skip
theorem CT.cg (h : CT B n M j m) (hk : ∀ k, 99 ≤ k → k ≤ 102 → m' k = m k) : CT B n M j m' := by
  obtain ⟨h1, h2, h3, h4, h5, h6⟩ := h
  refine ⟨h1.cg (hk 99 (by decide) (by decide)) (hk 100 (by decide) (by decide)), ?_, by rw [hk 99 (by decide) (by decide)]; exact h3, by rw [hk 99 (by decide) (by decide)]; exact h4, by rw [hk 99 (by decide) (by decide)]; exact h5, by rw [hk 99 (by decide) (by decide)]; exact h6⟩
  unfold TkR
  rw [hk 101 (by decide) (by decide), hk 102 (by decide) (by decide)]
  exact h2
theorem Ce.cg {bk pl : Nat} (h : Ce li bk sd md fn fl pl m0 m) (h1 : ∀ i, i ≠ 6 → m' 103 i = m 103 i) (hk : ∀ k, k ≠ 99 → k ≠ 103 → (k < 106 ∨ 109 < k) → m' k = m k) : Ce li bk sd md fn fl pl m0 m' := by
  obtain ⟨a1, a2, a3, a4, a5, a6, a7, a8, a9, a10, a11⟩ := h
  refine ⟨by rw [h1 7 (by decide)]; exact a1, by rw [h1 8 (by decide)]; exact a2, by rw [h1 9 (by decide)]; exact a3, by rw [hk 104 (by decide) (by decide) (by decide)]; exact a4, by rw [hk 105 (by decide) (by decide) (by decide)]; exact a5, by rw [hk 105 (by decide) (by decide) (by decide)]; exact a6, by rw [h1 3 (by decide)]; exact a7, by rw [h1 4 (by decide)]; exact a8, ?_, ?_, ?_⟩
  · intro x x1 x2 x3
    rw [hk x x1 x2 (by omega)]
    exact a9 x x1 x2 x3
  · rw [hk 105 (by decide) (by decide) (by decide)]; exact a10
  · intro i i3 i4 i6 i7 i8
    rw [h1 i i6]
    exact a11 i i3 i4 i6 i7 i8
theorem Ce.pl {bk pl pl' : Nat} (h : Ce li bk sd md fn 0 pl m0 m) : Ce li bk sd md fn 0 pl' m0 m := by
  obtain ⟨a1, a2, a3, a4, a5, a6, a7, a8, a9⟩ := h
  exact ⟨a1, a2, a3, a4, a5, a6, a7, ⟨fun z => absurd rfl z, a8.2⟩, a9⟩
/-- the next token -/
theorem CMa.nx {ex' : Nat} (h : CMa B n M li m0 m (ex, j, W, C, sd, md, fn, 0)) (hM : M ≤ 400) (hj : j < M) : Wp (f_X10_next N m) (fun _ m' => CMa B n M li m0 m' (ex', j + 1, W, C, sd, md, fn, 0)) := by
  obtain ⟨h1, h2, h3⟩ := h
  refine wp_mono (h1.nx hM h2.2.2.2.2.2.2 hj) ?_
  rintro _ m2 ⟨c1, c2, c3⟩
  exact ⟨c1, h2.cg c3 (by rw [c2.at 103 (by decide)]) (fun k k1 k2 => c2 k (fun p hp => by rw [List.mem_singleton.mp hp]; show k < 99 ∨ 99 < k; omega)),
    (h3.pl (pl' := psT B n (j + 1))).cg (fun i _ => by rw [c2.at 103 (by decide)]) (fun k k1 k2 k3 => c2 k (fun p hp => by rw [List.mem_singleton.mp hp]; show k < 99 ∨ 99 < k; omega))⟩
theorem CMa.code (h : CMa B n M li m0 m (ex, j, W, C, sd, md, fn, fl)) (a b : Int32) (hC : C.length < 400) : CMa B n M li m0 (madd m 106 2 C.length a b (nI 0) (nI 0)) (ex, j, W, C ++ [(a, b)], sd, md, fn, fl) := by
  obtain ⟨h1, h2, h3⟩ := h
  obtain ⟨g1, g2⟩ := SC.code h2 a b hC
  refine ⟨h1.cg (fun k k1 k2 => g2 k (fun p hp => by rw [List.mem_singleton.mp hp]; show k < 106 ∨ 107 < k; omega)), g1, h3.cg (fun i _ => by rw [g2.at 103 (by decide)]) (fun k k1 k2 k3 => g2 k (fun p hp => by rw [List.mem_singleton.mp hp]; show k < 106 ∨ 107 < k; omega))⟩
theorem CMa.e_code (h : CMa B n M li m0 m (ex, j, W, C, sd, md, fn, fl)) (hN : 20000 ≤ N) (a b : Int32) (hC : C.length < 400) : f_X9_add N 106 a b (nI 0) (nI 0) m = some (1, madd m 106 2 C.length a b (nI 0) (nI 0)) :=
  SC.e_code h.2.1 hN a b hC
theorem brk_ne {o : Nat} (h : o ≠ 12) : brk (o :: W) = brk W := by
  show (if o = 12 then 1 else 0) + brk W = brk W
  rw [if_neg h]
  omega
theorem CMa.push (h : CMa B n M li m0 m (ex, j, W, C, sd, md, fn, fl)) {o : Nat} (ho : 2 ≤ o ∧ o ≤ 11 ∧ o ≠ 9) (hW : W.length < 400) : CMa B n M li m0 (madd m 108 1 W.length (nI o) (nI 0) (nI 0) (nI 0)) (ex, j, o :: W, C, sd, md, fn, fl) := by
  obtain ⟨h1, h2, h3⟩ := h
  obtain ⟨g1, g2⟩ := SC.push h2 ho hW
  refine ⟨h1.cg (fun k k1 k2 => g2 k (fun p hp => by rw [List.mem_singleton.mp hp]; show k < 108 ∨ 109 < k; omega)), g1, ?_⟩
  rw [show brk (o :: W) = brk W from brk_ne (by omega)]
  exact h3.cg (fun i _ => by rw [g2.at 103 (by decide)]) (fun k k1 k2 k3 => g2 k (fun p hp => by rw [List.mem_singleton.mp hp]; show k < 108 ∨ 109 < k; omega))
theorem CMa.e_row (h : CMa B n M li m0 m (ex, j, W, C, sd, md, fn, fl)) (hN : 20000 ≤ N) (a : Int32) (hW : W.length < 400) : f_X9_add N 108 a (nI 0) (nI 0) (nI 0) m = some (1, madd m 108 1 W.length a (nI 0) (nI 0) (nI 0)) :=
  SC.e_row h.2.1 hN a hW
theorem CMa.drop (h : CMa B n M li m0 m (ex, j, W, C, sd, md, fn, fl)) {l : Nat} (hN : 20000 ≤ N) (hl : l ≤ 6) (hn : C.length + W.length ≤ 400) :
    Wp (f_X6_dropDownTo N (nI l) m) (fun _ m' => CMa B n M li m0 m' (ex, j, (drp l W C).1, (drp l W C).2, sd, md, fn, fl)) := by
  obtain ⟨h1, h2, h3⟩ := h
  refine wp_mono (w_drop hN hl h2 hn) ?_
  rintro _ m2 ⟨c1, c2, c3⟩
  refine ⟨h1.cg (fun k k1 k2 => c2 k (fun p hp => ?_)), c1, ?_⟩
  · rcases List.mem_cons.mp hp with rfl | hp
    · show k < 103 ∨ 103 < k; omega
    · rw [List.mem_singleton.mp hp]; show k < 106 ∨ 109 < k; omega
  · rw [show brk (drp l W C).1 = brk W from drp_brk W C]
    refine h3.cg c3 (fun k k1 k2 k3 => c2 k (fun p hp => ?_))
    rcases List.mem_cons.mp hp with rfl | hp
    · show k < 103 ∨ 103 < k; omega
    · rw [List.mem_singleton.mp hp]; show k < 106 ∨ 109 < k; omega
theorem CMa.side (h : CMa B n M li m0 m (ex, j, W, C, sd, md, fn, fl)) (sd' : Nat) : CMa B n M li m0 (mset m 103 8 (nI sd')) (ex, j, W, C, sd', md, fn, fl) := by
  obtain ⟨h1, h2, a1, a2, a3, a4, a5, a6, a7, a8, a9, a10, a11⟩ := h
  refine ⟨h1.cg (fun k k1 k2 => mset_ne (by omega)), h2.cg (h2.2.2.2.2.2.2.out (by decide)) (mset_j (by decide)) (fun k k1 k2 => mset_ne (by omega)), ?_, mset_at _ _ _ _, ?_, ?_, ?_, ?_, ?_, ?_, ?_, ?_, ?_⟩
  · rw [mset_j (by decide)]; exact a1
  · rw [mset_j (by decide)]; exact a3
  · rw [mset_k (by decide)]; exact a4
  · rw [mset_k (by decide)]; exact a5
  · rw [mset_k (by decide)]; exact a6
  · rw [mset_j (by decide)]; exact a7
  · rw [mset_j (by decide)]; exact a8
  · intro x x1 x2 x3
    rw [mset_ne x2]; exact a9 x x1 x2 x3
  · rw [mset_ne (by decide)]; exact a10
  · intro i i3 i4 i6 i7 i8
    rw [mset_j i8]
    exact a11 i i3 i4 i6 i7 i8
theorem CMa.fault (h : CMa B n M li m0 m (ex, j, W, C, sd, md, fn, 0)) {f : Nat} {ex' : Nat} (hf : f ≠ 0) : f_X6_blame N (nI f) m = some (0, mset (mset m 103 3 (nI f)) 103 4 (nI (psT B n j))) ∧ CMa B n M li m0 (mset (mset m 103 3 (nI f)) 103 4 (nI (psT B n j))) (ex', j, W, C, sd, md, fn, f) := by
  obtain ⟨h1, h2, a1, a2, a3, a4, a5, a6, a7, a8, a9, a10, a11⟩ := h
  constructor
  · unfold f_X6_blame
    simp only [li_0, li_1, li_2, li_3, li_4, li_5, li_6, li_7, li_8, li_9, li_10, li_11, li_12, li_13, li_14, li_15, li_16, li_17, li_18, li_19, li_20, li_21, li_22, li_23, li_24, li_25, li_26, li_27, li_28, li_29, li_30, li_31, li_32, li_37, li_38, li_39, li_40, li_41, li_42, li_43, li_44, li_45, li_46, li_47, li_48, li_49, li_50, li_57, li_59, li_60, li_61, li_62, li_63, li_64, li_65, li_69, li_81, li_89, li_90, li_92, li_97, li_99, li_100, li_101, li_103, li_104, li_105, li_106, li_108, li_111, li_112, li_113, li_114, li_115, li_116, li_117, li_119, li_122, li_123, li_124, li_125, li_126, li_127, li_128, li_129, li_130, li_131, li_132, li_133, li_134, li_135, li_136, li_137, li_140, li_141, li_142, li_143, li_145, li_147, li_150, li_153, li_159, li_160, li_161, li_162, li_185, li_197, li_213, li_222, li_223, li_255, li_256, li_257, li_258, li_259, li_260, li_261, li_262, li_263, li_264, li_271, li_272, li_273, li_274, li_275, li_276, li_277, li_278, li_300, li_400, li_420, li_500, li_802, li_820, li_823, li_839, li_855, li_871, li_887, li_999, li_1000, li_1001, li_1002, li_1003, li_1004, li_1005, li_1006, li_1007, li_1008, li_1009, li_1010, li_1011, li_1012, li_1013, li_1014, li_1015, li_1016, li_1017, li_1018, li_1019, li_1020, li_1021, li_1022, li_1023, li_1707, li_4096, li_9999, li_65536, li_100000, li_1000000, li_1664525, li_100000000, li_252645135, li_858993459, li_1000000007, li_1013904223, li_1431655765, li_m1]
    rw [if_pos a7, bnd_s, mset_k (by decide), h1.2.2.2.2.1, bnd_s]
  · refine ⟨h1.cg (fun k k1 k2 => by rw [mset_ne (by omega), mset_ne (by omega)]), h2.cg ((h2.2.2.2.2.2.2.out (by decide)).out (by decide)) (by rw [mset_j (by decide), mset_j (by decide)]) (fun k k1 k2 => by rw [mset_ne (by omega), mset_ne (by omega)]), ?_, ?_, ?_, ?_, ?_, ?_, ?_, ?_, ?_, ?_, ?_⟩
    · rw [mset_j (by decide), mset_j (by decide)]; exact a1
    · rw [mset_j (by decide), mset_j (by decide)]; exact a2
    · rw [mset_j (by decide), mset_j (by decide)]; exact a3
    · rw [mset_k (by decide), mset_k (by decide)]; exact a4
    · rw [mset_k (by decide), mset_k (by decide)]; exact a5
    · rw [mset_k (by decide), mset_k (by decide)]; exact a6
    · rw [mset_j (by decide), mset_at]
    · exact ⟨fun _ => mset_at _ _ _ _, fun z => absurd z hf⟩
    · intro x x1 x2 x3
      rw [mset_ne x2, mset_ne x2]; exact a9 x x1 x2 x3
    · rw [mset_ne (by decide), mset_ne (by decide)]; exact a10
    · intro i i3 i4 i6 i7 i8
      rw [mset_j i4, mset_j i3]
      exact a11 i i3 i4 i6 i7 i8
/-- a mark in the line's row -/
theorem CMa.put (h : CMa B n M li m0 m (ex, j, W, C, sd, md, fn, fl)) (hli : li < 16) {c : Nat} (hc : c = 2 ∨ c = 3) : f_X9_put N 104 (m 103 9) (nI c) (m 106 3) m = some (0, mset m 105 (li * 4 + c) (nI C.length)) ∧
    CMa B n M li m0 (mset m 105 (li * 4 + c) (nI C.length)) (ex, j, W, C, sd, (if c = 2 then C.length else md), (if c = 3 then C.length else fn), fl) := by
  obtain ⟨h1, h2, a1, a2, a3, a4, a5, a6, a7, a8, a9, a10, a11⟩ := h
  have hF := h2.2.2.2.2.2.2
  constructor
  · rw [a3, h2.2.2.1]
    exact e_put hF (t := 104) (most := 16) (wide := 4) (by decide) a4 (by omega) (by omega) (by omega)
  · refine ⟨h1.cg (fun k k1 k2 => mset_ne (by omega)), h2.cg (hF.cell (t := 104) (most := 16) (wide := 4) (by decide)) (mset_k (by decide)) (fun k k1 k2 => mset_ne (by omega)), ?_, ?_, ?_, ?_, ?_, ?_, ?_, ?_, ?_, ?_, ?_⟩
    · rw [mset_k (by decide)]; exact a1
    · rw [mset_k (by decide)]; exact a2
    · rw [mset_k (by decide)]; exact a3
    · rw [mset_k (by decide)]; exact a4
    · rcases hc with rfl | rfl
      · rw [mset_at]; rfl
      · rw [mset_j (by omega)]; exact a5
    · rcases hc with rfl | rfl
      · rw [mset_j (by omega)]; exact a6
      · rw [mset_at]; rfl
    · rw [mset_k (by decide)]; exact a7
    · rw [mset_k (by decide)]; exact a8
    · intro x x1 x2 x3
      rw [mset_ne (by omega)]; exact a9 x x1 x2 x3
    · intro i i2 i3
      rw [mset_j (by omega)]; exact a10 i i2 i3
    · rw [mset_ne (by decide)]; exact a11
/-- one that opens waits -/
theorem CMa.opens (h : CMa B n M li m0 m (ex, j, W, C, sd, md, fn, fl)) {o : Nat} (ho : o = 9 ∨ o = 12) (hW : W.length < 400) (v7 : Int32) (hv : v7 = nI (if o = 12 then 1 else 0)) :
    CMa B n M li m0 (mset (mset (madd m 108 1 W.length (nI o) (nI 0) (nI 0) (nI 0)) 103 6 (nI (opn W) + nI 1)) 103 7 (nI (brk W) + v7)) (ex, j, o :: W, C, sd, md, fn, fl) := by
  subst hv
  obtain ⟨h1, h2, a1, a2, a3, a4, a5, a6, a7, a8, a9, a10, a11⟩ := h
  obtain ⟨g1, g2, g3, g4⟩ := SC.row h2 o hW
  obtain ⟨b1, b2, b3, b4, b5, b6, b7⟩ := h2
  have e103 : (madd m 108 1 W.length (nI o) (nI 0) (nI 0) (nI 0)) 103 = m 103 := g3.at 103 (by decide)
  refine ⟨h1.cg (fun k k1 k2 => ?_), ⟨?_, ?_, ?_, ?_, ?_, ?_, (g4.out (by decide)).out (by decide)⟩, ?_, ?_, ?_, ?_, ?_, ?_, ?_, ?_, ?_, ?_, ?_⟩
  · rw [mset_ne (by omega), mset_ne (by omega)]
    exact g3 k (fun p hp => by rw [List.mem_singleton.mp hp]; show k < 108 ∨ 109 < k; omega)
  · rw [mset_k (by decide), mset_k (by decide)]; exact g1
  · rw [mset_ne (by decide), mset_ne (by decide)]; exact g2
  · rw [mset_k (by decide), mset_k (by decide), g3.at 106 (by decide)]; exact b3
  · rw [mset_ne (by decide), mset_ne (by decide), g3.at 107 (by decide)]; exact b4
  · rw [mset_j (by decide), mset_at, nI_up]
    show nI (opn W + 1) = nI ((if o = 9 ∨ o = 12 then 1 else 0) + opn W)
    rw [if_pos ho, Nat.add_comm]
  · intro x hx
    rcases List.mem_cons.mp hx with rfl | hx
    · omega
    · exact b6 x hx
  · rw [mset_at, nI_add]
    show nI _ = nI ((if o = 12 then 1 else 0) + brk W)
    rw [Nat.add_comm]
  · rw [mset_j (by decide), mset_j (by decide), e103]; exact a2
  · rw [mset_j (by decide), mset_j (by decide), e103]; exact a3
  · rw [mset_k (by decide), mset_k (by decide), g3.at 104 (by decide)]; exact a4
  · rw [mset_k (by decide), mset_k (by decide), g3.at 105 (by decide)]; exact a5
  · rw [mset_k (by decide), mset_k (by decide), g3.at 105 (by decide)]; exact a6
  · rw [mset_j (by decide), mset_j (by decide), e103]; exact a7
  · rw [mset_j (by decide), mset_j (by decide), e103]; exact a8
  · intro x x1 x2 x3
    rw [mset_ne x2, mset_ne x2, g3 x (fun p hp => by rw [List.mem_singleton.mp hp]; show x < 108 ∨ 109 < x; omega)]
    exact a9 x x1 x2 x3
  · rw [mset_ne (by decide), mset_ne (by decide), g3.at 105 (by decide)]; exact a10
  · intro i i3 i4 i6 i7 i8
    rw [mset_j i7, mset_j i6, e103]
    exact a11 i i3 i4 i6 i7 i8
/-- the bracket is closed -/
theorem CMa.close {U : List Nat} (h : CMa B n M li m0 m (ex, j, 12 :: U, C, sd, md, fn, fl)) (hU : U.length < 400) :
    CMa B n M li m0 (mset (mset (mset m 108 3 (nI U.length)) 103 6 (nI (opn (12 :: U)) - nI 1)) 103 7 (nI (brk (12 :: U)) - nI 1)) (ex, j, U, C, sd, md, fn, fl) := by
  obtain ⟨h1, h2, a1, a2, a3, a4, a5, a6, a7, a8, a9, a10, a11⟩ := h
  obtain ⟨b1, b2, b3, b4, b5, b6, b7⟩ := h2
  refine ⟨h1.cg (fun k k1 k2 => ?_), ⟨?_, ?_, ?_, ?_, ?_, fun o ho => b6 o (List.mem_cons_of_mem _ ho), ((b7.set (by decide)).out (by decide)).out (by decide)⟩, ?_, ?_, ?_, ?_, ?_, ?_, ?_, ?_, ?_, ?_, ?_⟩
  · rw [mset_ne (by omega), mset_ne (by omega), mset_ne (by omega)]
  · rw [mset_k (by decide), mset_k (by decide), mset_at]
  · rw [mset_ne (by decide), mset_ne (by decide), mset_ne (by decide)]; exact b2.2
  · rw [mset_k (by decide), mset_k (by decide), mset_k (by decide)]; exact b3
  · rw [mset_ne (by decide), mset_ne (by decide), mset_ne (by decide)]; exact b4
  · rw [mset_j (by decide), mset_at]
    show nI ((if 12 = 9 ∨ 12 = 12 then 1 else 0) + opn U) - nI 1 = _
    rw [if_pos (Or.inr rfl), Nat.add_comm, nI_dn]
  · rw [mset_at]
    show nI ((if 12 = 12 then 1 else 0) + brk U) - nI 1 = _
    rw [if_pos rfl, Nat.add_comm, nI_dn]
  · rw [mset_j (by decide), mset_j (by decide), mset_k (by decide)]; exact a2
  · rw [mset_j (by decide), mset_j (by decide), mset_k (by decide)]; exact a3
  · rw [mset_k (by decide), mset_k (by decide), mset_k (by decide)]; exact a4
  · rw [mset_k (by decide), mset_k (by decide), mset_k (by decide)]; exact a5
  · rw [mset_k (by decide), mset_k (by decide), mset_k (by decide)]; exact a6
  · rw [mset_j (by decide), mset_j (by decide), mset_k (by decide)]; exact a7
  · rw [mset_j (by decide), mset_j (by decide), mset_k (by decide)]; exact a8
  · intro x x1 x2 x3
    rw [mset_ne x2, mset_ne x2, mset_ne (by omega)]
    exact a9 x x1 x2 x3
  · rw [mset_ne (by decide), mset_ne (by decide), mset_ne (by decide)]; exact a10
  · intro i i3 i4 i6 i7 i8
    rw [mset_j i7, mset_j i6, mset_k (by decide)]
    exact a11 i i3 i4 i6 i7 i8
end STEP
