/-! each kind of statute told -/
section LINEK
variable {h h' h1 h2 h0 hb : DS} {N t B Bt At P n c k j i z q a b u e m C S C' S' : Nat} {p : Plc} {w w' : Arr} {T H : List St3} {s s' : List Nat} {Q : Int32 → DS → Prop} {x : St3} {v y s6 s7 s8 s9 a2 p3 : Int32} {p5 : Nat} {K : Int32 → DS → DA} {X : (Int32 × Int32) → DS → DA}
/-- one statute more is told -/
def StI (h0 : DS) (t Bt At u z : Nat) (T : List St3) (h : DS) : Prop := StB 16 (h0.2.1[t]?) h0 t Bt At (pTx (T.flatMap stP)) (hdT T) (5 + 13 * T.length) (50 + 2000 * T.length) h ∧ StF t u T h ∧ (∀ x, x ∈ T → stO z x) ∧ T.length ≤ 8
theorem hdT_le : (hdT T).length ≤ T.length := List.length_filter_le _ _
theorem StI.len (I : StI h0 t Bt At u z T h) (hz : z ≤ 12) : (pTx (T.flatMap stP)).length ≤ 22 * T.length := len_all fun x hx => (tel_st (hD := 0) hz (I.2.2.1 x hx)).2.2.1
theorem StI.next (I : StI h0 t Bt At u z T h) (hT : T.length < 8) (hx : stO z x) (hB : StB 16 (h0.2.1[t]?) h0 t Bt At (pTx (T.flatMap stP) ++ pTx (stP x)) (hdT (T ++ [x])) C S h') (hC : C ≤ 5 + 13 * T.length + 13) (hS : S ≤ 50 + 2000 * T.length + 2000) (hF : StF t u (T ++ [x]) h') : StI h0 t Bt At u z (T ++ [x]) h' := by
  obtain ⟨i1, i2, i3, i4, i5, i6, i7, i8, i9, i10⟩ := hB
  refine ⟨⟨i1, i2, i3, i4, by rw [pTx_snoc]; exact i5, i6, i7, i8, ?_, ?_⟩, hF, fun y hy => ?_, ?_⟩
  · rw [List.length_append, List.length_singleton]; omega
  · rw [List.length_append, List.length_singleton]; omega
  · rcases List.mem_append.mp hy with hy | hy
    · exact I.2.2.1 y hy
    · rw [List.mem_singleton] at hy
      rw [hy]
      exact hx
  · rw [List.length_append, List.length_singleton]; omega
theorem lit_3 : litL 3 = WD.getD 18 [] ++ [32] := by decide
theorem lit_4 : litL 4 = WD.getD 20 [] ++ [32] := by decide
theorem lit_5 : litL 5 = WD.getD 19 [] ++ [32] := by decide
theorem lit_2 : litL 2 = [59] := by decide
theorem lit_0 : litL 0 = WD.getD 8 [] ++ [32] := by decide
theorem lit_1 : litL 1 = [32] ++ (WD.getD 17 [] ++ [32]) := by decide
theorem one_tx {l wd : Nat} (hq : q ≠ 0) (e : stW q - 256 = wd) (el : litL l = WD.getD wd [] ++ [32]) : [] ++ litL l ++ dgs a ++ litL 2 = pTx (stP (q, a, b)) := by
  rw [st_p1 hq e, el, lit_2, List.nil_append, List.append_assoc, List.append_assoc]
  rfl
theorem han_tx : [] ++ litL 0 ++ dgs a ++ litL 1 ++ dgs b ++ litL 2 = pTx (stP (0, a, b)) := by
  have e : pTx (stP (0, a, b)) = WD.getD 8 [] ++ ([32] ++ (dgs a ++ ([32] ++ (WD.getD 17 [] ++ ([32] ++ (dgs b ++ ([59] ++ []))))))) := rfl
  rw [e, lit_0, lit_1, lit_2, List.nil_append]
  simp only [List.append_assoc, List.append_nil]
theorem asc_st (hz : z ≤ 12) (hx : stO z x) : Asc (pTx (stP x)) ∧ (pTx (stP x)).length ≤ 22 := by
  have := tel_st (hD := 0) hz hx
  exact ⟨this.2.2.2, this.2.2.1⟩
theorem nI3 {a b : Nat} (ha : a ≤ 9) (hb : b ≤ 9) (h : a ≠ b) : ¬ nI a = nI b := nI_ne h (by omega) (by omega)
theorem p_318 (h3 : s9 ≠ (3 : Int32)) (q : Wd (X (s6, s7 + 1) h) Q) : Wd (g_L_texts_J318_55 N t a2 p3 Bt p5 K X s6 s7 s8 s9 h) Q := by
  unfold g_L_texts_J318_55
  rw [if_neg h3]
  exact q
theorem p_263 (h3 : s9 ≠ (2 : Int32)) (q : Wd (g_L_texts_J318_55 N t a2 p3 Bt p5 K X s6 s7 s8 s9 h) Q) : Wd (g_L_texts_J263_55 N t a2 p3 Bt p5 K X s6 s7 s8 s9 h) Q := by
  unfold g_L_texts_J263_55
  rw [if_neg h3]
  exact q
theorem p_210 (h3 : s9 ≠ (1 : Int32)) (q : Wd (g_L_texts_J263_55 N t a2 p3 Bt p5 K X s6 s7 s8 s9 h) Q) : Wd (g_L_texts_J210_55 N t a2 p3 Bt p5 K X s6 s7 s8 s9 h) Q := by
  unfold g_L_texts_J210_55
  rw [if_neg h3]
  exact q
theorem w_318 (hN : 20000 ≤ N) (hz : z ≤ 12) (e7 : h0.2.2 t 7 = nI z) (eT : ∃ rs, h0.2.1[t]? = some (12, 25, rs)) (t123 : 123 ≤ t) (hn : csz h0.2.1 + 200 < 1000000) (I : StI h0 t Bt At u z T h) (hT : T.length < 8) (z1 : 1 ≤ z)
    (hX : ∀ x h', StI h0 t Bt At u z (T ++ [x]) h' → x.1 ≠ 0 → Wd (X (s6, s7 + 1) h') Q) (hs9 : s9 = (3 : Int32)) :
    Wd (g_L_texts_J318_55 N t a2 p3 Bt p5 K X s6 s7 s8 s9 h) Q := by
  obtain ⟨rs, eT⟩ := eT
  have tl := len_of eT
  have et : h.2.1[t]? = some (12, 25, rs) := I.1.2.2.2.2.2.2.1.trans eT
  unfold g_L_texts_J318_55
  rw [if_pos hs9]
  refine wd_bo (e_dI et (by decide) (by decide)) ?_
  rw [I.1.2.2.2.2.2.2.2.1 7 (Or.inl (by decide)), e7, show nI z - (1 : Int32) = nI (z - 1) from pk_sub z1]
  refine wd_btw (lo := 0) (hi := z - 1) rfl rfl (Nat.zero_le _) (by omega) (fun a _ ha => ?_)
  refine wd_bo (e_dI et (by decide) (by decide)) ?_
  have sh : (1 : Int32) <<< (nI a &&& 31) = nI (2 ^ a) := by
    have := pk_shlN (n := 1) (nI a &&& nI 31) a (sh_cnt a (by omega)) (by
      have : 2 ^ a ≤ 2 ^ 11 := Nat.pow_le_pow_right (by decide) (by omega)
      omega)
    rw [Nat.one_mul] at this
    exact this
  rw [I.2.1.2.2.1, sh, nz_or]
  refine wd_bo (e_wI et (by decide) (by decide) t123) ?_
  obtain ⟨ha, eha⟩ : ∃ ha : DS, ha = (h.1, h.2.1, mset h.2.2 t 12 (nI (dblT T ||| 2 ^ a))) := ⟨_, rfl⟩
  rw [← eha]
  have Ba : StB 16 (h0.2.1[t]?) h0 t Bt At (pTx (T.flatMap stP)) (hdT (T ++ [(3, a, 0)])) (5 + 13 * T.length) (50 + 2000 * T.length) ha := by
    rw [eha, hdT_sn, if_neg (show ¬ (3 : Nat) = 0 by decide)]
    exact I.1.set tl t123 (by decide) (by decide)
  have Fa : StF t u (T ++ [(3, a, 0)]) ha := by
    obtain ⟨f1, f2, f3, f4⟩ := I.2.1
    rw [eha]
    refine ⟨?_, ?_, ?_, ?_⟩
    · rw [lasT_sn, if_neg (show ¬ (3 : Nat) = 1 by decide)]
      exact (mset_j (by decide)).trans f1
    · rw [lasT_sn, if_neg (show ¬ (3 : Nat) = 2 by decide)]
      exact (mset_j (by decide)).trans f2
    · rw [dblT_sn, if_pos rfl]
      exact mset_at _ _ _ _
    · exact (mset_j (by decide)).trans f4
  have hO : stO z (3, a, 0) := Or.inr (Or.inr (Or.inr ⟨rfl, by show a < z; omega, rfl⟩))
  have cB := Ba.2.2.2.2.2.2.2.2.1
  have kB := Ba.2.1
  have l5 : (litL 5).length = 7 := by decide
  have l2 : (litL 2).length = 1 := by decide
  have dl := dgs_le (a := a) (by omega)
  have ll := I.len hz
  have la := asc_st hz hO
  refine bl_new kB (by omega) (fun v1 h1 b1 => ?_)
  refine bl_lit (i := 5) b1 rfl (by decide) (by omega) (by decide) (fun h2 b2 => ?_)
  refine bl_num hN b2 rfl (by omega) (by omega) (by decide) (fun h3 b3 => ?_)
  refine bl_lit (i := 2) b3 rfl (by decide) (by omega) ?_ (fun h4 b4 => ?_)
  · simp only [List.length_append, List.length_nil, l5, l2]
    omega
  rw [one_tx (q := 3) (b := 0) (by decide) (by decide) lit_5] at b4
  refine st_tail (F := fun _ h' => X (s6, s7 + 1) h') Ba tl b4 la.1 (by omega) (by omega) (fun h5 B5 e5 => ?_)
  exact hX _ h5 (I.next hT hO B5 (by omega) (by omega) (by unfold StF; rw [e5]; exact Fa)) (show (3 : Nat) ≠ 0 by decide)
theorem w_263 (hN : 20000 ≤ N) (hz : z ≤ 12) (eT : ∃ rs, h0.2.1[t]? = some (12, 25, rs)) (t123 : 123 ≤ t) (hn : csz h0.2.1 + 200 < 1000000) (I : StI h0 t Bt At u z T h) (hT : T.length < 8)
    (hX : ∀ x h', StI h0 t Bt At u z (T ++ [x]) h' → x.1 ≠ 0 → Wd (X (s6, s7 + 1) h') Q) (hs9 : s9 = (2 : Int32)) :
    Wd (g_L_texts_J263_55 N t a2 p3 Bt p5 K X s6 s7 s8 s9 h) Q := by
  obtain ⟨rs, eT⟩ := eT
  have tl := len_of eT
  have et : h.2.1[t]? = some (12, 25, rs) := I.1.2.2.2.2.2.2.1.trans eT
  unfold g_L_texts_J263_55
  rw [if_pos hs9]
  refine wd_btw (lo := 60) (hi := 600) rfl rfl (by decide) (by decide) (fun a la ha => ?_)
  refine wd_bo (e_wI et (by decide) (by decide) t123) ?_
  obtain ⟨ha', eha⟩ : ∃ ha' : DS, ha' = (h.1, h.2.1, mset h.2.2 t 11 (nI a)) := ⟨_, rfl⟩
  rw [← eha]
  have Ba : StB 16 (h0.2.1[t]?) h0 t Bt At (pTx (T.flatMap stP)) (hdT (T ++ [(2, a, 0)])) (5 + 13 * T.length) (50 + 2000 * T.length) ha' := by
    rw [eha, hdT_sn, if_neg (show ¬ (2 : Nat) = 0 by decide)]
    exact I.1.set tl t123 (by decide) (by decide)
  have ea : ha'.2.2 t 11 = nI a := by rw [eha]; exact mset_at _ _ _ _
  have eta : ha'.2.1[t]? = some (12, 25, rs) := by rw [eha]; exact et
  have Fa : StF t u (T ++ [(2, a, 0)]) ha' := by
    obtain ⟨f1, f2, f3, f4⟩ := I.2.1
    rw [eha]
    refine ⟨?_, ?_, ?_, ?_⟩
    · rw [lasT_sn, if_neg (show ¬ (2 : Nat) = 1 by decide)]
      exact (mset_j (by decide)).trans f1
    · rw [lasT_sn, if_pos rfl]
      exact mset_at _ _ _ _
    · rw [dblT_sn, if_neg (show ¬ (2 : Nat) = 3 by decide)]
      exact (mset_j (by decide)).trans f3
    · exact (mset_j (by decide)).trans f4
  have hO : stO z (2, a, 0) := Or.inr (Or.inr (Or.inl ⟨rfl, by show 1 ≤ a; omega, by show a ≤ 9999; omega, rfl⟩))
  have cB := Ba.2.2.2.2.2.2.2.2.1
  have kB := Ba.2.1
  have l5 : (litL 4).length = 4 := by decide
  have l2 : (litL 2).length = 1 := by decide
  have dl := dgs_le (a := a) (by omega)
  have ll := I.len hz
  have la := asc_st hz hO
  refine bl_new kB (by omega) (fun v1 h1 b1 => ?_)
  refine bl_lit (i := 4) b1 rfl (by decide) (by omega) (by decide) (fun h2 b2 => ?_)
  have f2 := b2.1.2.2 t (len_of eta)
  refine wd_bo (e_dI (f2.1.trans eta) (by decide) (by decide)) ?_
  rw [f2.2, ea]
  refine bl_num hN b2 rfl (by omega) (by omega) (by decide) (fun h3 b3 => ?_)
  refine bl_lit (i := 2) b3 rfl (by decide) (by omega) ?_ (fun h4 b4 => ?_)
  · simp only [List.length_append, List.length_nil, l5, l2]
    omega
  rw [one_tx (q := 2) (b := 0) (by decide) (by decide) lit_4] at b4
  refine st_tail (F := fun _ h' => g_L_texts_J318_55 N t a2 p3 Bt p5 K X s6 s7 s8 s9 h') Ba tl b4 la.1 (by omega) (by omega) (fun h5 B5 e5 => ?_)
  have I5 := I.next hT hO B5 (by omega) (by omega) (by unfold StF; rw [e5]; exact Fa)
  have h9 : s9 = nI 2 := hs9
  exact p_318 (by rw [h9]; exact nI3 (b := 3) (by decide) (by decide) (by decide)) (hX _ h5 I5 (show (2 : Nat) ≠ 0 by decide))
theorem w_210 (hN : 20000 ≤ N) (hz : z ≤ 12) (eT : ∃ rs, h0.2.1[t]? = some (12, 25, rs)) (t123 : 123 ≤ t) (hn : csz h0.2.1 + 200 < 1000000) (I : StI h0 t Bt At u z T h) (hT : T.length < 8)
    (hX : ∀ x h', StI h0 t Bt At u z (T ++ [x]) h' → x.1 ≠ 0 → Wd (X (s6, s7 + 1) h') Q) (hs9 : s9 = (1 : Int32)) :
    Wd (g_L_texts_J210_55 N t a2 p3 Bt p5 K X s6 s7 s8 s9 h) Q := by
  obtain ⟨rs, eT⟩ := eT
  have tl := len_of eT
  have et : h.2.1[t]? = some (12, 25, rs) := I.1.2.2.2.2.2.2.1.trans eT
  unfold g_L_texts_J210_55
  rw [if_pos hs9]
  refine wd_btw (lo := 0) (hi := 7) rfl rfl (by decide) (by decide) (fun a la ha => ?_)
  refine wd_bo (e_wI et (by decide) (by decide) t123) ?_
  obtain ⟨ha', eha⟩ : ∃ ha' : DS, ha' = (h.1, h.2.1, mset h.2.2 t 10 (nI a)) := ⟨_, rfl⟩
  rw [← eha]
  have Ba : StB 16 (h0.2.1[t]?) h0 t Bt At (pTx (T.flatMap stP)) (hdT (T ++ [(1, a, 0)])) (5 + 13 * T.length) (50 + 2000 * T.length) ha' := by
    rw [eha, hdT_sn, if_neg (show ¬ (1 : Nat) = 0 by decide)]
    exact I.1.set tl t123 (by decide) (by decide)
  have ea : ha'.2.2 t 10 = nI a := by rw [eha]; exact mset_at _ _ _ _
  have eta : ha'.2.1[t]? = some (12, 25, rs) := by rw [eha]; exact et
  have Fa : StF t u (T ++ [(1, a, 0)]) ha' := by
    obtain ⟨f1, f2, f3, f4⟩ := I.2.1
    rw [eha]
    refine ⟨?_, ?_, ?_, ?_⟩
    · rw [lasT_sn, if_pos rfl]
      exact mset_at _ _ _ _
    · rw [lasT_sn, if_neg (show ¬ (1 : Nat) = 2 by decide)]
      exact (mset_j (by decide)).trans f2
    · rw [dblT_sn, if_neg (show ¬ (1 : Nat) = 3 by decide)]
      exact (mset_j (by decide)).trans f3
    · exact (mset_j (by decide)).trans f4
  have hO : stO z (1, a, 0) := Or.inr (Or.inl ⟨rfl, by show a ≤ 20; omega, rfl⟩)
  have cB := Ba.2.2.2.2.2.2.2.2.1
  have kB := Ba.2.1
  have l5 : (litL 3).length = 5 := by decide
  have l2 : (litL 2).length = 1 := by decide
  have dl := dgs_le (a := a) (by omega)
  have ll := I.len hz
  have la := asc_st hz hO
  refine bl_new kB (by omega) (fun v1 h1 b1 => ?_)
  refine bl_lit (i := 3) b1 rfl (by decide) (by omega) (by decide) (fun h2 b2 => ?_)
  have f2 := b2.1.2.2 t (len_of eta)
  refine wd_bo (e_dI (f2.1.trans eta) (by decide) (by decide)) ?_
  rw [f2.2, ea]
  refine bl_num hN b2 rfl (by omega) (by omega) (by decide) (fun h3 b3 => ?_)
  refine bl_lit (i := 2) b3 rfl (by decide) (by omega) ?_ (fun h4 b4 => ?_)
  · simp only [List.length_append, List.length_nil, l5, l2]
    omega
  rw [one_tx (q := 1) (b := 0) (by decide) (by decide) lit_3] at b4
  refine st_tail (F := fun _ h' => g_L_texts_J263_55 N t a2 p3 Bt p5 K X s6 s7 s8 s9 h') Ba tl b4 la.1 (by omega) (by omega) (fun h5 B5 e5 => ?_)
  have I5 := I.next hT hO B5 (by omega) (by omega) (by unfold StF; rw [e5]; exact Fa)
  have h9 : s9 = nI 1 := hs9
  exact p_263 (by rw [h9]; exact nI3 (b := 2) (by decide) (by decide) (by decide)) (p_318 (by rw [h9]; exact nI3 (b := 3) (by decide) (by decide) (by decide)) (hX _ h5 I5 (show (1 : Nat) ≠ 0 by decide)))
theorem StB.last {nn : Nat} {oo : Option SE} (I : StB nn oo h0 t Bt At s (H ++ [x]) C S h) (h9 : nn ≤ 16) : ∃ q, lQ h 103 At (nI H.length) = some q ∧ lA h 100 q (0 : Int32) = some (nI x.2.1) ∧ lA h 100 q (1 : Int32) = some (nI x.2.2) := by
  obtain ⟨i1, i2, i3, i4, i5, ⟨r, i7, i8⟩, i9⟩ := I
  have hl : H.length < (H ++ [x]).length := by rw [List.length_append, List.length_singleton]; omega
  refine ⟨r H.length, rw_Q i7 hl (by omega), ?_, ?_⟩
  · exact (rw_A (c := 0) i7 hl (by decide) (by decide)).trans (by rw [rwF_at]; rfl)
  · exact (rw_A (c := 1) i7 hl (by decide) (by decide)).trans (by rw [rwF_at]; rfl)
theorem w_153 {y0 y1 : Int32} (hN : 20000 ≤ N) (hz : z ≤ 12) (eT : ∃ rs, h0.2.1[t]? = some (12, 25, rs)) (t123 : 123 ≤ t) (hn : csz h0.2.1 + 200 < 1000000) (I : StI h0 t Bt At u z T h) (hT : T.length < 8)
    (F : FrA h h2) (k2 : lk h2) (hn2 : h2.2.1[n]? = some (100, 2, [])) (gn : h.2.1.length ≤ n) (v0 : h2.2.2 n 0 = nI a) (c2 : csz h2.2.1 = csz h.2.1 + 1) (s2 : ssz h2.2.1 = ssz h.2.1 + 2) (eb : y1 - y0 = nI b) (a1 : 1 ≤ a) (a30 : a ≤ 99) (b9 : b ≤ 9999) (hs9 : s9 = nI 0)
    (hX : ∀ x h', StI h0 t Bt At u z (T ++ [x]) h' → x.1 = 0 → Wd (X (nI (hdT T).length + 1, s7 + 1) h') Q) :
    Wd (g_L_texts_J153_55 N t a2 p3 Bt At K X (nI (hdT T).length) s7 s8 s9 y0 y1 (1 : Int32) n n (nI (hdT T).length) At h2) Q := by
  obtain ⟨rs, eT⟩ := eT
  have tl := len_of eT
  have le := I.1.1.2.1
  have hH : (hdT T).length ≤ T.length := hdT_le
  unfold g_L_texts_J153_55
  rw [eb]
  refine wd_bo (e_sA hn2 (by decide) (by omega)) ?_
  obtain ⟨h3, eh3⟩ : ∃ h3 : DS, h3 = (h2.1, h2.2.1, mset h2.2.2 n (1 : Int32).toNatClampNeg (nI b)) := ⟨_, rfl⟩
  rw [← eh3]
  have F3 : FrA h h3 := by
    rw [eh3]
    exact ⟨F.1, F.2.1, fun c hc => ⟨(F.2.2 c hc).1, (mset_ne (by omega)).trans (F.2.2 c hc).2⟩⟩
  have k3 : lk h3 := by rw [eh3]; exact lk_mset k2 (by omega)
  have w0 : h3.2.2 n 0 = nI a := by rw [eh3]; exact (mset_j (by decide)).trans v0
  have w1 : h3.2.2 n 1 = nI b := by rw [eh3]; exact mset_at _ _ _ _
  have e3 : h3.2.1[n]? = some (100, 2, []) := by rw [eh3]; exact hn2
  have c3 : csz h3.2.1 = csz h2.2.1 := by rw [eh3]
  have z3 : ssz h3.2.1 = ssz h2.2.1 := by rw [eh3]
  obtain ⟨B3, f3⟩ := I.1.fra (k := 1) (m := 2) tl F3 k3 (by omega) (by omega)
  obtain ⟨h4, e4, B4, f4⟩ := B3.put (x := (0, a, b)) tl t123 e3 (by omega) w0 w1 (by omega) (by decide)
  refine wd_bo e4 ?_
  have hO : stO z (0, a, b) := Or.inl ⟨rfl, a1, a30, b9⟩
  have Ba : StB 16 (h0.2.1[t]?) h0 t Bt At (pTx (T.flatMap stP)) (hdT (T ++ [(0, a, b)])) (5 + 13 * T.length + 1) (50 + 2000 * T.length + 2) h4 := by
    rw [hdT_sn, if_pos rfl]
    exact B4
  have Fa : StF t u (T ++ [(0, a, b)]) h4 := by
    obtain ⟨f1, f2, f3', f4'⟩ := I.2.1
    unfold StF
    rw [f4, f3, lasT_sn, lasT_sn, dblT_sn, if_neg (show ¬ (0 : Nat) = 1 by decide), if_neg (show ¬ (0 : Nat) = 2 by decide), if_neg (show ¬ (0 : Nat) = 3 by decide)]
    exact ⟨f1, f2, f3', f4'⟩
  have cB := Ba.2.2.2.2.2.2.2.2.1
  have kB := Ba.2.1
  have l0 : (litL 0).length = 6 := by decide
  have l1 : (litL 1).length = 6 := by decide
  have l2 : (litL 2).length = 1 := by decide
  have dla := dgs_le (a := a) (by omega)
  have dlb := dgs_le (a := b) (by omega)
  have ll := I.len hz
  have la := asc_st hz hO
  refine bl_new kB (by omega) (fun v1 h1 b1 => ?_)
  refine bl_lit (i := 0) b1 rfl (by decide) (by omega) (by decide) (fun h2 b2 => ?_)
  obtain ⟨q1, g1, g2, -⟩ := (B4.fra tl b2.1 b2.2.1 b2.2.2.2.2.1 b2.2.2.2.2.2).1.last (by decide)
  refine wd_bo g1 (wd_bo g2 ?_)
  refine bl_num hN b2 rfl (by show a < 10000; omega) (by omega) (by decide) (fun h3 b3 => ?_)
  refine bl_lit (i := 1) b3 rfl (by decide) (by omega) ?_ (fun h4 b4 => ?_)
  · simp only [List.length_append, List.length_nil, l0, l1]
    show 0 + 6 + (dgs a).length + 6 ≤ 40
    omega
  obtain ⟨q2, g1, -, g2⟩ := (B4.fra tl b4.1 b4.2.1 b4.2.2.2.2.1 b4.2.2.2.2.2).1.last (by decide)
  refine wd_bo g1 (wd_bo g2 ?_)
  refine bl_num hN b4 rfl (by show b < 10000; omega) (by omega) ?_ (fun h5 b5 => ?_)
  · simp only [List.length_append, List.length_nil, l0, l1]
    show 0 + 6 + (dgs a).length + 6 + 4 ≤ 40
    omega
  refine bl_lit (i := 2) b5 rfl (by decide) (by omega) ?_ (fun h6 b6 => ?_)
  · simp only [List.length_append, List.length_nil, l0, l1, l2]
    show 0 + 6 + (dgs a).length + 6 + (dgs b).length + 1 ≤ 40
    omega
  dsimp only at b6
  rw [han_tx] at b6
  refine st_tail (F := fun _ h' => g_L_texts_J210_55 N t a2 p3 Bt At K X (nI (hdT T).length + 1) s7 s8 s9 h') Ba tl b6 la.1 (by omega) (by omega) (fun h5 B5 e5 => ?_)
  have I5 := I.next hT hO B5 (by omega) (by omega) (by unfold StF; rw [e5]; exact Fa)
  rw [hs9]
  exact p_210 (nI3 (b := 1) (by decide) (by decide) (by decide)) (p_263 (nI3 (b := 2) (by decide) (by decide) (by decide)) (p_318 (nI3 (b := 3) (by decide) (by decide) (by decide)) (hX _ h5 I5 rfl)))
end LINEK
