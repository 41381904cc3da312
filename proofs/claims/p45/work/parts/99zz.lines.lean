/-! each kind of statute told -/
section LINEK
variable {h h' h1 h2 h0 hb : DS} {N t B Bt At P n c k j i z q a b u e m C S C' S' : Nat} {p : Plc} {w w' : Arr} {T H : List St3} {s s' : List Nat} {Q : Int32 → DS → Prop} {x : St3} {v y s6 s7 s8 s9 a2 p3 : Int32} {p5 : Nat} {K : Int32 → DS → DA} {X : (Int32 × Int32) → DS → DA}
/-- one statute more is told -/
def StI (h0 : DS) (t Bt At u z : Nat) (T : List St3) (h : DS) : Prop := StB h0 t Bt At (pTx (T.flatMap stP)) (hdT T) (5 + 13 * T.length) (50 + 2000 * T.length) h ∧ StF t u T h ∧ (∀ x, x ∈ T → stO z x) ∧ T.length ≤ 8
theorem hdT_le : (hdT T).length ≤ T.length := List.length_filter_le _ _
theorem StI.len (I : StI h0 t Bt At u z T h) (hz : z ≤ 12) : (pTx (T.flatMap stP)).length ≤ 22 * T.length := len_all fun x hx => (tel_st (hD := 0) hz (I.2.2.1 x hx)).2.2.1
theorem StI.next (I : StI h0 t Bt At u z T h) (hT : T.length < 8) (hx : stO z x) (hB : StB h0 t Bt At (pTx (T.flatMap stP) ++ pTx (stP x)) (hdT (T ++ [x])) C S h') (hC : C ≤ 5 + 13 * T.length + 13) (hS : S ≤ 50 + 2000 * T.length + 2000) (hF : StF t u (T ++ [x]) h') : StI h0 t Bt At u z (T ++ [x]) h' := by
  obtain ⟨i1, i2, i3, i4, i5, i6, i7, i8, i9, i10⟩ := hB
  refine ⟨⟨i1, i2, i3, i4, by rw [pTx_snoc]; exact i5, i6, i7, i8, ?_, ?_⟩, hF, fun y hy => ?_, ?_⟩
  · rw [List.length_append, List.length_singleton]; omega
  · rw [List.length_append, List.length_singleton]; omega
  · rcases List.mem_append.mp hy with hy | hy
    · exact I.2.2.1 y hy
    · rw [List.mem_singleton] at hy
      rw [hy]
      exact hx
  · rw [List.length_append, List.length_singleton]; omega
theorem lit_3 : litL 3 = WD.getD 18 [] ++ [32] := by decide
theorem lit_4 : litL 4 = WD.getD 20 [] ++ [32] := by decide
theorem lit_5 : litL 5 = WD.getD 19 [] ++ [32] := by decide
theorem lit_2 : litL 2 = [59] := by decide
theorem lit_0 : litL 0 = WD.getD 8 [] ++ [32] := by decide
theorem lit_1 : litL 1 = [32] ++ (WD.getD 17 [] ++ [32]) := by decide
theorem one_tx {l wd : Nat} (hq : q ≠ 0) (e : stW q - 256 = wd) (el : litL l = WD.getD wd [] ++ [32]) : [] ++ litL l ++ dgs a ++ litL 2 = pTx (stP (q, a, b)) := by
  rw [st_p1 hq e, el, lit_2, List.nil_append, List.append_assoc, List.append_assoc]
  rfl
theorem han_tx : [] ++ litL 0 ++ dgs a ++ litL 1 ++ dgs b ++ litL 2 = pTx (stP (0, a, b)) := by
  have e : pTx (stP (0, a, b)) = WD.getD 8 [] ++ ([32] ++ (dgs a ++ ([32] ++ (WD.getD 17 [] ++ ([32] ++ (dgs b ++ ([59] ++ []))))))) := rfl
  rw [e, lit_0, lit_1, lit_2, List.nil_append]
  simp only [List.append_assoc, List.append_nil]
theorem asc_st (hz : z ≤ 12) (hx : stO z x) : Asc (pTx (stP x)) ∧ (pTx (stP x)).length ≤ 22 := by
  have := tel_st (hD := 0) hz hx
  exact ⟨this.2.2.2, this.2.2.1⟩
theorem nI3 {a b : Nat} (ha : a ≤ 9) (hb : b ≤ 9) (h : a ≠ b) : ¬ nI a = nI b := nI_ne h (by omega) (by omega)
theorem p_318 (h3 : s9 ≠ (3 : Int32)) (q : Wd (X (s6, s7 + 1) h) Q) : Wd (g_L_texts_J318_55 N t a2 p3 Bt p5 K X s6 s7 s8 s9 h) Q := by
  unfold g_L_texts_J318_55
  rw [if_neg h3]
  exact q
theorem p_263 (h3 : s9 ≠ (2 : Int32)) (q : Wd (g_L_texts_J318_55 N t a2 p3 Bt p5 K X s6 s7 s8 s9 h) Q) : Wd (g_L_texts_J263_55 N t a2 p3 Bt p5 K X s6 s7 s8 s9 h) Q := by
  unfold g_L_texts_J263_55
  rw [if_neg h3]
  exact q
theorem p_210 (h3 : s9 ≠ (1 : Int32)) (q : Wd (g_L_texts_J263_55 N t a2 p3 Bt p5 K X s6 s7 s8 s9 h) Q) : Wd (g_L_texts_J210_55 N t a2 p3 Bt p5 K X s6 s7 s8 s9 h) Q := by
  unfold g_L_texts_J210_55
  rw [if_neg h3]
  exact q
theorem w_318 (hN : 20000 ≤ N) (hz : z ≤ 12) (e7 : h0.2.2 t 7 = nI z) (eT : ∃ rs, h0.2.1[t]? = some (12, 25, rs)) (t123 : 123 ≤ t) (hn : csz h0.2.1 + 200 < 1000000) (I : StI h0 t Bt At u z T h) (hT : T.length < 8) (z1 : 1 ≤ z)
    (hX : ∀ x h', StI h0 t Bt At u z (T ++ [x]) h' → x.1 ≠ 0 → Wd (X (s6, s7 + 1) h') Q) (h3 : s9 = (3 : Int32)) :
    Wd (g_L_texts_J318_55 N t a2 p3 Bt p5 K X s6 s7 s8 s9 h) Q := by
  obtain ⟨rs, eT⟩ := eT
  have tl := len_of eT
  have et : h.2.1[t]? = some (12, 25, rs) := I.1.2.2.2.2.2.2.1.trans eT
  unfold g_L_texts_J318_55
  rw [if_pos h3]
  refine wd_bo (e_dI et (by decide) (by decide)) ?_
  rw [I.1.2.2.2.2.2.2.2.1 7 (Or.inl (by decide)), e7, show nI z - (1 : Int32) = nI (z - 1) from pk_sub z1]
  refine wd_btw (lo := 0) (hi := z - 1) rfl rfl (Nat.zero_le _) (by omega) (fun a _ ha => ?_)
  refine wd_bo (e_dI et (by decide) (by decide)) ?_
  have sh : (1 : Int32) <<< (nI a &&& 31) = nI (2 ^ a) := by
    have := pk_shlN (n := 1) (nI a &&& nI 31) a (sh_cnt a (by omega)) (by
      have : 2 ^ a ≤ 2 ^ 11 := Nat.pow_le_pow_right (by decide) (by omega)
      omega)
    rw [Nat.one_mul] at this
    exact this
  rw [I.2.1.2.2.1, sh, nz_or]
  refine wd_bo (e_wI et (by decide) (by decide) t123) ?_
  obtain ⟨ha, eha⟩ : ∃ ha : DS, ha = (h.1, h.2.1, mset h.2.2 t 12 (nI (dblT T ||| 2 ^ a))) := ⟨_, rfl⟩
  rw [← eha]
  have Ba : StB h0 t Bt At (pTx (T.flatMap stP)) (hdT (T ++ [(3, a, 0)])) (5 + 13 * T.length) (50 + 2000 * T.length) ha := by
    rw [eha, hdT_sn, if_neg (show ¬ (3 : Nat) = 0 by decide)]
    exact I.1.set tl t123 (by decide) (by decide)
  have Fa : StF t u (T ++ [(3, a, 0)]) ha := by
    obtain ⟨f1, f2, f3, f4⟩ := I.2.1
    rw [eha]
    refine ⟨?_, ?_, ?_, ?_⟩
    · rw [lasT_sn, if_neg (show ¬ (3 : Nat) = 1 by decide)]
      exact (mset_j (by decide)).trans f1
    · rw [lasT_sn, if_neg (show ¬ (3 : Nat) = 2 by decide)]
      exact (mset_j (by decide)).trans f2
    · rw [dblT_sn, if_pos rfl]
      exact mset_at _ _ _ _
    · exact (mset_j (by decide)).trans f4
  have hO : stO z (3, a, 0) := Or.inr (Or.inr (Or.inr ⟨rfl, by show a < z; omega, rfl⟩))
  have cB := Ba.2.2.2.2.2.2.2.2.1
  have kB := Ba.2.1
  have l5 : (litL 5).length = 7 := by decide
  have l2 : (litL 2).length = 1 := by decide
  have dl := dgs_le (a := a) (by omega)
  have ll := I.len hz
  have la := asc_st hz hO
  refine bl_new kB (by omega) (fun v1 h1 b1 => ?_)
  refine bl_lit (i := 5) b1 rfl (by decide) (by omega) (by decide) (fun h2 b2 => ?_)
  refine bl_num hN b2 rfl (by omega) (by omega) (by decide) (fun h3 b3 => ?_)
  refine bl_lit (i := 2) b3 rfl (by decide) (by omega) ?_ (fun h4 b4 => ?_)
  · simp only [List.length_append, List.length_nil, l5, l2]
    omega
  rw [one_tx (q := 3) (b := 0) (by decide) (by decide) lit_5] at b4
  refine st_tail (F := fun _ h' => X (s6, s7 + 1) h') Ba tl b4 la.1 (by omega) (by omega) (fun h5 B5 e5 => ?_)
  exact hX _ h5 (I.next hT hO B5 (by omega) (by omega) (by unfold StF; rw [e5]; exact Fa)) (show (3 : Nat) ≠ 0 by decide)
end LINEK
