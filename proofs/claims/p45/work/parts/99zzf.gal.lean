/-! the third text: who sits beside whom -/
section GALL
variable {h h' h1 h2 h3 h0 hb : DS} {N t B Bt At A3 P n c k j i z q a b u e m C S C' S' V cap d : Nat} {p : Plc} {w w' : Arr} {dl : Option (Nat → Int32)} {LN : List Lin} {lb lb' : Nat → Nat × Nat × Nat} {T H : List St3} {s s' : List Nat} {Q : Int32 → DS → Prop} {r : Nat → Nat} {v y a2 p3 hD : Int32} {p5 : Nat} {K : DS → DA} {X : Int32 → DS → DA} {rs : List (Option Nat)} {R : List Rw4} {m1 m0 m5 : Mem} {x : St3} {oo : Option SE} {A D A' D' : Nat → Nat}
def gaP (x : St3) : List Pc := [(0, 7), (3, 0), (1, x.2.1), (3, 0), (0, 15), (3, 0), (1, x.2.2), (2, 59)]
def gaR (x : St3) : Rw4 := (263, nI x.2.1, nI x.2.2, nI 0)
theorem tel_ga (hz : z ≤ 12) (h1 : x.2.1 < z) (h2 : x.2.2 < z) (hne : x.2.1 ≠ x.2.2) : Tel 3 z hD gaP gaR 24 x := by
  obtain ⟨q, a, b⟩ := x
  have h1 : a < z := h1
  have h2 : b < z := h2
  have ha : a < 10000 := by omega
  have hb : b < 10000 := by omega
  have l1 := dgs_le ha
  have l2 := dgs_le hb
  refine ⟨fun r hr => ?_, ln_seat hz h1 h2 hne, ?_, ?_⟩
  · exact adj_bl (by decide) (adj_b2 (adj_bl (pok_n ha) (adj_b2 (adj_bl (by decide) (adj_b2 (adj_nm hb (adj_sg hr)))))))
  · show (WD.getD 7 [] ++ ([32] ++ (dgs a ++ ([32] ++ (WD.getD 15 [] ++ ([32] ++ (dgs b ++ ([59] ++ [])))))))).length ≤ 24
    have e1 : (WD.getD 7 []).length = 6 := by decide
    have e2 : (WD.getD 15 []).length = 6 := by decide
    simp only [List.length_append, List.length_cons, List.length_nil, e1, e2]
    omega
  · show Asc (WD.getD 7 [] ++ ([32] ++ (dgs a ++ ([32] ++ (WD.getD 15 [] ++ ([32] ++ (dgs b ++ ([59] ++ []))))))))
    have c1 : Asc [32] := by intro b hb; simp at hb; omega
    have c2 : Asc ([59] ++ []) := by intro b hb; simp at hb; omega
    have w1 : Asc (WD.getD 7 []) := by unfold Asc; decide
    have w2 : Asc (WD.getD 15 []) := by unfold Asc; decide
    exact asc_app w1 (asc_app c1 (asc_app (dgs_asc ha) (asc_app c1 (asc_app w2 (asc_app c1 (asc_app (dgs_asc hb) c2))))))
theorem lit_8 : litL 8 = WD.getD 7 [] ++ [32] := by decide
theorem lit_9 : litL 9 = [32] ++ (WD.getD 15 [] ++ [32]) := by decide
theorem ga_tx : [] ++ litL 8 ++ dgs a ++ litL 9 ++ dgs b ++ litL 2 = pTx (gaP (0, a, b)) := by
  have e : pTx (gaP (0, a, b)) = WD.getD 7 [] ++ ([32] ++ (dgs a ++ ([32] ++ (WD.getD 15 [] ++ ([32] ++ (dgs b ++ ([59] ++ []))))))) := rfl
  rw [e, lit_8, lit_9, lit_2, List.nil_append]
  simp only [List.append_assoc, List.append_nil]
theorem gvR_cg : ∀ n, (∀ i, i < n → A' i = A i ∧ D' i = D i) → gvR A' D' k n = gvR A D k n
  | 0, _ => rfl
  | n + 1, h => by
    have ih := gvR_cg n (fun i hi => h i (by omega))
    obtain ⟨e1, e2⟩ := h n (by omega)
    unfold gvR
    rw [ih, e1, e2]
def gaF (T : List St3) (k : Nat) : Nat := gvR (rA (T.map gaR)) (rD (T.map gaR)) k T.length
theorem gaF_sn (ha : x.2.1 < 2 ^ 31) (hb : x.2.2 < 2 ^ 31) : gaF (T ++ [x]) k = if x.2.2 = k then (if x.2.1 = k then gaF T k ||| 2 ^ x.2.2 else gaF T k) ||| 2 ^ x.2.1 else (if x.2.1 = k then gaF T k ||| 2 ^ x.2.2 else gaF T k) := by
  have e : ∀ i, i < T.length → ((T ++ [x]).map gaR)[i]? = (T.map gaR)[i]? := fun i hi => by
    rw [List.map_append, List.getElem?_append_left (by rw [List.length_map]; exact hi)]
  have f : ((T ++ [x]).map gaR)[T.length]? = some (gaR x) := by
    rw [List.map_append, List.getElem?_append_right (by rw [List.length_map]; exact Nat.le_refl _), List.length_map, Nat.sub_self]
    rfl
  have g : gvR (rA ((T ++ [x]).map gaR)) (rD ((T ++ [x]).map gaR)) k T.length = gaF T k := gvR_cg _ (fun i hi => by
    unfold rA rD
    rw [e i hi]
    exact ⟨rfl, rfl⟩)
  have a1 : rA ((T ++ [x]).map gaR) T.length = x.2.1 := by
    unfold rA
    rw [f]
    exact nv_nI ha
  have a2 : rD ((T ++ [x]).map gaR) T.length = x.2.2 := by
    unfold rD
    rw [f]
    exact nv_nI hb
  have l : (T ++ [x]).length = T.length + 1 := by rw [List.length_append, List.length_singleton]
  show gvR (rA ((T ++ [x]).map gaR)) (rD ((T ++ [x]).map gaR)) k (T ++ [x]).length = _
  rw [l]
  show (if rD ((T ++ [x]).map gaR) T.length = k then (if rA ((T ++ [x]).map gaR) T.length = k then gvR (rA ((T ++ [x]).map gaR)) (rD ((T ++ [x]).map gaR)) k T.length ||| 2 ^ rD ((T ++ [x]).map gaR) T.length else gvR (rA ((T ++ [x]).map gaR)) (rD ((T ++ [x]).map gaR)) k T.length) ||| 2 ^ rA ((T ++ [x]).map gaR) T.length else (if rA ((T ++ [x]).map gaR) T.length = k then gvR (rA ((T ++ [x]).map gaR)) (rD ((T ++ [x]).map gaR)) k T.length ||| 2 ^ rD ((T ++ [x]).map gaR) T.length else gvR (rA ((T ++ [x]).map gaR)) (rD ((T ++ [x]).map gaR)) k T.length)) = _
  rw [g, a1, a2]
def GaI (h0 : DS) (t Bt A3 u z : Nat) (oo : Option SE) (T : List St3) (h : DS) : Prop :=
  FrE (fun c => c = t) h0 h ∧ lk h ∧ h0.2.1.length ≤ Bt ∧ h0.2.1.length ≤ A3 ∧ (∃ V cap, SbV h Bt V cap (pTx (T.flatMap gaP)) ∧ h0.2.1.length ≤ V) ∧ h.2.1[A3]? = some (100, 12, []) ∧ (∀ k, k < 12 → h.2.2 A3 k = nI (gaF T k)) ∧ h.2.1[t]? = oo ∧ (∀ j, j ≠ 14 → h.2.2 t j = h0.2.2 t j) ∧ h.2.2 t 14 = nI u ∧
  csz h.2.1 ≤ csz h0.2.1 + (5 + 13 * T.length) ∧ ssz h.2.1 ≤ ssz h0.2.1 + (50 + 1750 * T.length) ∧ (∀ x, x ∈ T → x.2.1 < z ∧ x.2.2 < z ∧ x.2.1 ≠ x.2.2) ∧ T.length ≤ u
theorem GaI.len (I : GaI h0 t Bt A3 u z oo T h) (hz : z ≤ 12) : (pTx (T.flatMap gaP)).length ≤ 24 * T.length := len_all fun x hx => by
  have := I.2.2.2.2.2.2.2.2.2.2.2.2.1 x hx
  exact (tel_ga (hD := 0) hz this.1 this.2.1 this.2.2).2.2.1
theorem sh1 (ha : a < 12) : (1 : Int32) <<< (nI a &&& 31) = nI (2 ^ a) := by
  have := pk_shlN (n := 1) (nI a &&& nI 31) a (sh_cnt a (by omega)) (by
    have : 2 ^ a ≤ 2 ^ 11 := Nat.pow_le_pow_right (by decide) (by omega)
    omega)
  rw [Nat.one_mul] at this
  exact this
theorem w_L680 (hN : 20000 ≤ N) (hz : z ≤ 12) (e7 : h0.2.2 t 7 = nI z) (t123 : 123 ≤ t) (tl : t < h0.2.1.length) (hn : csz h0.2.1 + 300 < 1000000) (hrs : rs.length = 25) (I : GaI h0 t Bt A3 u z (some (12, 25, rs.set 20 (some A3))) [] h) (hu : u ≤ 14) (hz2 : u ≠ 0 → 2 ≤ z)
    (hK : ∀ T h', T.length = u → GaI h0 t Bt A3 u z (some (12, 25, rs.set 20 (some A3))) T h' → Wd (K h') Q) : Wd (jt (fun Y a hz => g_L_texts_L680 N t a2 (nI u) Bt K Y a hz) N (0 : Int32) h) Q := by
  refine wd_jt (fun q a h' => ∃ T, T.length ≤ u ∧ q = u - T.length ∧ a = nI T.length ∧ GaI h0 t Bt A3 u z (some (12, 25, rs.set 20 (some A3))) T h') ?_ N u _ _ (by omega) ⟨[], by simp, rfl, rfl, I⟩
  rintro q X a h1 ⟨T, hT, rfl, rfl, I1⟩ hX
  unfold g_L_texts_L680
  refine wd_ite (fun z1 => ?_) (fun z1 => ?_)
  · have z1 := (nI_leI (by omega) (by omega)).mp z1
    exact hK T h1 (by omega) I1
  · have z1 : ¬ u ≤ T.length := fun y => z1 ((nI_leI (by omega) (by omega)).mpr y)
    have z2 := hz2 (by omega)
    have ll := I1.len hz
    obtain ⟨i1, i2, i3, i4, ⟨V, cap, i5, i5v⟩, i6, i7, i8, i9, i10, i11, i12, i13, i14⟩ := I1
    have le := i1.2.1
    have f7 : h1.2.2 t 7 = nI z := (i9 7 (by decide)).trans e7
    have m1' : nI z - (1 : Int32) = nI (z - 1) := pk_sub (b := 1) (by omega)
    have hR : nn (dR h1 t 12 20) = some A3 := e_nn ((e_dR i8 (by decide) (by decide)).trans (by
      rw [List.getD_eq_getElem?_getD, List.getElem?_set, if_pos rfl, if_pos (by omega)]
      rfl))
    refine wd_bo (e_dI i8 (by decide) (by decide)) ?_
    rw [f7, m1']
    refine wd_btw (lo := 0) (hi := z - 1) rfl rfl (Nat.zero_le _) (by omega) (fun a _ ha => ?_)
    refine wd_bo (e_dI i8 (by decide) (by decide)) ?_
    rw [f7, m1']
    refine wd_btw (lo := 1) (hi := z - 1) rfl rfl (by omega) (by omega) (fun d d1 hd => ?_)
    refine wd_bo (e_dI i8 (by decide) (by decide)) ?_
    rw [f7]
    refine wd_chk (decide_eq_true (show nI z ≠ 0 from nI_ne (b := 0) (by omega) (by omega) (by decide))) ?_
    obtain ⟨b, eb⟩ : ∃ b, b = (a + d) % z := ⟨_, rfl⟩
    have hb : b < z := by rw [eb]; exact Nat.mod_lt _ (by omega)
    have hne : a ≠ b := by
      rw [eb]
      intro e
      by_cases y : a + d < z
      · rw [Nat.mod_eq_of_lt y] at e; omega
      · rw [Nat.mod_eq_sub_mod (by omega), Nat.mod_eq_of_lt (by omega)] at e; omega
    have erm : irm (nI a + nI d) (nI z) = nI b := by
      rw [nI_add, eb]
      exact pk_rem (by omega) (by omega) (by omega)
    rw [erm, sh1 (a := b) (by omega), sh1 (a := a) (by omega)]
    have a12 : inb (nI a) 12 = true := inb_nI (by omega) (by decide)
    have b12 : inb (nI b) 12 = true := inb_nI (by omega) (by decide)
    refine wd_bo hR (wd_bo (e_lA i6 a12) (wd_bo (e_sA i6 a12 (by omega)) ?_))
    rw [nI_clamp (by omega), i7 a (by omega), nz_or]
    obtain ⟨h2, eh2⟩ : ∃ h2 : DS, h2 = (h1.1, h1.2.1, mset h1.2.2 A3 a (nI (gaF T a ||| 2 ^ b))) := ⟨_, rfl⟩
    rw [← eh2]
    have s2 : h2.2.1 = h1.2.1 := by rw [eh2]
    have ntA : t ≠ A3 := by omega
    have v2 : h2.2.2 A3 b = nI (gaF T b) := by rw [eh2]; exact (mset_j (fun e => hne e.symm)).trans (i7 b (by omega))
    have hR2 : nn (dR h2 t 12 20) = some A3 := by
      rw [← hR]
      unfold dR
      rw [s2]
    refine wd_bo hR2 (wd_bo (e_lA (by rw [s2]; exact i6) b12) (wd_bo (e_sA (by rw [s2]; exact i6) b12 (by omega)) ?_))
    rw [nI_clamp (by omega), v2, nz_or]
    obtain ⟨h3, eh3⟩ : ∃ h3 : DS, h3 = (h2.1, h2.2.1, mset h2.2.2 A3 b (nI (gaF T b ||| 2 ^ a))) := ⟨_, rfl⟩
    rw [← eh3]
    have s3 : h3.2.1 = h1.2.1 := by rw [eh3]; exact s2
    have o3 : ∀ c, c ≠ A3 → h3.2.2 c = h1.2.2 c := fun c hc => by
      rw [eh3]
      refine (mset_ne hc).trans ?_
      rw [eh2]
      exact mset_ne hc
    have F3 : FrE (fun c => c = A3) h1 h3 := ⟨by rw [eh3, eh2], by rw [s3]; exact Nat.le_refl _, fun c _ hc => ⟨by rw [s3], o3 c hc⟩⟩
    have k3 : lk h3 := by
      rw [eh3]
      refine lk_mset ?_ (by omega)
      rw [eh2]
      exact lk_mset i2 (by omega)
    have x0 : ∀ k, k < 12 → h3.2.2 A3 k = nI (gaF (T ++ [(0, a, b)]) k) := by
      intro k hk
      rw [gaF_sn (by show a < 2 ^ 31; omega) (by show b < 2 ^ 31; omega)]
      dsimp only
      by_cases y : b = k
      · subst y
        rw [if_pos rfl, if_neg hne, eh3]
        exact mset_at _ _ _ _
      · rw [if_neg y, eh3]
        refine (mset_j (fun e => y e.symm)).trans ?_
        rw [eh2]
        by_cases y2 : a = k
        · subst y2
          rw [if_pos rfl]
          exact mset_at _ _ _ _
        · rw [if_neg y2]
          exact (mset_j (fun e => y2 e.symm)).trans (i7 k hk)
    have c3 : csz h3.2.1 = csz h1.2.1 := by rw [s3]
    have q3 : ssz h3.2.1 = ssz h1.2.1 := by rw [s3]
    have t3 : h3.2.2 t = h1.2.2 t := o3 t ntA
    have i63 : h3.2.1[A3]? = some (100, 12, []) := by rw [s3]; exact i6
    have i83 := i8
    rw [← s3] at i83
    have nB : Bt ≠ A3 := ne_of_tag i5.2.1 i6 (by decide)
    have nV : V ≠ A3 := by
      obtain ⟨rs, e⟩ := i5.2.2.2.2.1
      exact ne_of_tag e i6 (by decide)
    have S3 := i5.fre F3 nB nV
    clear eh3 eh2
    have l0 : (litL 8).length = 7 := by decide
    have l1 : (litL 9).length = 8 := by decide
    have l2 : (litL 2).length = 1 := by decide
    have dla := dgs_le (a := a) (by omega)
    have dlb := dgs_le (a := b) (by omega)
    have tg := tel_ga (hD := 0) (x := (0, a, b)) hz (show a < z by omega) hb hne
    refine bl_new k3 (by omega) (fun v1 j1 b1 => ?_)
    refine bl_lit (i := 8) b1 rfl (by decide) (by omega) (by decide) (fun j2 b2 => ?_)
    refine bl_num hN b2 rfl (show a < 10000 by omega) (by omega) (by decide) (fun j3 b3 => ?_)
    refine bl_lit (i := 9) b3 rfl (by decide) (by omega) ?_ (fun j4 b4 => ?_)
    · simp only [List.length_append, List.length_nil, l0, l1]
      omega
    refine bl_num hN b4 rfl (show b < 10000 by omega) (by omega) ?_ (fun j5 b5 => ?_)
    · simp only [List.length_append, List.length_nil, l0, l1]
      omega
    refine bl_lit (i := 2) b5 rfl (by decide) (by omega) ?_ (fun j6 b6 => ?_)
    · simp only [List.length_append, List.length_nil, l0, l1, l2]
      omega
    rw [ga_tx] at b6
    have lg := tg.2.2.1
    refine bl_str b6 tg.2.2.2 (by omega) (fun S1 V1 h4 f4 k4 m4 l1 l2 c4 z4 => ?_)
    refine bl_out S3 f4 k4 m4 l1 l2 tg.2.2.2 (by omega) (by omega) (fun h5 V' cap' g1 g2 g3 g4 g5 g6 => ?_)
    have nA : ¬ (A3 = Bt ∨ A3 = V) := by omega
    have nT : ¬ (t = Bt ∨ t = V) := by omega
    have fA := g3.2.2 A3 (len_of i63) nA
    have fT := g3.2.2 t (len_of i83) nT
    have up : nI T.length + (1 : Int32) = nI (T.length + 1) := nI_up _
    have lT : (T ++ [(0, a, b)]).length = T.length + 1 := by rw [List.length_append, List.length_singleton]
    rw [up]
    refine hX (u - (T ++ [(0, a, b)]).length) _ _ (by omega) ⟨T ++ [(0, a, b)], by omega, rfl, by rw [lT], ?_, g4, i3, i4, ⟨V', cap', by rw [pTx_snoc]; exact g1, by have := F3.2.1; omega⟩, fA.1.trans i63, fun k hk => (congrFun fA.2 k).trans (x0 k hk), fT.1.trans i83, fun j hj => (congrFun (fT.2.trans t3) j).trans (i9 j hj), (congrFun (fT.2.trans t3) 14).trans i10, by omega, by omega, fun x hx => ?_, by omega⟩
    · exact (i1.tr F3 (fun c hc _ => by omega)).tr g3 (fun c hc _ => by omega)
    · rcases List.mem_append.mp hx with hx | hx
      · exact i13 x hx
      · rw [List.mem_singleton] at hx
        rw [hx]
        exact ⟨show a < z by omega, hb, hne⟩
end GALL
