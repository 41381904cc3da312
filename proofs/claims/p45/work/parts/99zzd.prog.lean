/-! the second text: the programme -/
section PROGT
variable {h h' h1 h2 h3 h0 hb : DS} {N t B Bt At A2 P n c k j i z q a b u e m C S C' S' V cap d : Nat} {p : Plc} {w w' : Arr} {dl : Option (Nat → Int32)} {LN : List Lin} {lb lb' : Nat → Nat × Nat × Nat} {T H : List St3} {s s' : List Nat} {Q : Int32 → DS → Prop} {r : Nat → Nat} {v y a2 p3 hH : Int32} {p5 : Nat} {K : DS → DA} {X : Int32 → DS → DA} {rs : List (Option Nat)} {R : List Rw4} {m1 m0 m5 : Mem} {x : St3} {oo : Option SE}
def pgP (x : St3) : List Pc := [(0, 21), (3, 0), (1, x.2.1), (3, 0), (0, 22), (3, 0), (1, x.2.2), (2, 59)]
def pgR (x : St3) : Rw4 := (277, nI x.2.1, nI x.2.2, nI 0)
theorem tel_pg (hd : d ≤ 8) (h1 : x.2.1 ≤ 9999) (h2 : x.2.2 < d) : Tel 2 z (nI d - nI 1) pgP pgR 22 x := by
  obtain ⟨q, a, b⟩ := x
  have ha : a < 10000 := Nat.lt_succ_of_le h1
  have h2 : b < d := h2
  have hb : b < 10000 := by omega
  have l1 := dgs_le ha
  have l2 := dgs_le hb
  refine ⟨fun r hr => ?_, ln_at hd h1 h2, ?_, ?_⟩
  · exact adj_bl (by decide) (adj_b2 (adj_bl (pok_n ha) (adj_b2 (adj_bl (by decide) (adj_b2 (adj_nm hb (adj_sg hr)))))))
  · show (WD.getD 21 [] ++ ([32] ++ (dgs a ++ ([32] ++ (WD.getD 22 [] ++ ([32] ++ (dgs b ++ ([59] ++ [])))))))).length ≤ 22
    have e1 : (WD.getD 21 []).length = 2 := by decide
    have e2 : (WD.getD 22 []).length = 4 := by decide
    simp only [List.length_append, List.length_cons, List.length_nil, e1, e2]
    omega
  · show Asc (WD.getD 21 [] ++ ([32] ++ (dgs a ++ ([32] ++ (WD.getD 22 [] ++ ([32] ++ (dgs b ++ ([59] ++ []))))))))
    have c1 : Asc [32] := by intro b hb; simp at hb; omega
    have c2 : Asc ([59] ++ []) := by intro b hb; simp at hb; omega
    have w1 : Asc (WD.getD 21 []) := by unfold Asc; decide
    have w2 : Asc (WD.getD 22 []) := by unfold Asc; decide
    exact asc_app w1 (asc_app c1 (asc_app (dgs_asc ha) (asc_app c1 (asc_app w2 (asc_app c1 (asc_app (dgs_asc hb) c2))))))
theorem lit_6 : litL 6 = WD.getD 21 [] ++ [32] := by decide
theorem lit_7 : litL 7 = [32] ++ (WD.getD 22 [] ++ [32]) := by decide
theorem pg_tx : [] ++ litL 6 ++ dgs a ++ litL 7 ++ dgs b ++ litL 2 = pTx (pgP (0, a, b)) := by
  have e : pTx (pgP (0, a, b)) = WD.getD 21 [] ++ ([32] ++ (dgs a ++ ([32] ++ (WD.getD 22 [] ++ ([32] ++ (dgs b ++ ([59] ++ []))))))) := rfl
  rw [e, lit_6, lit_7, lit_2, List.nil_append]
  simp only [List.append_assoc, List.append_nil]
def PgI (h0 : DS) (t Bt A2 u d : Nat) (oo : Option SE) (T : List St3) (h : DS) : Prop := StB u oo h0 t Bt A2 (pTx (T.flatMap pgP)) T (5 + 13 * T.length) (50 + 2000 * T.length) h ∧ h.2.2 t = h0.2.2 t ∧ (∀ x, x ∈ T → x.2.1 ≤ 9999 ∧ x.2.2 < d) ∧ T.length ≤ u
theorem PgI.len (I : PgI h0 t Bt A2 u d oo T h) (hd : d ≤ 8) : (pTx (T.flatMap pgP)).length ≤ 22 * T.length := len_all fun x hx => (tel_pg (z := 0) hd (I.2.2.1 x hx).1 (I.2.2.1 x hx).2).2.2.1
theorem w_L488 (hN : 20000 ≤ N) (hd : d ≤ 8) (e8 : h0.2.2 t 8 = nI d) (t123 : 123 ≤ t) (tl : t < h0.2.1.length) (hn : csz h0.2.1 + 200 < 1000000) (hrs : rs.length = 25) (I : PgI h0 t Bt A2 u d (some (12, 25, rs.set 19 (some A2))) [] h) (hu : u ≤ 8) (hd1 : u ≠ 0 → 1 ≤ d)
    (hK : ∀ T h', T.length = u → PgI h0 t Bt A2 u d (some (12, 25, rs.set 19 (some A2))) T h' → Wd (K h') Q) : Wd (jt (fun Y a hz => g_L_texts_L488 N t a2 (nI u) Bt K Y a hz) N (0 : Int32) h) Q := by
  refine wd_jt (fun q a h' => ∃ T, T.length ≤ u ∧ q = u - T.length ∧ a = nI T.length ∧ PgI h0 t Bt A2 u d (some (12, 25, rs.set 19 (some A2))) T h') ?_ N u _ _ (by omega) ⟨[], by simp, rfl, rfl, I⟩
  rintro q X a h1 ⟨T, hT, rfl, rfl, I1⟩ hX
  unfold g_L_texts_L488
  refine wd_ite (fun z1 => ?_) (fun z1 => ?_)
  · have z1 := (nI_leI (by omega) (by omega)).mp z1
    exact hK T h1 (by omega) I1
  · have z1 : ¬ u ≤ T.length := fun y => z1 ((nI_leI (by omega) (by omega)).mpr y)
    have d1 := hd1 (by omega)
    have hR : ∀ {s H C S h}, StB u (some (12, 25, rs.set 19 (some A2))) h0 t Bt A2 s H C S h → nn (dR h t 12 19) = some A2 := fun B => e_nn ((e_dR B.2.2.2.2.2.2.1 (by decide) (by decide)).trans (by
      rw [List.getD_eq_getElem?_getD, List.getElem?_set, if_pos rfl, if_pos (by omega)]
      rfl))
    have B1 := I1.1
    have et := B1.2.2.2.2.2.2.1
    have kI := B1.2.1
    have cI := B1.2.2.2.2.2.2.2.2.1
    have le := B1.1.2.1
    have n1 : csz h1.2.1 = h1.2.1.length := rfl
    refine wd_bo (hR B1) ?_
    refine wd_bo (e_nA (a := 2) (by decide) (by decide) (by omega)) ?_
    obtain ⟨hb, eb⟩ : ∃ hb, hb = grown h1 (100, (2 : Int32).toNatClampNeg, []) (fun _ => 0) := ⟨_, rfl⟩
    rw [← eb]
    have kb : lk hb := by rw [eb]; exact lk_gr kI (by omega) (fun j q hq => by simp at hq)
    have hbn : hb.2.1[h1.2.1.length]? = some (100, 2, []) := by rw [eb]; exact gw_new
    have fb : FrA h1 hb := ⟨by rw [eb]; rfl, by rw [eb, gw_len]; omega, fun c hc => by
      rw [eb]
      exact ⟨gw_old hc, gw_mo hc⟩⟩
    have cb : csz hb.2.1 = csz h1.2.1 + 1 := by rw [eb]; exact gw_len
    have sb : ssz hb.2.1 = ssz h1.2.1 + 2 := by rw [eb]; exact ssz_gr
    clear eb
    refine wd_btw (lo := 0) (hi := 250) rfl rfl (by decide) (by decide) (fun a _ ha => ?_)
    have g123 := lk_len kI
    refine wd_bo (e_sA hbn (by decide) g123) ?_
    obtain ⟨h2, eh2⟩ : ∃ h2 : DS, h2 = (hb.1, hb.2.1, mset hb.2.2 h1.2.1.length (0 : Int32).toNatClampNeg (nI a)) := ⟨_, rfl⟩
    rw [← eh2]
    have F2 : FrA h1 h2 := by
      rw [eh2]
      exact ⟨fb.1, fb.2.1, fun c hc => ⟨(fb.2.2 c hc).1, (mset_ne (by omega)).trans (fb.2.2 c hc).2⟩⟩
    have k2 : lk h2 := by rw [eh2]; exact lk_mset kb g123
    have w0 : h2.2.2 h1.2.1.length 0 = nI a := by rw [eh2]; exact mset_at _ _ _ _
    have en2 : h2.2.1[h1.2.1.length]? = some (100, 2, []) := by rw [eh2]; exact hbn
    have c2 : csz h2.2.1 = csz h1.2.1 + 1 := by rw [eh2]; exact cb
    have s2 : ssz h2.2.1 = ssz h1.2.1 + 2 := by rw [eh2]; exact sb
    clear eh2
    have ft := F2.2.2 t (by omega)
    have f8 : h2.2.2 t 8 = nI d := (congrFun (ft.2.trans I1.2.1) 8).trans e8
    refine wd_bo (e_dI (ft.1.trans et) (by decide) (by decide)) ?_
    rw [f8, show nI d - (1 : Int32) = nI (d - 1) from pk_sub d1]
    refine wd_btw (lo := 0) (hi := d - 1) rfl rfl (Nat.zero_le _) (by omega) (fun b _ hb' => ?_)
    refine wd_bo (e_sA en2 (by decide) g123) ?_
    obtain ⟨h3, eh3⟩ : ∃ h3 : DS, h3 = (h2.1, h2.2.1, mset h2.2.2 h1.2.1.length (1 : Int32).toNatClampNeg (nI b)) := ⟨_, rfl⟩
    rw [← eh3]
    have F3 : FrA h1 h3 := by
      rw [eh3]
      exact ⟨F2.1, F2.2.1, fun c hc => ⟨(F2.2.2 c hc).1, (mset_ne (by omega)).trans (F2.2.2 c hc).2⟩⟩
    have k3 : lk h3 := by rw [eh3]; exact lk_mset k2 (by omega)
    have x0 : h3.2.2 h1.2.1.length 0 = nI a := by rw [eh3]; exact (mset_j (by decide)).trans w0
    have x1 : h3.2.2 h1.2.1.length 1 = nI b := by rw [eh3]; exact mset_at _ _ _ _
    have e3 : h3.2.1[h1.2.1.length]? = some (100, 2, []) := by rw [eh3]; exact en2
    have c3 : csz h3.2.1 = csz h2.2.1 := by rw [eh3]
    have z3 : ssz h3.2.1 = ssz h2.2.1 := by rw [eh3]
    clear eh3
    obtain ⟨B3, f3⟩ := B1.fra (k := 1) (m := 2) tl F3 k3 (by omega) (by omega)
    obtain ⟨h4, e4, B4, f4⟩ := B3.put (x := (0, a, b)) tl t123 e3 (by omega) x0 x1 (by omega) (by omega)
    refine wd_bo e4 ?_
    have cB := B4.2.2.2.2.2.2.2.2.1
    have l0 : (litL 6).length = 3 := by decide
    have l1 : (litL 7).length = 6 := by decide
    have l2 : (litL 2).length = 1 := by decide
    have dla := dgs_le (a := a) (by omega)
    have dlb := dgs_le (a := b) (by omega)
    have ll := I1.len hd
    have tg := tel_pg (z := 0) (x := (0, a, b)) hd (show a ≤ 9999 by omega) (show b < d by omega)
    refine bl_new B4.2.1 (by omega) (fun v1 i1 b1 => ?_)
    refine bl_lit (i := 6) b1 rfl (by decide) (by omega) (by decide) (fun i2 b2 => ?_)
    have G2 := (B4.fra tl b2.1 b2.2.1 b2.2.2.2.2.1 b2.2.2.2.2.2).1
    obtain ⟨q1, g1, g2, -⟩ := G2.last (by omega)
    refine wd_bo (hR G2) (wd_bo g1 (wd_bo g2 ?_))
    refine bl_num hN b2 rfl (show a < 10000 by omega) (by omega) (by decide) (fun i3 b3 => ?_)
    refine bl_lit (i := 7) b3 rfl (by decide) (by omega) ?_ (fun i4 b4 => ?_)
    · simp only [List.length_append, List.length_nil, l0, l1]
      show 0 + 3 + (dgs a).length + 6 ≤ 40
      omega
    have G4 := (B4.fra tl b4.1 b4.2.1 b4.2.2.2.2.1 b4.2.2.2.2.2).1
    obtain ⟨q2, g1, -, g2⟩ := G4.last (by omega)
    refine wd_bo (hR G4) (wd_bo g1 (wd_bo g2 ?_))
    refine bl_num hN b4 rfl (show b < 10000 by omega) (by omega) ?_ (fun i5 b5 => ?_)
    · simp only [List.length_append, List.length_nil, l0, l1]
      show 0 + 3 + (dgs a).length + 6 + 4 ≤ 40
      omega
    refine bl_lit (i := 2) b5 rfl (by decide) (by omega) ?_ (fun i6 b6 => ?_)
    · simp only [List.length_append, List.length_nil, l0, l1, l2]
      show 0 + 3 + (dgs a).length + 6 + (dgs b).length + 1 ≤ 40
      omega
    dsimp only at b6
    rw [pg_tx] at b6
    refine st_tail (F := fun _ h' => X (nI T.length + 1) h') B4 tl b6 tg.2.2.2 (by omega) (by have := tg.2.2.1; omega) (fun h5 B5 e5 => ?_)
    have up : nI T.length + (1 : Int32) = nI (T.length + 1) := nI_up _
    have lT : (T ++ [(0, a, b)]).length = T.length + 1 := by rw [List.length_append, List.length_singleton]
    rw [up]
    refine hX (u - (T ++ [(0, a, b)]).length) _ _ (by omega) ⟨T ++ [(0, a, b)], by omega, rfl, by rw [lT], ?_, ?_, fun x hx => ?_, by omega⟩
    · obtain ⟨j1, j2, j3, j4, j5, j6, j7, j8, j9, j10⟩ := B5
      exact ⟨j1, j2, j3, j4, by rw [pTx_snoc]; exact j5, j6, j7, j8, by omega, by omega⟩
    · rw [e5, f4, f3, I1.2.1]
    · rcases List.mem_append.mp hx with hx | hx
      · exact I1.2.2.1 x hx
      · rw [List.mem_singleton] at hx
        rw [hx]
        exact ⟨show a ≤ 9999 by omega, show b < d by omega⟩
end PROGT
