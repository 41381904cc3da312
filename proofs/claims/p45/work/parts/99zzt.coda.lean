/-! coughs, texts and state told: the end of a House's telling -/
section CODA
variable {h h' h0 : DS} {N t i d z Lc C S i4 i5 : Nat} {xs : Nat → Int32} {w : Arr} {dl : Option (Nat → Int32)} {LN : List Lin} {Q : Int32 → DS → Prop} {x4 a2 a : Int32} {m : Mem}
theorem and_1 (x : Int32) : ∃ b, b < 2 ∧ x &&& (1 : Int32) = nI b := by
  refine ⟨(x.toBitVec &&& 1#32).toNat, ?_, ?_⟩
  · rw [BitVec.toNat_and]
    exact Nat.lt_of_le_of_lt Nat.and_le_right (by decide)
  · apply Int32.toBitVec_inj.1
    show x.toBitVec &&& 1#32 = BitVec.ofNat 32 (x.toBitVec &&& 1#32).toNat
    rw [BitVec.ofNat_toNat, BitVec.setWidth_eq]
theorem m_state : f_X12_state N a m = some (m 124 5, mset (mset m 124 5 a) 123 4 (nI 0)) := by
  unfold f_X12_state
  simp only [e_forgets, bnd_s, bd_s]
theorem w_coda (hN : 20000 ≤ N) (e4' : a2 + (4 : Int32) = nI i4) (e5' : a2 + (5 : Int32) = nI i5) (h4i : i4 < 2 ^ 31) (h5i : i5 < 2 ^ 31) (hL : Lc < 2 ^ 31) (I : HdP LN dl t w z d C S h0 h) (ev : w 1 = nI 0) (hn : csz h0.2.1 + C + 4000 < 1000000)
    (hQ : ∀ lb p w' h', TI LN dl lb t p w' h' → h'.1 123 4 = nI 0 → w' 1 = nI 0 → csz h'.2.1 ≤ csz h0.2.1 + (C + 1500) → ssz h'.2.1 ≤ ssz h0.2.1 + (S + 60000) → Q (nI t) h') :
    Wd (bd3 (g_L_between N (x4 >>> ((4 : Int32) &&& 31)) (0 : Int32) (400 : Int32) h) fun v_578 h_578 => bo (wI h_578 t 12 6 (((x4 >>> ((8 : Int32) &&& 31)) &&& (1 : Int32)) * v_578)) fun h_582 => bo (dI h_582 t 12 6) fun a_589 => chk (isT h_582 11 0) <| bdX (f_X11_set N (0 : Int32) (0 : Int32) a_589 h_582.1) h_582 fun v_592 hh_592 => bnd (gs (f_X12_set N (0 : Int32) (0 : Int32) a_589) hh_592) fun h_592 => if v_592 = 0 then (some (-1, h_592)) else (bd3 (g_L_cell N Lc xs (a2 + (4 : Int32)) h_592) fun v_604 h_604 => bd3 (g_L_texts N t v_604 h_604) fun v_607 h_607 => if v_607 = 0 then (some (-1, h_607)) else (bd3 (g_L_cell N Lc xs (a2 + (5 : Int32)) h_607) fun v_620 h_620 => bo (wI h_620 t 12 0 v_620) fun h_623 => bo (dI h_623 t 12 0) fun a_628 => chk (isT h_623 11 0) <| bdX (f_X11_state N a_628 h_623.1) h_623 fun v_631 hh_631 => bnd (gs (f_X12_state N a_628) hh_631) fun h_631 => chk (decide (t < 2 ^ 31)) (some (nI t, h_631))))) Q := by
  obtain ⟨lb, p, w1, ⟨HS1, bp, I0, ew, L, h16⟩, e4, ezh, ezd, ew1, c1, s1⟩ := I
  have W0 : WFc w1 := by rw [← ew]; exact I0.wf
  have t123 := HS1.1.1.1
  refine wd_btw (lo := 0) (hi := 400) rfl rfl (by decide) (by decide) (fun v _ hv => ?_)
  obtain ⟨y, hy, ey⟩ : ∃ y, y ≤ 400 ∧ ((x4 >>> ((8 : Int32) &&& 31)) &&& (1 : Int32)) * nI v = nI y := by
    obtain ⟨b, hb, eb⟩ := and_1 (x4 >>> ((8 : Int32) &&& 31))
    refine ⟨b * v, ?_, by rw [eb]; exact pk_mul b v⟩
    have : b * v ≤ 1 * v := Nat.mul_le_mul_right v (by omega)
    omega
  rw [ey]
  obtain ⟨h2, n2, H2, K2, S2⟩ := h_wC (x := nI y) HS1 W0
  refine wd_bo n2 ?_
  refine wd_bo (hs_I H2.1 (by decide) (by decide)) ?_
  rw [H2.1.int.2.2.2.2.2.2.1, ud_s]
  refine wd_chk (is11 H2.2.2.1) ?_
  refine wd_call (pr_set hN) (pg_f_X11_set (Gh.rf _)) (fun m => ps_f_X12_set (Ag.rf m)) (by rw [K2.1]; exact I0) (fun v2 m1 m2 G e5 I2 => ?_)
  have em1 : m1 124 = w1 := by rw [G 124 (by decide), K2.1]; exact ew
  obtain ⟨v', m3, e6, rfl, A1, A2, A3⟩ := m_setY (N := N) (f := fun _ => w1) (j := 0) (i := 0) (v := y) em1 W0 (by decide) (by decide) (by omega) (show canS w1 0 0 y = true from decide_eq_true (by omega))
  have e7 := Option.some.inj (e6.symm.trans e5)
  obtain rfl : v2 = 1 := (congrArg Prod.fst e7).symm
  obtain rfl : m3 = m2 := congrArg Prod.snd e7
  rw [if_neg (show ¬ (1 : Int32) = 0 by decide)]
  have A1 : m3 124 = upd w1 39 (nI y) := A1
  have H3 := H2.pat (m := m3) bp
  have I3 : TI LN dl lb t p (upd w1 39 (nI y)) (pat h2 m3) := ⟨H3, bp, I2, A1, ⟨L.1.up (by decide) (by decide), L.2⟩, by
    show m3 123 16 = nI 0
    rw [A3, G 123 (by decide), K2.1]
    exact h16⟩
  have c2 : csz (pat h2 m3).2.1 = csz h.2.1 := by show csz h2.2.1 = _; rw [S2]
  have s2 : ssz (pat h2 m3).2.1 = ssz h.2.1 := by show ssz h2.2.1 = _; rw [S2]
  refine wd_cell e4' h4i hL (fun y4 => ?_)
  refine wd_bd3 (tx_ok hN lb t p _ y4 (pat h2 m3) I3 ⟨0, by rw [ud_n (by decide), ew1, ev], by decide⟩ (by omega)) ?_
  rintro v4 h5 ⟨rfl, lb', p', w', ⟨H5, bp5, I5, ew5, L5, t16⟩, u4, ew6, -, -, c5, s5⟩
  rw [if_neg (show ¬ (1 : Int32) = 0 by decide)]
  have W5 : WFc w' := by rw [← ew5]; exact I5.wf
  refine wd_cell e5' h5i hL (fun y5 => ?_)
  obtain ⟨h6, n6, H6, K6, S6⟩ := x_wI (j := 0) (k := 5) (x := y5) H5 (by decide) (by decide) W5.lzs (by decide) (hi_0 H5.1.int W5.lzs)
  refine wd_bo n6 ?_
  refine wd_bo (hs_I H6.1 (by decide) (by decide)) ?_
  rw [H6.1.int.1, ud_s]
  refine wd_chk (is11 H6.2.2.1) ?_
  refine wd_call pr_state (pg_f_X11_state (Gh.rf _)) (fun m => ps_f_X12_state (Ag.rf m)) (by rw [K6.1]; exact I5) (fun v6 m4 m6 G6 e8 I6 => ?_)
  rw [m_state] at e8
  obtain rfl : mset (mset m4 124 5 y5) 123 4 (nI 0) = m6 := congrArg Prod.snd (Option.some.inj e8)
  have em4 : m4 124 = w' := by rw [G6 124 (by decide), K6.1]; exact ew5
  have tlt : t < 1000000 := Nat.lt_trans (len_of H6.1.ob) H6.2.2.1.2.2.2
  refine wd_chk (decide_eq_true (by omega)) (wd_ret (hQ lb' p' (upd w' 5 y5) _ ⟨H6.pat bp5, bp5, I6, ?_, ⟨L5.1.up (by decide) (by decide), L5.2⟩, ?_⟩ (mset_at (mset m4 124 5 y5) 123 4 (nI 0)) ?_ ?_ ?_))
  · show mset (mset m4 124 5 y5) 123 4 (nI 0) 124 = _
    rw [mset_ne (by decide), mset_eq, em4]
  · show mset (mset m4 124 5 y5) 123 4 (nI 0) 123 16 = _
    rw [mset_j (by decide), mset_k (by decide), G6 123 (by decide), K6.1]
    exact t16
  · rw [ud_n (by decide), ew6, ud_n (by decide), ew1, ev]
  · show csz h6.2.1 ≤ _
    have : csz h6.2.1 = csz h5.2.1 := by rw [S6]
    omega
  · show ssz h6.2.1 ≤ _
    have : ssz h6.2.1 = ssz h5.2.1 := by rw [S6]
    omega
end CODA
