/-! a text out of a StringBuilder; a number behind a text -/
section NUMH
variable {h h' h1 h2 : DS} {N B V V' cap S n c k j need z : Nat} {s s1 s2 : List Nat} {Q : Int32 → DS → Prop} {a : Int32} {E E' : Nat → Prop} {m : Mem}
theorem e_rng (H : SbV h B V cap s) (A : Asc s) (kl : lk h) (hn : csz h.2.1 + 1 < 1000000) : ∃ h', g_J7_copyOfRange_39247 N V 0 (nI s.length) h = some (nI h.2.1.length, h') ∧ FrA h h' ∧ lk h' ∧ h'.2.1[h.2.1.length]? = some (102, s.length, []) ∧ (∀ j, j < s.length → h'.2.2 h.2.1.length j = nI (s.getD j 0)) ∧ csz h'.2.1 = csz h.2.1 + 1 ∧ ssz h'.2.1 = ssz h.2.1 + s.length := by
  obtain ⟨⟨gB, gV⟩, e1, e2, e3, e4, e5, e6, e7, e8⟩ := H
  have hlen : h.2.1.length < 1000000 := kl.2.2.2
  have n1 : h.2.1.length + 1 < 1000000 := hn
  have bNV := e_bN e4 hlen
  have hVl : V < h.2.1.length := by
    obtain ⟨rs, e⟩ := e4
    exact len_of e
  unfold g_J7_copyOfRange_39247
  rw [if_pos rfl, bNV, e_bo]
  by_cases y : s.length = cap
  · rw [if_pos (show nI s.length = Int32.ofNat cap by rw [y]; rfl)]
    obtain ⟨rs, e⟩ := e4
    have cb : cB h V = some (grown h (102, cap, []) (h.2.2 V)) := by
      unfold cB
      rw [e_aN e]
      show (if _ then _ else _) = _
      rw [if_pos (fun q hq => by
        obtain ⟨b, b1, b2⟩ := e8 q
        rw [b2]
        exact fits128 b1)]
      exact e_gr0 n1
    rw [cb, e_bo, decide_eq_true (by omega), chk_t]
    refine ⟨_, rfl, ⟨rfl, by rw [gw_len]; omega, fun c hc => ⟨gw_old hc, gw_mo (e := (102, cap, [])) hc⟩⟩, lk_gr kl n1 (fun j q hq => by simp at hq), ?_, fun j hj => ?_, gw_len, ?_⟩
    · rw [y]
      exact gw_new
    · exact (congrFun (gw_mn (e := (102, cap, []))) j).trans (e7 j hj)
    · rw [ssz_gr, y]
  · rw [if_neg (show ¬ nI s.length = Int32.ofNat cap from nI_ne y (by omega) (by omega))]
    obtain ⟨hb, eb⟩ : ∃ hb, hb = grown h (102, s.length, []) (fun _ => 0) := ⟨_, rfl⟩
    have fb : FrA h hb := ⟨by rw [eb]; rfl, by rw [eb, gw_len]; omega, fun c hc => by
      rw [eb]
      exact ⟨gw_old hc, gw_mo hc⟩⟩
    have kb : lk hb := by rw [eb]; exact lk_gr kl n1 (fun j q hq => by simp at hq)
    have nb : hb.2.1[h.2.1.length]? = some (102, s.length, []) := by rw [eb]; exact gw_new
    have lb : hb.2.1.length = h.2.1.length + 1 := by rw [eb, gw_len]
    have mb : hb.2.2 h.2.1.length = fun _ => 0 := by rw [eb]; exact gw_mn
    have sb : ssz hb.2.1 = ssz h.2.1 + s.length := by rw [eb]; exact ssz_gr
    have e4b : ∃ rs, hb.2.1[V]? = some (102, cap, rs) := by
      obtain ⟨rs, e⟩ := e4
      exact ⟨rs, (fb.2.2 V hVl).1.trans e⟩
    have bNb := e_bN e4b (by omega)
    have zl : (nI s.length).toNatClampNeg = s.length := nI_clamp (by omega)
    have s0 : nI s.length - (0 : Int32) = nI s.length := pk_sub (b := 0) (Nat.zero_le _)
    have c0 : Int32.ofNat cap - (0 : Int32) = nI cap := pk_sub (a := cap) (b := 0) (Nat.zero_le _)
    obtain ⟨hc, ec⟩ : ∃ hc : DS, hc = (hb.1, hb.2.1, fun a j => if a = h.2.1.length then va_cpy (bF hb V) (hb.2.2 h.2.1.length) 0 0 s.length j else hb.2.2 a j) := ⟨_, rfl⟩
    have bp : bP hb V 0 h.2.1.length 0 (nI s.length) = some hc := by
      unfold bP
      rw [bNb, e_aN nb]
      show (if _ then _ else _) = _
      rw [zl, if_pos, ec]
      · rfl
      · refine ⟨⟨?_, lk_len kl⟩, fun q hq => ?_⟩
        · unfold cpyOk
          rw [zl]
          have a0 : (0 : Int32).toNatClampNeg = 0 := rfl
          rw [a0, decide_eq_true (show (0 : Int32) ≤ 0 by decide), decide_eq_true (show (0 : Int32) ≤ nI s.length from (nI_leI (a := 0) (by decide) (by omega)).mpr (Nat.zero_le _)), decide_eq_true (show 0 + s.length ≤ cap by omega), decide_eq_true (show 0 + s.length ≤ s.length by omega)]
          rfl
        · rw [e_bF (by omega)]
          obtain ⟨b, hb1, hb2⟩ := e8 ((0 : Int32).toNatClampNeg + q)
          rw [(fb.2.2 V hVl).2, hb2]
          exact fits128 hb1
    have cr : g_J7_copyOfRangeByte_39247 N V 0 (nI s.length) h = some (nI h.2.1.length, hc) := by
      unfold g_J7_copyOfRangeByte_39247 g_J7_checkLength_df160
      rw [if_pos (show (0 : Int32) ≤ nI s.length from (nI_leI (a := 0) (by decide) (by omega)).mpr (Nat.zero_le _)), e_bd3, s0, e_nA (fun y => by
        have := (nI_ltI (a := s.length) (b := 0) (by omega) (by decide)).mp y
        omega) (by rw [zl]; omega) n1, zl, ← eb, e_bo, bNb, e_bo, c0, if_pos (nI_lt (show s.length < cap by omega) (by omega)), bnd_s, bp, e_bo, decide_eq_true (by omega), chk_t]
    rw [cr, e_bd3, decide_eq_true (show nI h.2.1.length ≠ -1 from fun y => by
      have := congrArg Int32.toInt y
      rw [nI_toInt (by omega), show (-1 : Int32).toInt = -1 from by decide] at this
      omega), chk_t, bnd_s, nI_clamp (by omega), decide_eq_true (by omega), chk_t]
    have hcm : ∀ c, c < h.2.1.length → hc.2.2 c = h.2.2 c := fun c hcl => by
      rw [ec]
      funext z
      show (if c = h.2.1.length then _ else hb.2.2 c z) = _
      rw [if_neg (by omega), (fb.2.2 c hcl).2]
    have hcs : hc.2.1 = hb.2.1 := by rw [ec]
    have c1 : hc.1 = h.1 := by rw [ec]; exact fb.1
    refine ⟨hc, rfl, ⟨c1, by rw [hcs, lb]; omega, fun c hcl => ⟨by rw [hcs]; exact (fb.2.2 c hcl).1, hcm c hcl⟩⟩, ⟨fun k hk => by rw [hcm k (by have := lk_len kl; omega), kl.1 k hk, c1], by rw [hcs]; exact kb.2.1, by rw [hcs]; exact kb.2.2.1, by rw [hcs]; exact kb.2.2.2⟩, by rw [hcs]; exact nb, fun j hj => ?_, by rw [hcs]; exact lb, by rw [hcs]; exact sb⟩
    rw [ec]
    show (if h.2.1.length = h.2.1.length then va_cpy (bF hb V) (hb.2.2 h.2.1.length) 0 0 s.length j else _) = _
    rw [if_pos rfl, e_bF (by omega), (fb.2.2 V hVl).2]
    unfold va_cpy
    rw [if_pos ⟨Nat.zero_le _, by omega⟩]
    refine Eq.trans (congrArg (h.2.2 V) (by omega)) (e7 j hj)
theorem sb_str (H : SbV h B V cap s) (A : Asc s) (kl : lk h) (hn : csz h.2.1 + 2 < 1000000) :
    Wd (g_J4_toString_0e30d N B h) (fun v h' => v = nI h.2.1.length ∧ (∃ W, h.2.1.length < W ∧ StM h' h.2.1.length W s) ∧ FrA h h' ∧ lk h' ∧ csz h'.2.1 = csz h.2.1 + 2 ∧ ssz h'.2.1 = ssz h.2.1 + 4 + s.length) := by
  have n1 : h.2.1.length + 2 < 1000000 := hn
  have g := lk_len kl
  obtain ⟨h0, e0⟩ : ∃ h0, h0 = grown h (14, 4, List.replicate 4 none) (fun _ => 0) := ⟨_, rfl⟩
  have l0 : h0.2.1.length = h.2.1.length + 1 := by rw [e0, gw_len]
  have k0 : lk h0 := by
    rw [e0]
    refine lk_gr kl (by omega) (fun j q hq => ?_)
    dsimp only at hq
    rw [List.getD_eq_getElem?_getD, List.getElem?_replicate] at hq
    split at hq <;> cases hq
  have f0 : FrA h h0 := ⟨by rw [e0]; rfl, by omega, fun c hc => by
    rw [e0]
    exact ⟨gw_old hc, gw_mo hc⟩⟩
  have s0 : ssz h0.2.1 = ssz h.2.1 + 4 := by rw [e0]; exact ssz_gr
  have a0 : h0.2.1[h.2.1.length]? = some (14, 4, List.replicate 4 none) := by rw [e0]; exact gw_new
  have H0 : SbV h0 B V cap s := H.fre (E := fun _ => False) (FrA.fre f0) (fun z => z) (fun z => z)
  have Bl := len_of H.2.1
  obtain ⟨h3, e3⟩ : ∃ h3 : DS, h3 = (h0.1, h0.2.1, mset h0.2.2 h.2.1.length 1 0) := ⟨_, rfl⟩
  have w3 : wI h0 h.2.1.length 14 1 0 = some h3 := by rw [e3]; exact e_wI a0 (by decide) (by decide) g
  have k3 : lk h3 := by rw [e3]; exact lk_mset k0 g
  have f3 : FrE (fun c => c = h.2.1.length) h0 h3 := by
    rw [e3]
    exact ⟨rfl, Nat.le_refl _, fun c _ hne => ⟨rfl, mset_ne hne⟩⟩
  have Vl : V < h.2.1.length := by
    obtain ⟨rs, e⟩ := H.2.2.2.2.1
    exact len_of e
  have H3 : SbV h3 B V cap s := H0.fre f3 (by omega) (by omega)
  have l3 : h3.2.1.length = h.2.1.length + 1 := by rw [e3]; exact l0
  obtain ⟨h4, c4, f4, k4, n4, v4, z4, s4⟩ := e_rng (N := N) H3 A k3 (show h3.2.1.length + 1 < _ by omega)
  rw [l3] at c4 n4 v4
  have a4 : h4.2.1[h.2.1.length]? = some (14, 4, List.replicate 4 none) := by
    rw [(f4.2.2 _ (by omega)).1, e3]
    exact a0
  have l4 : h4.2.1.length = h.2.1.length + 2 := by
    have : csz h4.2.1 = csz h3.2.1 + 1 := z4
    have e : csz h4.2.1 = h4.2.1.length := rfl
    have e' : csz h3.2.1 = h3.2.1.length := rfl
    omega
  unfold g_J4_toString_0e30d
  refine wd_bo (e_nO (by omega)) ?_
  rw [← e0]
  have i0 : isT h0 13 B = true := e_isT H0.2.1
  have dd : g_J0_init_db425 N h.2.1.length B h0 = some (0, (h4.1, h4.2.1.set h.2.1.length (14, 4, (List.replicate 4 none).set 0 (some (h.2.1.length + 1))), h4.2.2)) := by
    unfold g_J0_init_db425 g_J5_getValue_6d5f1 g_J4_length_8abf5 g_J5_length_8abf5 g_J5_isLatin1_aae02
    have nV : nI V ≠ -1 := fun y => by
      have := congrArg Int32.toInt y
      rw [nI_toInt (by omega), show (-1 : Int32).toInt = -1 from by decide] at this
      omega
    have nW : nI (h.2.1.length + 1) ≠ -1 := fun y => by
      have := congrArg Int32.toInt y
      rw [nI_toInt (by omega), show (-1 : Int32).toInt = -1 from by decide] at this
      omega
    have rV : nn (dR h0 B 13 0) = some V := e_nn (e_dR H0.2.1 (by decide) (by decide))
    have r3 : dI h0 B 13 3 = some (nI s.length) := by rw [e_dI H0.2.1 (by decide) (by decide), H0.2.2.2.1]
    have r1 : dI h0 B 13 1 = some 0 := by rw [e_dI H0.2.1 (by decide) (by decide), H0.2.2.1]
    have d1 : decide (V < 2 ^ 31) = true := decide_eq_true (by omega)
    have d2 : decide (nI V ≠ -1) = true := decide_eq_true nV
    have d3 : decide (nI (h.2.1.length + 1) ≠ -1) = true := decide_eq_true nW
    have c1 : (nI V).toNatClampNeg = V := nI_clamp (by omega)
    have c2 : (nI (h.2.1.length + 1)).toNatClampNeg = h.2.1.length + 1 := nI_clamp (by omega)
    have i10 : ¬ (1 : Int32) = 0 := by decide
    have wr := e_wR (j := 0) (o := some (h.2.1.length + 1)) a4 (by decide) (by decide) g (by decide) (fun q hq => by
      cases hq
      omega)
    rw [rV, e_bo, d1, chk_t, e_bd3, d2, chk_t, bnd_s, c1, r3, e_bo, e_bd3, i0, chk_t, chk_t, chk_t, e_bd3, i0, chk_t, if_neg i10, r1, e_bo, if_pos rfl, e_bd3, if_neg i10, w3, e_bo, c4, e_bd3, d3, chk_t, bnd_s, c2, wr, e_bo]
  unfold g_J0_init_81219
  rw [dd, e_bd3, e_bd3, decide_eq_true (show h.2.1.length < 2 ^ 31 by omega), chk_t]
  refine wd_ret ⟨rfl, ⟨h.2.1.length + 1, Nat.lt_succ_self _, ?_, ?_, ⟨[], ?_⟩, fun j hj => v4 j hj⟩, ⟨f4.1.trans (f3.1.trans f0.1), ?_, fun c hc => ⟨?_, ?_⟩⟩, ?_, ?_, ?_⟩
  · dsimp only
    rw [List.getElem?_set, if_pos rfl, if_pos (by omega)]
    rfl
  · dsimp only
    rw [(f4.2.2 _ (by omega)).2, e3]
    exact mset_at _ _ _ _
  · dsimp only
    rw [List.getElem?_set, if_neg (by omega)]
    exact n4
  · dsimp only
    rw [List.length_set]
    omega
  · dsimp only
    rw [List.getElem?_set, if_neg (by omega)]
    exact (f4.2.2 c (by omega)).1.trans ((f3.2.2 c (by omega) (by omega)).1.trans (f0.2.2 c hc).1)
  · exact (f4.2.2 c (by omega)).2.trans ((f3.2.2 c (by omega) (by omega)).2.trans (f0.2.2 c hc).2)
  · refine lk_set k4 g (fun k q hq => ?_)
    have : ∀ k q, ((List.replicate 4 none).set 0 (some (h.2.1.length + 1)) : List (Option Nat)).getD k none = some q → q = h.2.1.length + 1 := by
      intro k q hq
      match k, hq with
      | 0, hq => exact (Option.some.inj hq).symm
      | 1, hq => cases hq
      | 2, hq => cases hq
      | 3, hq => cases hq
      | k + 4, hq => cases hq
    rw [this k q hq]
    omega
  · show (h4.2.1.set _ _).length = h.2.1.length + 2
    rw [List.length_set]
    exact l4
  · dsimp only
    rw [ssz_set _ _ (14, 4, List.replicate 4 none) (14, 4, (List.replicate 4 none).set 0 (some (h.2.1.length + 1))) a4 rfl, s4, e3]
    dsimp only
    rw [s0]
/-- a number's digits -/
def dgs (z : Nat) : List Nat := if z < 10 then [48 + z] else if z < 100 then [48 + z / 10, 48 + z % 10] else if z < 1000 then [48 + z / 100, 48 + z / 10 % 10, 48 + z % 10] else [48 + z / 1000, 48 + z / 100 % 10, 48 + z / 10 % 10, 48 + z % 10]
theorem dgs_len : (dgs z).length = if z < 10 then 1 else if z < 100 then 2 else if z < 1000 then 3 else 4 := by
  unfold dgs
  split
  · rfl
  · split
    · rfl
    · split <;> rfl
theorem dgs_asc (hz : z < 10000) : Asc (dgs z) := by
  intro b hb
  unfold dgs at hb
  split at hb
  · simp at hb
    omega
  · split at hb
    · simp at hb
      omega
    · split at hb
      · simp at hb
        omega
      · simp at hb
        omega
theorem digOT : (List.range 100).all (fun r => decide (vp_nar .byte (digO.getD r 0) = nI (48 + r % 10)) && decide (vp_nar .byte (digT.getD r 0) = nI (48 + r / 10))) = true := by decide +kernel
theorem e_digO {r : Nat} (hr : r < 100) : vp_nar .byte (digO.getD r 0) = nI (48 + r % 10) := by
  have q := List.all_eq_true.mp digOT r (List.mem_range.mpr hr)
  rw [Bool.and_eq_true, decide_eq_true_eq] at q
  exact q.1
theorem e_digT {r : Nat} (hr : r < 100) : vp_nar .byte (digT.getD r 0) = nI (48 + r / 10) := by
  have q := List.all_eq_true.mp digOT r (List.mem_range.mpr hr)
  rw [Bool.and_eq_true, decide_eq_true_eq, decide_eq_true_eq] at q
  exact q.2
theorem ng_int (hz : z < 2 ^ 30) : ((0 : Int32) - nI z).toInt = -(z : Int) := by
  have h0 : (0 : Int32) - nI z = nI 0 - nI z := rfl
  rw [h0, pk_sub_toInt (by decide) hz]
  omega
theorem ng_le {y : Nat} (hz : z < 2 ^ 30) (hy : y < 2 ^ 30) : ((0 : Int32) - nI z ≤ 0 - nI y) ↔ y ≤ z := by
  rw [Int32.le_iff_toInt_le, ng_int hz, ng_int hy]
  omega
theorem ng_lt {y : Nat} (hz : z < 2 ^ 30) (hy : y < 2 ^ 30) : ((0 : Int32) - nI z < 0 - nI y) ↔ y < z := by
  rw [Int32.lt_iff_toInt_lt, ng_int hz, ng_int hy]
  omega
end NUMH
