/-! a text behind a text -/
section APPH
variable {h h' h1 h2 : DS} {N B V V' cap S n c k j need : Nat} {s s1 s2 : List Nat} {Q : Int32 → DS → Prop} {a : Int32} {E E' : Nat → Prop} {m : Mem}
theorem e_coder (H : StA h S s) : g_J0_coder_7d493 N S h = some (0, h) := by
  unfold g_J0_coder_7d493
  rw [if_neg (show ¬ (1 : Int32) = 0 by decide), H.2.1, e_bo, show isY 0 = true by decide, chk_t]
theorem e_slen (H : StA h S s) : g_J0_length_8abf5 N S h = some (nI s.length, h) := by
  obtain ⟨V, v1, v2, v3⟩ := H.2.2
  unfold g_J0_length_8abf5
  rw [v1, e_bo, v2, e_bo, H.1, chk_t, e_coder H, e_bd3, show Int32.ofNat s.length = nI s.length from rfl, shr0]
/-- bytes of a text copied behind those of a StringBuilder's array -/
theorem sb_put (HS : StA h S s1) (A1 : Asc s1) (hV : ∃ rs, h.2.1[V]? = some (102, cap, rs)) (g : 123 ≤ V) (hn : n + s1.length ≤ cap) (h9 : cap ≤ 2000) (kl : lk h) :
    ∃ h', g_J0_getBytes_840e7 N S V (nI n) 0 h = some (0, h') ∧ h'.1 = h.1 ∧ h'.2.1 = h.2.1 ∧ (∀ c, c ≠ V → h'.2.2 c = h.2.2 c) ∧ ∀ z, h'.2.2 V z = if n ≤ z ∧ z < n + s1.length then nI (s1.getD (z - n) 0) else h.2.2 V z := by
  obtain ⟨W, v1, v2, v3⟩ := HS.2.2
  have zn : (nI n).toNatClampNeg = n := nI_clamp (by omega)
  have zl : (nI s1.length).toNatClampNeg = s1.length := nI_clamp (by omega)
  have z0 : (0 : Int32).toNatClampNeg = 0 := rfl
  obtain ⟨rs, eV⟩ := hV
  refine ⟨(h.1, h.2.1, fun a j => if a = V then va_cpy (bF h W) (h.2.2 V) 0 n s1.length j else h.2.2 a j), ?_, rfl, rfl, fun c hc => ?_, fun z => ?_⟩
  · unfold g_J0_getBytes_840e7
    rw [HS.1, chk_t, e_coder HS, e_bd3, if_pos rfl, v1, e_bo, e_bo, v2, e_bo, shl0, show Int32.ofNat s1.length = nI s1.length from rfl]
    have : bP h W 0 V (nI n) (nI s1.length) = some (h.1, h.2.1, fun a j => if a = V then va_cpy (bF h W) (h.2.2 V) 0 n s1.length j else h.2.2 a j) := by
      unfold bP
      rw [v2, e_aN eV]
      show (if _ then _ else _) = _
      rw [zn, zl, if_pos]
      · rfl
      · refine ⟨⟨?_, g⟩, fun q hq => ?_⟩
        · unfold cpyOk
          rw [zn, zl, z0, decide_eq_true (show (0 : Int32) ≤ 0 by decide), decide_eq_true (show (0 : Int32) ≤ nI n from (nI_leI (a := 0) (by decide) (by omega)).mpr (Nat.zero_le _)), decide_eq_true (show (0 : Int32) ≤ nI s1.length from (nI_leI (a := 0) (by decide) (by omega)).mpr (Nat.zero_le _)), decide_eq_true (show 0 + s1.length ≤ s1.length by omega), decide_eq_true hn]
          rfl
        · rw [z0, Nat.zero_add, v3 q hq]
          exact fits128 A1.at
    rw [this, e_bo]
  · funext z
    show (if c = V then _ else _) = _
    rw [if_neg hc]
  · show (if V = V then _ else _) = _
    rw [if_pos rfl]
    unfold va_cpy
    by_cases y : n ≤ z ∧ z < n + s1.length
    · rw [if_pos y, if_pos y, Nat.zero_add]
      exact v3 _ (by omega)
    · rw [if_neg y, if_neg y]
theorem getD_app {z : Nat} : (s ++ s1).getD z 0 = if z < s.length then s.getD z 0 else s1.getD (z - s.length) 0 := by
  by_cases y : z < s.length
  · rw [if_pos y, List.getD_eq_getElem?_getD, List.getD_eq_getElem?_getD, List.getElem?_append_left y]
  · rw [if_neg y, List.getD_eq_getElem?_getD, List.getD_eq_getElem?_getD, List.getElem?_append_right (by omega)]
theorem sb_app (H : SbV h B V cap s) (kl : lk h) (HS : StS h B S s1) (A1 : Asc s1) (hn : csz h.2.1 + 1 < 1000000) (hlen : s.length + s1.length ≤ 900) :
    Wd (g_J5_append_cf1ce N B S h) (fun v h' => v = nI B ∧ ∃ V' cap', SbV h' B V' cap' (s ++ s1) ∧ (V' = V ∨ h.2.1.length ≤ V') ∧ FrE (fun c => c = B ∨ c = V) h h' ∧ lk h' ∧ csz h'.2.1 ≤ csz h.2.1 + 1 ∧ ssz h'.2.1 ≤ ssz h.2.1 + 2 * (s.length + s1.length)) := by
  have HA := HS h FrE.rf
  have hlen0 : h.2.1.length < 1000000 := kl.2.2.2
  have Bl := len_of H.2.1
  unfold g_J5_append_cf1ce
  refine wd_chk HA.1 (wd_bd3 (R := fun v h' => v = nI s1.length ∧ h' = h) ⟨_, _, e_slen HA, rfl, rfl⟩ ?_)
  intro vx hx hvx
  rw [hvx.1, hvx.2]
  refine wd_bo (e_dI H.2.1 (by decide) (by decide)) ?_
  rw [H.2.2.2.1, nI_add]
  refine wd_chk (e_isT H.2.1) (wd_bd3 (sb_ens H kl hn (Nat.le_add_right _ _) hlen) ?_)
  rintro _ h3 ⟨V', cap', H3, c3, vV, F3, k3, cc, ss⟩
  refine wd_bo (e_dI H3.2.1 (by decide) (by decide)) ?_
  rw [H3.2.2.2.1]
  have HA3 := HS h3 F3
  obtain ⟨h4, e4, a4, b4, o4, n4⟩ := sb_put (N := N) (n := s.length) HA3 A1 H3.2.2.2.2.1 H3.1.2 c3 H3.2.2.2.2.2.2.1 k3
  have pp : g_J5_putStringAt_47b60 N B (nI s.length) S h3 = some (0, h4) := by
    unfold g_J5_putStringAt_47b60
    have i1 : isT h3 13 B = true := e_isT H3.2.1
    have inf : g_J5_inflateIfNeededFor_a7421 N B S h3 = some (0, h3) := by
      unfold g_J5_inflateIfNeededFor_a7421
      rw [if_neg (show ¬ (1 : Int32) = 0 by decide), e_dI H3.2.1 (by decide) (by decide), e_bo, HA3.1, chk_t, e_coder HA3, e_bd3, H3.2.2.1, if_pos rfl]
    rw [i1, chk_t, inf, e_bd3, e_nn (e_dR H3.2.1 (by decide) (by decide)), e_bo, e_dI H3.2.1 (by decide) (by decide), e_bo, HA3.1, chk_t, H3.2.2.1]
    show bd3 (g_J0_getBytes_840e7 N S V' (nI s.length) 0 h3) _ = _
    rw [e4, e_bd3]
  refine wd_chk (e_isT H3.2.1) (wd_bd3 (R := fun v h' => v = 0 ∧ h' = h4) ⟨_, _, pp, rfl, rfl⟩ ?_)
  intro vx hx hvx
  rw [hvx.2]
  have eB4 : h4.2.1[B]? = some (13, 4, [some V', none, none, none]) := by rw [b4]; exact H3.2.1
  have hBV : B ≠ V' := by
    obtain ⟨rs, e⟩ := H3.2.2.2.2.1
    exact ne_of_tag H3.2.1 e (by decide)
  have mB : h4.2.2 B = h3.2.2 B := o4 B hBV
  refine wd_bo (e_dI eB4 (by decide) (by decide)) ?_
  rw [mB, H3.2.2.2.1, nI_add]
  refine wd_bo (e_wI eB4 (by decide) (by decide) H3.1.1) (wd_chk (decide_eq_true (by omega)) (wd_ret ⟨rfl, V', cap', ⟨H3.1, eB4, ?_, ?_, ?_, ?_, H3.2.2.2.2.2.2.1, fun j hj => ?_, fun j => ?_⟩, vV, ⟨a4.trans F3.1, ?_, fun c hc hne => ⟨?_, ?_⟩⟩, ?_, ?_, ?_⟩))
  · exact (mset_j (by decide)).trans ((congrFun mB 1).trans H3.2.2.1)
  · rw [List.length_append]
    exact mset_at _ _ _ _
  · obtain ⟨rs, e⟩ := H3.2.2.2.2.1
    exact ⟨rs, by dsimp only; rw [b4]; exact e⟩
  · rw [List.length_append]
    exact c3
  · rw [List.length_append] at hj
    have e : mset h4.2.2 B 3 (nI (s.length + s1.length)) V' j = h4.2.2 V' j := congrFun (mset_ne (fun z => hBV z.symm)) j
    refine e.trans ?_
    rw [n4, getD_app]
    by_cases y : j < s.length
    · rw [if_neg (by omega), if_pos y]
      exact H3.2.2.2.2.2.2.2.1 j y
    · rw [if_pos ⟨by omega, by omega⟩, if_neg y]
  · have e : mset h4.2.2 B 3 (nI (s.length + s1.length)) V' j = h4.2.2 V' j := congrFun (mset_ne (fun z => hBV z.symm)) j
    rw [show (h4.1, h4.2.1, mset h4.2.2 B 3 (nI (s.length + s1.length))).2.2 V' j = _ from e, n4]
    split
    · exact ⟨_, A1.at, rfl⟩
    · exact H3.2.2.2.2.2.2.2.2 j
  · dsimp only
    rw [b4]
    exact F3.2.1
  · dsimp only
    rw [b4]
    exact (F3.2.2 c hc (fun z => hne (Or.inl z))).1
  · have h1 : c ≠ B := fun z => hne (Or.inl z)
    have h2 : c ≠ V' := fun z => by
      rcases vV with q | q
      · exact hne (Or.inr (z.trans q))
      · omega
    exact (mset_ne h1).trans ((o4 c h2).trans (F3.2.2 c hc (fun z => hne (Or.inl z))).2)
  · refine lk_mset (h := (h4.1, h4.2.1, h4.2.2)) ⟨fun k hk => ?_, by rw [b4]; exact k3.2.1, by rw [b4]; exact k3.2.2.1, by rw [b4]; exact k3.2.2.2⟩ H3.1.1
    rw [a4, o4 k (by have := H3.1.2; omega)]
    exact k3.1 k hk
  · dsimp only
    rw [b4]
    exact cc
  · dsimp only
    rw [b4]
    exact ss
/-- a new StringBuilder -/
theorem sb_new (kl : lk h) (hn : csz h.2.1 + 2 < 1000000) : ∃ h0 h', nO h 13 4 = some h0 ∧ g_J4_init_da8c8 N h.2.1.length h0 = some (0, h') ∧ SbV h' h.2.1.length (h.2.1.length + 1) 16 [] ∧ FrA h h' ∧ lk h' ∧ csz h'.2.1 = csz h.2.1 + 2 ∧ ssz h'.2.1 = ssz h.2.1 + 20 := by
  have n1 : h.2.1.length + 2 < 1000000 := hn
  have g := lk_len kl
  obtain ⟨h0, e0⟩ : ∃ h0, h0 = grown h (13, 4, List.replicate 4 none) (fun _ => 0) := ⟨_, rfl⟩
  have l0 : h0.2.1.length = h.2.1.length + 1 := by rw [e0, gw_len]
  have k0 : lk h0 := by
    rw [e0]
    refine lk_gr kl (by omega) (fun j q hq => ?_)
    dsimp only at hq
    rw [List.getD_eq_getElem?_getD, List.getElem?_replicate] at hq
    split at hq <;> cases hq
  have f0 : FrA h h0 := ⟨by rw [e0]; rfl, by omega, fun c hc => by
    rw [e0]
    exact ⟨gw_old hc, gw_mo hc⟩⟩
  have s0 : ssz h0.2.1 = ssz h.2.1 + 4 := by rw [e0]; exact ssz_gr
  have a0 : h0.2.1[h.2.1.length]? = some (13, 4, List.replicate 4 none) := by rw [e0]; exact gw_new
  have m0 : h0.2.2 h.2.1.length = fun _ => 0 := by rw [e0]; exact gw_mn
  obtain ⟨h1, e1⟩ : ∃ h1, h1 = grown h0 (102, 16, []) (fun _ => 0) := ⟨_, rfl⟩
  have l1 : h1.2.1.length = h.2.1.length + 2 := by rw [e1, gw_len]; omega
  have k1 : lk h1 := by rw [e1]; exact lk_gr k0 (by omega) (fun j q hq => by simp at hq)
  have f1 : FrA h0 h1 := ⟨by rw [e1]; rfl, by omega, fun c hc => by
    rw [e1]
    exact ⟨gw_old hc, gw_mo hc⟩⟩
  have s1 : ssz h1.2.1 = ssz h.2.1 + 20 := by
    exact (by rw [e1, ssz_gr, s0] : ssz h1.2.1 = ssz h.2.1 + 4 + 16)
  have a1 : h1.2.1[h.2.1.length]? = some (13, 4, List.replicate 4 none) := (f1.2.2 _ (by omega)).1.trans a0
  have b1 : h1.2.1[h.2.1.length + 1]? = some (102, 16, []) := by rw [e1, ← l0]; exact gw_new
  have m1 : h1.2.2 (h.2.1.length + 1) = fun _ => 0 := by rw [e1, ← l0]; exact gw_mn
  have mB : h1.2.2 h.2.1.length = fun _ => 0 := ((f1.2.2 _ (by omega)).2).trans m0
  have e2 : wR h1 h.2.1.length 13 0 (some (h.2.1.length + 1)) = some (h1.1, h1.2.1.set h.2.1.length (13, 4, [some (h.2.1.length + 1), none, none, none]), h1.2.2) := e_wR a1 (by decide) (by decide) g (by decide) (fun q hq => by
    cases hq
    omega)
  have a2 : (h1.2.1.set h.2.1.length (13, 4, [some (h.2.1.length + 1), none, none, none]))[h.2.1.length]? = some (13, 4, [some (h.2.1.length + 1), none, none, none]) := by rw [List.getElem?_set, if_pos rfl, if_pos (by omega)]
  have e3 : wI (h1.1, h1.2.1.set h.2.1.length (13, 4, [some (h.2.1.length + 1), none, none, none]), h1.2.2) h.2.1.length 13 1 0 = some (h1.1, h1.2.1.set h.2.1.length (13, 4, [some (h.2.1.length + 1), none, none, none]), mset h1.2.2 h.2.1.length 1 0) := e_wI (h := (h1.1, h1.2.1.set h.2.1.length (13, 4, [some (h.2.1.length + 1), none, none, none]), h1.2.2)) a2 (by decide) (by decide) g
  refine ⟨h0, (h1.1, h1.2.1.set h.2.1.length (13, 4, [some (h.2.1.length + 1), none, none, none]), mset h1.2.2 h.2.1.length 1 0), by rw [e_nO (by omega), e0], ?_, ⟨⟨g, by omega⟩, a2, ?_, ?_, ⟨[], ?_⟩, Nat.zero_le _, by decide, fun j hj => absurd hj (by simp), fun j => ?_⟩, ⟨f1.1.trans f0.1, ?_, fun c hc => ⟨?_, ?_⟩⟩, ?_, ?_, ?_⟩
  · unfold g_J4_init_da8c8 g_J5_init_d00df
    rw [if_neg (show ¬ (1 : Int32) = 0 by decide), e_nA (a := 16) (by decide) (by decide) (by omega), e_bo, show (16 : Int32).toNatClampNeg = 16 from rfl, ← e1, l0, e2, e_bo, e3, e_bo, e_bd3]
  · exact mset_at _ _ _ _
  · exact (mset_j (by decide)).trans (by rw [mB]; rfl)
  · dsimp only
    rw [List.getElem?_set, if_neg (by omega)]
    exact b1
  · refine ⟨0, by decide, ?_⟩
    dsimp only
    rw [mset_ne (by omega), m1]
    rfl
  · dsimp only
    rw [List.length_set]
    omega
  · dsimp only
    rw [List.getElem?_set, if_neg (by omega)]
    exact (f1.2.2 c (by omega)).1.trans (f0.2.2 c hc).1
  · dsimp only
    rw [mset_ne (by omega)]
    exact (f1.2.2 c (by omega)).2.trans (f0.2.2 c hc).2
  · refine lk_mset (h := (h1.1, _, h1.2.2)) (lk_set k1 g (fun k q hq => ?_)) g
    match k, hq with
    | 0, hq => have := Option.some.inj hq; omega
    | 1, hq => cases hq
    | 2, hq => cases hq
    | 3, hq => cases hq
    | k + 4, hq => cases hq
  · show (h1.2.1.set _ _).length = h.2.1.length + 2
    rw [List.length_set]
    exact l1
  · dsimp only
    rw [ssz_set _ _ (13, 4, List.replicate 4 none) (13, 4, [some (h.2.1.length + 1), none, none, none]) a1 rfl, s1]
end APPH
