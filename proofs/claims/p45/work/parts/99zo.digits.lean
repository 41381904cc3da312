/-! a number behind a text -/
section DIGH
variable {h h' h1 h2 : DS} {N M B V V' cap S n c k j need z e : Nat} {s s1 s2 : List Nat} {Q : Int32 → DS → Prop} {a : Int32} {E E' : Nat → Prop} {m : Mem}
theorem ss_loop (hz : z < 10000) : jt (fun Y a hz => g_J6_stringSize_0f7a4_L16 N (nI z) (0 - nI z) 0 Y a.1 a.2 hz) (M + 4) ((-10 : Int32), (1 : Int32)) h = some (nI (dgs z).length, h) := by
  generalize eb : (fun (Y : Int32 × Int32 → DS → DA) (a : Int32 × Int32) (hz : DS) => g_J6_stringSize_0f7a4_L16 N (nI z) (0 - nI z) 0 Y a.1 a.2 hz) = b
  have step : ∀ (n i c : Nat) (s2 : Int32), s2 = 0 - nI c → c < 2 ^ 30 → i < 10 → jt b (n + 1) (s2, nI i) h = if c ≤ z then jt b n (10 * s2, nI (i + 1)) h else some (nI i, h) := by
    intro n i c s2 hs hc hi
    subst hs
    have : jt b (n + 1) ((0 : Int32) - nI c, nI i) h = g_J6_stringSize_0f7a4_L16 N (nI z) (0 - nI z) 0 (jt b n) (0 - nI c) (nI i) h := by
      rw [← eb]
      rfl
    rw [this]
    unfold g_J6_stringSize_0f7a4_L16
    rw [if_neg (show ¬ (10 : Int32) ≤ nI i from fun y => by
      have := (nI_leI (a := 10) (b := i) (by decide) (by omega)).mp y
      omega)]
    have e0 : nI i + (0 : Int32) = nI i := nI_add i 0
    have e1 : nI i + (1 : Int32) = nI (i + 1) := nI_up i
    by_cases y : c ≤ z
    · rw [if_pos ((ng_le (by omega) hc).mpr y), if_pos y, e1]
    · rw [if_neg (fun q => y ((ng_le (by omega) hc).mp q)), if_neg y, e0]
  rw [show (1 : Int32) = nI 1 from rfl, step (M + 3) 1 10 (-10) (by decide) (by decide) (by decide), step (M + 2) 2 100 _ (by decide) (by decide) (by decide), step (M + 1) 3 1000 _ (by decide) (by decide) (by decide), step M 4 10000 _ (by decide) (by decide) (by decide), dgs_len]
  by_cases y1 : z < 10
  · rw [if_neg (by omega), if_pos y1]
  · rw [if_pos (by omega), if_neg y1]
    by_cases y2 : z < 100
    · rw [if_neg (by omega), if_pos y2]
    · rw [if_pos (by omega), if_neg y2]
      by_cases y3 : z < 1000
      · rw [if_neg (by omega), if_pos y3]
      · rw [if_pos (by omega), if_neg y3, if_neg (by omega)]
theorem e_ss (hN : 20000 ≤ N) (hz : z < 10000) : g_J6_stringSize_0f7a4 N (nI z) h = some (nI (dgs z).length, h) := by
  unfold g_J6_stringSize_0f7a4
  rw [if_neg (show ¬ nI z < 0 from fun y => by
    have := (nI_ltI (a := z) (b := 0) (by omega) (by decide)).mp y
    omega)]
  unfold g_J6_stringSize_0f7a4_J11
  have := ss_loop (N := N) (M := N - 4) (h := h) hz
  rw [show N - 4 + 4 = N by omega] at this
  exact this
theorem divT : (List.range 10000).all (fun z => decide ((0 - nI z) / (100 : Int32) = 0 - nI (z / 100)) && decide (((0 - nI z) / (100 : Int32)) * 100 - (0 - nI z) = nI (z % 100))) = true := by decide +kernel
theorem e_div (hz : z < 10000) : (0 - nI z) / (100 : Int32) = 0 - nI (z / 100) ∧ ((0 - nI z) / (100 : Int32)) * 100 - (0 - nI z) = nI (z % 100) := by
  have q := List.all_eq_true.mp divT z (List.mem_range.mpr hz)
  rw [Bool.and_eq_true, decide_eq_true_eq, decide_eq_true_eq] at q
  exact q
theorem ng_ng (x : Int32) : 0 - (0 - x) = x := by
  rw [Int32.zero_sub, Int32.zero_sub, Int32.neg_neg]
/-- two digits more ahead -/
theorem e_sAb {x : Int32} (hV : ∃ rs, h.2.1[V]? = some (102, cap, rs)) (g : 123 ≤ V) (he : e < cap) (hc : cap ≤ 2000) : sA h 102 V (nI (e + 1) + (-1)) x = some (h.1, h.2.1, mset h.2.2 V e x) := by
  obtain ⟨rs, r1⟩ := hV
  rw [nI_m1, e_sA r1 (inb_nI he (by omega)) g, nI_clamp (by omega)]
def chK (N : Nat) (a0 a1 : Int32) (a2 : Nat) (t0_12 : Int32) : Int32 → Int32 → DS → DA := fun k0_72 k5_72 hk72 => chk (inb (0 - k0_72) 100) <|
bo (sA hk72 102 a2 (k5_72 + (-1)) (vp_nar .byte (digO.getD ((0 - k0_72)).toNatClampNeg 0))) fun h_84 =>
if (-9 : Int32) ≤ k0_72 then (g_J6_getChars_ba4f3_J104 N a0 a1 a2 (k5_72 + (-1)) t0_12 h_84)
else (chk (inb (0 - k0_72) 100) <|
bo (sA h_84 102 a2 ((k5_72 + (-1)) + (-1)) (vp_nar .byte (digT.getD ((0 - k0_72)).toNatClampNeg 0))) fun h_103 =>
g_J6_getChars_ba4f3_J104 N a0 a1 a2 ((k5_72 + (-1)) + (-1)) t0_12 h_103)
theorem e_chK {a0 a1 : Int32} (hk : k < 100) (hV : ∃ rs, h.2.1[V]? = some (102, cap, rs)) (g : 123 ≤ V) (he : e + (if k < 10 then 1 else 2) ≤ cap) (hc : cap ≤ 2000) :
    ∃ v, chK N a0 a1 V 0 (0 - nI k) (nI (e + (if k < 10 then 1 else 2))) h = some (v, (h.1, h.2.1, if k < 10 then mset h.2.2 V e (nI (48 + k)) else mset (mset h.2.2 V (e + 1) (nI (48 + k % 10))) V e (nI (48 + k / 10)))) := by
  unfold chK g_J6_getChars_ba4f3_J104
  rw [ng_ng, inb_nI hk (by decide), chk_t, nI_clamp (by omega), e_digO hk, e_digT hk]
  by_cases y : k < 10
  · rw [if_pos y, if_pos y]
    rw [if_pos y] at he
    rw [e_sAb hV g (by omega) hc, e_bo, if_pos (show (-9 : Int32) ≤ 0 - nI k by
      rw [show (-9 : Int32) = 0 - nI 9 by decide]
      exact (ng_le (by decide) (by omega)).mpr (by omega)), if_pos rfl, show k % 10 = k by omega]
    exact ⟨_, rfl⟩
  · rw [if_neg y, if_neg y]
    rw [if_neg y] at he
    rw [show e + 2 = e + 1 + 1 from rfl, e_sAb hV g (by omega) hc, e_bo, if_neg (show ¬ (-9 : Int32) ≤ 0 - nI k by
      rw [show (-9 : Int32) = 0 - nI 9 by decide]
      exact fun q => y (by have := (ng_le (z := 9) (y := k) (by decide) (by omega)).mp q; omega)), chk_t, nI_m1 (e + 1), e_sAb (h := (h.1, h.2.1, mset h.2.2 V (e + 1) (nI (48 + k % 10)))) hV g (by omega) hc, e_bo, if_pos rfl]
    exact ⟨_, rfl⟩
theorem e_chars (hN : 20000 ≤ N) (hz : z < 10000) (hV : ∃ rs, h.2.1[V]? = some (102, cap, rs)) (g : 123 ≤ V) (he : n + (dgs z).length ≤ cap) (hc : cap ≤ 2000) :
    ∃ v μ, g_J6_getChars_ba4f3 N (nI z) (nI (n + (dgs z).length)) V h = some (v, (h.1, h.2.1, μ)) ∧ (∀ c, c ≠ V → μ c = h.2.2 c) ∧ ∀ j, μ V j = if n ≤ j ∧ j < n + (dgs z).length then nI ((dgs z).getD (j - n) 0) else h.2.2 V j := by
  have lit : ∀ (x : Nat) (l : List Nat), (x :: l).getD 0 0 = x := fun _ _ => rfl
  unfold g_J6_getChars_ba4f3
  rw [if_pos (show (0 : Int32) ≤ nI z from (nI_leI (a := 0) (by decide) (by omega)).mpr (Nat.zero_le _))]
  unfold g_J6_getChars_ba4f3_J12
  rw [if_pos rfl]
  have stp : ∀ (x : Int32) (y : Int32) (h : DS), jt (fun Y a hz => g_J6_getChars_ba4f3_L22 N (nI z) (nI (n + (dgs z).length)) V 0 (chK N (nI z) (nI (n + (dgs z).length)) V 0) Y a.1 a.2 hz) N (x, y) h = g_J6_getChars_ba4f3_L22 N (nI z) (nI (n + (dgs z).length)) V 0 (chK N (nI z) (nI (n + (dgs z).length)) V 0) (jt (fun Y a hz => g_J6_getChars_ba4f3_L22 N (nI z) (nI (n + (dgs z).length)) V 0 (chK N (nI z) (nI (n + (dgs z).length)) V 0) Y a.1 a.2 hz) (N - 1)) x y h := by
    intro x y h
    obtain ⟨K, rfl⟩ : ∃ K, N = K + 1 := ⟨N - 1, by omega⟩
    rfl
  have stp1 : ∀ (x : Int32) (y : Int32) (h : DS), jt (fun Y a hz => g_J6_getChars_ba4f3_L22 N (nI z) (nI (n + (dgs z).length)) V 0 (chK N (nI z) (nI (n + (dgs z).length)) V 0) Y a.1 a.2 hz) (N - 1) (x, y) h = g_J6_getChars_ba4f3_L22 N (nI z) (nI (n + (dgs z).length)) V 0 (chK N (nI z) (nI (n + (dgs z).length)) V 0) (jt (fun Y a hz => g_J6_getChars_ba4f3_L22 N (nI z) (nI (n + (dgs z).length)) V 0 (chK N (nI z) (nI (n + (dgs z).length)) V 0) Y a.1 a.2 hz) (N - 2)) x y h := by
    intro x y h
    obtain ⟨K, rfl⟩ : ∃ K, N = K + 2 := ⟨N - 2, by omega⟩
    rfl
  show ∃ v μ, jt (fun Y a hz => g_J6_getChars_ba4f3_L22 N (nI z) (nI (n + (dgs z).length)) V 0 (chK N (nI z) (nI (n + (dgs z).length)) V 0) Y a.1 a.2 hz) N (0 - nI z, nI (n + (dgs z).length)) h = _ ∧ _
  rw [stp]
  clear stp
  generalize (jt (fun Y a hz => g_J6_getChars_ba4f3_L22 N (nI z) (nI (n + (dgs z).length)) V 0 (chK N (nI z) (nI (n + (dgs z).length)) V 0) Y a.1 a.2 hz) (N - 2)) = J2 at stp1
  generalize (jt (fun Y a hz => g_J6_getChars_ba4f3_L22 N (nI z) (nI (n + (dgs z).length)) V 0 (chK N (nI z) (nI (n + (dgs z).length)) V 0) Y a.1 a.2 hz) (N - 1)) = J1 at stp1 ⊢
  have lst : ∀ (x : Nat), x < 100 → ((-100 : Int32) < 0 - nI x) := fun x hx => by
    rw [show (-100 : Int32) = 0 - nI 100 by decide]
    exact (ng_lt (by decide) (by omega)).mpr hx
  by_cases y1 : z < 100
  · unfold g_J6_getChars_ba4f3_L22
    rw [if_pos (lst z y1)]
    have dl : (dgs z).length = if z < 10 then 1 else 2 := by
      rw [dgs_len]
      by_cases q : z < 10
      · rw [if_pos q, if_pos q]
      · rw [if_neg q, if_neg q, if_pos y1]
    obtain ⟨v, ev⟩ := e_chK (N := N) (a0 := nI z) (a1 := nI (n + (dgs z).length)) (e := n) y1 hV g (by rw [← dl]; exact he) hc
    rw [← dl] at ev
    rw [ev]
    refine ⟨v, _, rfl, fun c hcV => ?_, fun j => ?_⟩
    · split
      · exact mset_ne hcV
      · rw [mset_ne hcV, mset_ne hcV]
    · rw [dl]
      by_cases y2 : z < 10
      · rw [if_pos y2, if_pos y2]
        have dz : dgs z = [48 + z] := if_pos y2
        rw [dz]
        by_cases y3 : j = n
        · rw [y3, mset_at, if_pos ⟨by omega, by omega⟩, Nat.sub_self]
          rfl
        · rw [mset_j y3, if_neg (by omega)]
      · rw [if_neg y2, if_neg y2]
        have dz : dgs z = [48 + z / 10, 48 + z % 10] := (if_neg y2).trans (if_pos y1)
        rw [dz]
        by_cases y3 : j = n
        · rw [y3, mset_at, if_pos ⟨by omega, by omega⟩, Nat.sub_self]
          rfl
        · rw [mset_j y3]
          by_cases y4 : j = n + 1
          · rw [y4, mset_at, if_pos ⟨by omega, by omega⟩, Nat.add_sub_cancel_left]
            rfl
          · rw [mset_j y4, if_neg (by omega)]
  · obtain ⟨d1, d2⟩ := e_div hz
    have q1 : z / 100 < 100 := by omega
    have q2 : z % 100 < 100 := Nat.mod_lt _ (by decide)
    have dl : (dgs z).length = (if z / 100 < 10 then 1 else 2) + 1 + 1 := by
      rw [dgs_len, if_neg (by omega), if_neg y1]
      by_cases y5 : z < 1000
      · rw [if_pos y5, if_pos (by omega)]
      · rw [if_neg y5, if_neg (by omega)]
    have ln : n + (dgs z).length = n + (if z / 100 < 10 then 1 else 2) + 1 + 1 := by rw [dl]; rfl
    unfold g_J6_getChars_ba4f3_L22
    rw [if_neg (show ¬ (-100 : Int32) < 0 - nI z by
      rw [show (-100 : Int32) = 0 - nI 100 by decide]
      exact fun q => y1 ((ng_lt (by decide) (by omega)).mp q)), d2, d1, inb_nI q2 (by decide), chk_t, nI_clamp (by omega), e_digO q2, e_digT q2]
    obtain ⟨T, eT⟩ : ∃ T, T = n + (if z / 100 < 10 then 1 else 2) := ⟨_, rfl⟩
    have hT : T + 2 ≤ cap := by
      rw [ln] at he
      omega
    have m1 : nI (n + (dgs z).length) + (-1 : Int32) = nI (T + 1) := by
      rw [ln, ← eT]
      exact nI_m1 (T + 1)
    obtain ⟨rs, r1⟩ := hV
    rw [m1, nI_m1 T, e_sA r1 (inb_nI (by omega) (by omega)) g, nI_clamp (by omega), e_bo, chk_t, e_sA (h := (h.1, h.2.1, mset h.2.2 V (T + 1) (nI (48 + z % 100 % 10)))) r1 (inb_nI (by omega) (by omega)) g, nI_clamp (by omega), e_bo, stp1]
    unfold g_J6_getChars_ba4f3_L22
    rw [if_pos (lst _ q1)]
    obtain ⟨v, ev⟩ := e_chK (N := N) (a0 := nI z) (a1 := nI (n + (dgs z).length)) (e := n) (k := z / 100) (h := (h.1, h.2.1, mset (mset h.2.2 V (T + 1) (nI (48 + z % 100 % 10))) V T (nI (48 + z % 100 / 10)))) q1 ⟨rs, r1⟩ g (by rw [← eT]; omega) hc
    rw [← eT] at ev
    dsimp only at ev
    rw [ev]
    refine ⟨v, _, rfl, fun c hcV => ?_, fun j => ?_⟩
    · split
      · rw [mset_ne hcV, mset_ne hcV, mset_ne hcV]
      · rw [mset_ne hcV, mset_ne hcV, mset_ne hcV, mset_ne hcV]
    · rw [dl]
      by_cases y5 : z < 1000
      · have y6 : z / 100 < 10 := by omega
        have dz : dgs z = [48 + z / 100, 48 + z / 10 % 10, 48 + z % 10] := (if_neg (by omega)).trans ((if_neg y1).trans (if_pos y5))
        rw [if_pos y6] at eT ⊢
        rw [dz, eT, if_pos y6]
        by_cases y3 : j = n
        · rw [y3, mset_at, if_pos ⟨by omega, by omega⟩, Nat.sub_self]
          rfl
        · rw [mset_j y3]
          by_cases y4 : j = n + 1
          · rw [y4, mset_at, if_pos ⟨by omega, by omega⟩, Nat.add_sub_cancel_left, show z % 100 / 10 = z / 10 % 10 by omega]
            rfl
          · rw [mset_j y4]
            by_cases y7 : j = n + 1 + 1
            · rw [y7, mset_at, if_pos ⟨by omega, by omega⟩, show n + 1 + 1 - n = 2 by omega, show z % 100 % 10 = z % 10 by omega]
              rfl
            · rw [mset_j y7, if_neg (by omega)]
      · have y6 : ¬ z / 100 < 10 := by omega
        have dz : dgs z = [48 + z / 1000, 48 + z / 100 % 10, 48 + z / 10 % 10, 48 + z % 10] := (if_neg (by omega)).trans ((if_neg y1).trans (if_neg y5))
        rw [if_neg y6] at eT ⊢
        rw [dz, eT, if_neg y6]
        by_cases y3 : j = n
        · rw [y3, mset_at, if_pos ⟨by omega, by omega⟩, Nat.sub_self, show z / 100 / 10 = z / 1000 by omega]
          rfl
        · rw [mset_j y3]
          by_cases y4 : j = n + 1
          · rw [y4, mset_at, if_pos ⟨by omega, by omega⟩, Nat.add_sub_cancel_left]
            rfl
          · rw [mset_j y4]
            by_cases y7 : j = n + 2
            · rw [y7, mset_at, if_pos ⟨by omega, by omega⟩, Nat.add_sub_cancel_left, show z % 100 / 10 = z / 10 % 10 by omega]
              rfl
            · rw [mset_j y7]
              by_cases y8 : j = n + 2 + 1
              · rw [y8, mset_at, if_pos ⟨by omega, by omega⟩, show n + 2 + 1 - n = 3 by omega, show z % 100 % 10 = z % 10 by omega]
                rfl
              · rw [mset_j y8, if_neg (by omega)]
theorem sb_num (hN : 20000 ≤ N) (H : SbV h B V cap s) (kl : lk h) (hz : z < 10000) (hn : csz h.2.1 + 1 < 1000000) (hlen : s.length + 4 ≤ 900) :
    Wd (g_J5_append_c97b9 N B (nI z) h) (fun v h' => v = nI B ∧ ∃ V' cap', SbV h' B V' cap' (s ++ dgs z) ∧ (V' = V ∨ h.2.1.length ≤ V') ∧ FrE (fun c => c = B ∨ c = V) h h' ∧ lk h' ∧ csz h'.2.1 ≤ csz h.2.1 + 1 ∧ ssz h'.2.1 ≤ ssz h.2.1 + 2 * (s.length + (dgs z).length)) := by
  have hlen0 : h.2.1.length < 1000000 := kl.2.2.2
  have Bl := len_of H.2.1
  have d4 : (dgs z).length ≤ 4 := by
    rw [dgs_len]
    split
    · decide
    · split
      · decide
      · split <;> decide
  have A1 := dgs_asc hz
  unfold g_J5_append_c97b9
  refine wd_bo (e_dI H.2.1 (by decide) (by decide)) ?_
  rw [H.2.2.2.1, e_ss hN hz, e_bd3, nI_add]
  refine wd_chk (e_isT H.2.1) (wd_bd3 (sb_ens H kl hn (Nat.le_add_right _ _) (by omega)) ?_)
  rintro _ h3 ⟨V', cap', H3, c3, vV, F3, k3, cc, ss⟩
  have lat : g_J5_isLatin1_aae02 N B h3 = some (1, h3) := by
    unfold g_J5_isLatin1_aae02
    rw [if_neg (show ¬ (1 : Int32) = 0 by decide), e_dI H3.2.1 (by decide) (by decide), e_bo, H3.2.2.1, if_pos rfl]
  rw [lat, e_bd3, if_neg (show ¬ (1 : Int32) = 0 by decide)]
  refine wd_chk (e_isT H3.2.1) ?_
  refine wd_bo (e_nn (e_dR H3.2.1 (by decide) (by decide))) ?_
  obtain ⟨v, μ, e4, o4, n4⟩ := e_chars (n := s.length) hN hz H3.2.2.2.2.1 H3.1.2 c3 H3.2.2.2.2.2.2.1
  show Wd (bd3 (g_J6_getChars_ba4f3 N (nI z) (nI (s.length + (dgs z).length)) V' h3) _) _
  rw [e4, e_bd3]
  have hBV : B ≠ V' := by
    obtain ⟨rs, e⟩ := H3.2.2.2.2.1
    exact ne_of_tag H3.2.1 e (by decide)
  have mB : μ B = h3.2.2 B := o4 B hBV
  refine wd_bo (e_wI (h := (h3.1, h3.2.1, μ)) H3.2.1 (by decide) (by decide) H3.1.1) (wd_chk (decide_eq_true (by omega)) (wd_ret ⟨rfl, V', cap', ⟨H3.1, H3.2.1, ?_, ?_, H3.2.2.2.2.1, ?_, H3.2.2.2.2.2.2.1, fun j hj => ?_, fun j => ?_⟩, vV, ⟨F3.1, F3.2.1, fun c hc hne => ⟨(F3.2.2 c hc (fun z => hne (Or.inl z))).1, ?_⟩⟩, ?_, cc, ss⟩))
  · exact (mset_j (by decide)).trans ((congrFun mB 1).trans H3.2.2.1)
  · rw [List.length_append]
    exact mset_at _ _ _ _
  · rw [List.length_append]
    exact c3
  · rw [List.length_append] at hj
    have e : mset μ B 3 (nI (s.length + (dgs z).length)) V' j = μ V' j := congrFun (mset_ne (fun z => hBV z.symm)) j
    refine e.trans ?_
    rw [n4, getD_app]
    by_cases y : j < s.length
    · rw [if_neg (by omega), if_pos y]
      exact H3.2.2.2.2.2.2.2.1 j y
    · rw [if_pos ⟨by omega, by omega⟩, if_neg y]
  · have e : mset μ B 3 (nI (s.length + (dgs z).length)) V' j = μ V' j := congrFun (mset_ne (fun z => hBV z.symm)) j
    rw [show (h3.1, h3.2.1, mset μ B 3 (nI (s.length + (dgs z).length))).2.2 V' j = _ from e, n4]
    split
    · exact ⟨_, A1.at, rfl⟩
    · exact H3.2.2.2.2.2.2.2.2 j
  · have h1 : c ≠ B := fun z => hne (Or.inl z)
    have h2 : c ≠ V' := fun z => by
      rcases vV with q | q
      · exact hne (Or.inr (z.trans q))
      · omega
    exact (mset_ne h1).trans ((o4 c h2).trans (F3.2.2 c hc (fun z => hne (Or.inl z))).2)
  · refine lk_mset (h := (h3.1, h3.2.1, μ)) ⟨fun k hk => ?_, k3.2.1, k3.2.2.1, k3.2.2.2⟩ H3.1.1
    rw [show (h3.1, h3.2.1, μ).2.2 k = μ k from rfl, o4 k (by have := H3.1.2; omega)]
    exact k3.1 k hk
end DIGH
