/-! a text said, whole -/
section SAIDH
variable {h h' h1 h2 h0 hb : DS} {N S V A n c k j i L at_ : Nat} {s : List Nat} {Q : Int32 → DS → Prop} {K : DS → DA} {m m1 m2 m0 : Mem} {f : Nat → Nat} {x a b d e : Int32}
theorem m_feed {a b c d e : Int32} (hN : 20000 ≤ N) (h16 : m 123 16 = nI L) (hL : L + 20 ≤ 400) : Wp (f_X12_feed N a b c d e m) (fun _ m' => Apd 123 16 131 L 20 (byt5 a b c d e) m m') := by
  unfold f_X12_feed
  have e20 : nI L + (20 : Int32) = nI (L + 20) := nI_add L 20
  rw [h16, e20, if_pos (show nI (L + 20) ≤ (400 : Int32) from nI_le hL (by decide))]
  exact wp_mono (w_feedM hN h16 hL) (fun v m' q => q.2)
theorem m_end (h16 : m 123 16 = nI L) (hk : k ≤ L) (hL : L ≤ 400) : f_X12_end N (nI k) m = some (1, mset m 123 16 (nI k)) := by
  unfold f_X12_end
  rw [e_isIn, bd_s, h16, decide_eq_true (show (0 : Int32) ≤ nI k ∧ nI k ≤ nI L from ⟨nI_le (Nat.zero_le _) (by omega), nI_le hk (by omega)⟩), if_neg (by decide)]
  rfl
theorem acN_23 (hf : ∀ i, f i < 128) (hn : n ≤ 3) : acN f n < 2 ^ 23 := by
  match n, hn with
  | 0, _ => exact Nat.lt_of_lt_of_le (acN_lt hf 0).1 (by decide)
  | 1, _ => exact Nat.lt_of_lt_of_le (acN_lt hf 1).1 (by decide)
  | 2, _ => exact Nat.lt_of_lt_of_le (acN_lt hf 2).1 (by decide)
  | 3, _ => exact Nat.lt_of_lt_of_le ((acN_lt hf 3).2 (by decide)) (by decide)
  | n + 4, hn => exact absurd hn (by omega)
theorem y_L17 (hN : 20000 ≤ N) (H : StM hb S V s) (A : Asc s) (kl : lk hb) (hs : s.length ≤ 400) (hr : hb.2.1[n]? = some (100, 5, [])) (g : 123 ≤ n) (z0 : ∀ j, hb.2.2 n j = 0) (nS : S ≠ n) (nV : V ≠ n) (hc : c ≤ 400)
    (hK : ∀ h', lk h' → h'.1 = hb.1 → h'.2.1 = hb.2.1 → (∀ y, y ≠ n → h'.2.2 y = hb.2.2 y) → (∀ q, q < 5 → h'.2.2 n q = nI (acN (fun t => tpB s (c + (4 * q + t))) 4)) → Wd (K h') Q) :
    Wd (jt (fun Y a hz => g_L_say_L17 N S (nI c) n K Y a hz) N (0 : Int32) hb) Q := by
  refine wd_jt (fun q a h' => ∃ k, k ≤ 20 ∧ q = 20 - k ∧ a = nI k ∧ lk h' ∧ h'.1 = hb.1 ∧ h'.2.1 = hb.2.1 ∧ (∀ y, y ≠ n → h'.2.2 y = hb.2.2 y) ∧ ∀ q, q < 5 → h'.2.2 n q = nI (acN (fun t => tpB s (c + (4 * q + t))) (min 4 (k - 4 * q)))) ?_ N 20 _ _ (by omega) ⟨0, by omega, rfl, rfl, kl, rfl, rfl, fun _ _ => rfl, fun q _ => by
    rw [z0 q, Nat.zero_sub, show min 4 0 = 0 from rfl]
    rfl⟩
  rintro q X a h1 ⟨k, hk, rfl, rfl, k1, e1, e2, e3, e4⟩ hX
  unfold g_L_say_L17
  refine wd_ite (fun q => ?_) (fun q => ?_)
  · have q := (nI_leI (a := 20) (b := k) (by decide) (by omega)).mp q
    have : k = 20 := by omega
    subst this
    refine hK h1 k1 e1 e2 e3 (fun q hq => ?_)
    rw [e4 q hq, show min 4 (20 - 4 * q) = 4 by omega]
  · have q : ¬ 20 ≤ k := fun z => q ((nI_leI (a := 20) (b := k) (by decide) (by omega)).mpr z)
    have F : FrE (fun y => y = n) hb h1 := ⟨e1, by rw [e2]; exact Nat.le_refl _, fun y _ hy => ⟨by rw [e2], e3 y hy⟩⟩
    have S1 := (H.fre F nS nV).stA k1.2.2.2
    have d4 : nI k / (4 : Int32) = nI (k / 4) := pk_div (d := 4) (by omega) (by decide) (by decide)
    have hq4 : k / 4 < 5 := by omega
    have up : nI k + (1 : Int32) = nI (k + 1) := nI_up k
    have hr1 : h1.2.1[n]? = some (100, 5, []) := by rw [e2]; exact hr
    have hf : ∀ i, tpB s (c + (4 * (k / 4) + i)) < 128 := fun i => tpB_lt A _
    have T : ∀ b, b = tpB s (c + k) → ∀ x, x = nI (acN (fun t => tpB s (c + (4 * (k / 4) + t))) (min 4 (k - 4 * (k / 4))) * 256 + b) → Wd (bo (sA h1 100 n (nI k / (4 : Int32)) x) fun h_63 => X (nI k + 1) h_63) Q := by
      rintro b hb' x hx
      subst hb' hx
      rw [d4]
      refine wd_bo (e_sA hr1 (inb_nI hq4 (by decide)) g) ?_
      rw [nI_clamp (by omega), up]
      refine hX (20 - (k + 1)) _ _ (by omega) ⟨k + 1, by omega, rfl, rfl, lk_mset k1 g, e1, e2, fun y hy => (mset_ne hy).trans (e3 y hy), fun q hq => ?_⟩
      by_cases e : q = k / 4
      · subst e
        refine (mset_at _ _ _ _).trans ?_
        rw [show min 4 (k + 1 - 4 * (k / 4)) = min 4 (k - 4 * (k / 4)) + 1 by omega]
        show _ = nI (acN _ _ * 256 + tpB s (c + (4 * (k / 4) + min 4 (k - 4 * (k / 4)))))
        rw [show 4 * (k / 4) + min 4 (k - 4 * (k / 4)) = k by omega]
      · refine (mset_j e).trans ((e4 q hq).trans ?_)
        rw [show min 4 (k + 1 - 4 * q) = min 4 (k - 4 * q) by omega]
    rw [d4] at T ⊢
    refine wd_bo (e_lA hr1 (inb_nI hq4 (by decide))) ?_
    rw [nI_clamp (by omega), e4 _ hq4]
    refine wd_chk S1.1 ?_
    rw [e_slen S1, e_bd3, nI_add c k]
    have lt := acN_23 hf (n := min 4 (k - 4 * (k / 4))) (by omega)
    refine wd_ite (fun q1 => ?_) (fun q1 => ?_)
    · have q1 := (nI_leI (by omega) (by omega)).mp q1
      exact T 32 (by unfold tpB; rw [if_neg (by omega)]) _ (e_or8 lt (by decide))
    · have q1 : ¬ s.length ≤ c + k := fun z => q1 ((nI_leI (by omega) (by omega)).mpr z)
      refine wd_chk S1.1 ?_
      rw [e_charAt S1 A k1 (by omega) (by omega), e_bd3]
      exact T (s.getD (c + k) 0) (by unfold tpB; rw [if_pos (by omega)]) _ (e_or8 lt (Nat.lt_of_lt_of_le A.at (by decide)))
theorem TG.gh (T : TG s L m0 m) (G : Gh m m1) : TG s L m0 m1 := by
  obtain ⟨a, b, c, d⟩ := T
  have e := G 123 (by decide)
  exact ⟨fun y hy h1 h2 => by rw [G y hy]; exact a y hy h1 h2, fun j hj => by rw [e]; exact b j hj, by rw [e]; exact c, fun i hi => by rw [G 131 (by decide)]; exact d i hi⟩
theorem h_say (hN : 20000 ≤ N) (H : StM h S V s) (A : Asc s) (kl : lk h) (hI : Inv h.1) (h16 : h.1 123 16 = nI 0) (hs : s.length ≤ 400) (hn : csz h.2.1 + 30 < 1000000) :
    Wd (g_L_say N S h) (fun _ h' => lk h' ∧ Inv h'.1 ∧ FrL h h' ∧ TG s s.length h.1 h'.1 ∧ csz h'.2.1 ≤ csz h.2.1 + 20 ∧ ssz h'.2.1 ≤ ssz h.2.1 + 100) := by
  unfold g_L_say
  refine wd_jt (fun q a h' => ∃ i, i ≤ 20 ∧ 20 * i < s.length + 20 ∧ q = 20 - i ∧ a = nI (20 * i) ∧ lk h' ∧ Inv h'.1 ∧ FrL h h' ∧ TG s (20 * i) h.1 h'.1 ∧ csz h'.2.1 = csz h.2.1 + i ∧ ssz h'.2.1 = ssz h.2.1 + 5 * i) ?_ N 20 _ _ (by omega) ⟨0, by omega, by omega, rfl, rfl, kl, hI, FrL.rf, ⟨fun _ _ _ _ => rfl, fun _ _ => rfl, h16, fun i hi => absurd hi (by omega)⟩, rfl, rfl⟩
  rintro q X a h1 ⟨i, hi, hs1, rfl, rfl, k1, I1, F1, T1, c1, z1⟩ hX
  have H1 := H.frl kl F1
  have S1 := H1.stA k1.2.2.2
  have hlt : ∀ {a : Nat}, a ≤ 1000 → a < 2 ^ 31 := fun q => by omega
  unfold g_L_say_L2
  refine wd_chk S1.1 ?_
  rw [e_slen S1, e_bd3]
  refine wd_ite (fun q => ?_) (fun q => ?_)
  · have q := (nI_leI (hlt (by omega)) (hlt (by omega))).mp q
    refine wd_chk S1.1 ?_
    rw [e_slen S1, e_bd3]
    refine wd_ite (fun q0 => ?_) (fun q0 => ?_)
    · have q0 := (nI_leI (b := 0) (hlt (by omega)) (by decide)).mp q0
      have i0 : i = 0 := by omega
      have s0 : s.length = 0 := by omega
      subst i0
      exact wd_ret ⟨k1, I1, F1, by rw [s0]; exact T1, by omega, by omega⟩
    · refine wd_chk S1.1 ?_
      rw [e_slen S1, e_bd3]
      refine wd_chk (is11 k1) ?_
      refine wd_call pr_end (pg_f_X11_end (Gh.rf _)) (fun m => ps_f_X12_end (Ag.rf m)) I1 (fun v m1 m2 g1 e1 I2 => ?_)
      have T2 := T1.gh g1
      rw [m_end T2.2.2.1 q (by omega)] at e1
      obtain rfl : m2 = mset m1 123 16 (nI s.length) := (congrArg Prod.snd (Option.some.inj e1)).symm
      obtain ⟨a1, a2, a3, a4⟩ := T2
      refine wd_ret ⟨lk_pm k1, I2, F1.tr frl_pat, ⟨fun y hy h1 h2 => ?_, fun j hj => ?_, ?_, fun i hi => ?_⟩, ?_, ?_⟩
      · exact (mset_ne h1).trans (a1 y hy h1 h2)
      · exact (mset_j hj).trans (a2 j hj)
      · exact mset_at m1 123 16 _
      · exact (congrFun (mset_ne (μ := m1) (k := 123) (j := 16) (v := nI s.length) (show (131 : Nat) ≠ 123 by decide)) i).trans (a4 i (by omega))
      · show csz h1.2.1 ≤ _
        omega
      · show ssz h1.2.1 ≤ _
        omega
  · have q : ¬ s.length ≤ 20 * i := fun z => q ((nI_leI (hlt (by omega)) (hlt (by omega))).mpr z)
    have n1 : csz h1.2.1 = h1.2.1.length := rfl
    refine wd_bo (e_nA (a := 5) (by decide) (by decide) (by omega)) ?_
    obtain ⟨hb, eb⟩ : ∃ hb, hb = grown h1 (100, (5 : Int32).toNatClampNeg, []) (fun _ => 0) := ⟨_, rfl⟩
    rw [← eb]
    have kb : lk hb := by rw [eb]; exact lk_gr k1 (by omega) (fun j q hq => by simp at hq)
    have hbn : hb.2.1[h1.2.1.length]? = some (100, 5, []) := by rw [eb]; exact gw_new
    have fb : FrA h1 hb := ⟨by rw [eb]; rfl, by rw [eb, gw_len]; omega, fun c hc => by
      rw [eb]
      exact ⟨gw_old hc, gw_mo hc⟩⟩
    have zb : ∀ j, hb.2.2 h1.2.1.length j = 0 := fun j => by rw [eb, gw_mn]
    have l1 := len_of H1.1
    have l2 : V < h1.2.1.length := by
      obtain ⟨rs, e⟩ := H1.2.2.1
      exact len_of e
    have cb : csz hb.2.1 = csz h1.2.1 + 1 := by rw [eb]; exact gw_len
    have sb : ssz hb.2.1 = ssz h1.2.1 + 5 := by rw [eb]; exact ssz_gr
    refine y_L17 hN (H1.frl k1 fb.frl) A kb hs hbn (lk_len k1) zb (by omega) (by omega) (by omega) (fun h2 k2 e1 e2 e3 e4 => ?_)
    have hr2 : h2.2.1[h1.2.1.length]? = some (100, 5, []) := by rw [e2]; exact hbn
    have rd : ∀ {j : Nat} {x : Int32} {f : Int32 → DA} {R : Int32 → DS → Prop}, x = nI j → j < 5 → Wd (f (nI (acN (fun t => tpB s (20 * i + (4 * j + t))) 4))) R → Wd (bo (lA h2 100 h1.2.1.length x) f) R := by
      rintro j x f R rfl hj q
      refine wd_bo (e_lA hr2 (inb_nI hj (by decide))) ?_
      rw [nI_clamp (by omega), e4 j hj]
      exact q
    refine rd (j := 0) rfl (by decide) (rd (j := 1) rfl (by decide) (rd (j := 2) rfl (by decide) (rd (j := 3) rfl (by decide) (rd (j := 4) rfl (by decide) ?_))))
    refine wd_chk (is11 k2) ?_
    have I2 : Inv h2.1 := by rw [e1, fb.1]; exact I1
    refine wd_call (pr_feed hN) (pg_f_X11_feed (Gh.rf _)) (fun m => ps_f_X12_feed (Ag.rf m)) I2 (fun v m1 m2 g1 e5 I3 => ?_)
    have T2 : TG s (20 * i) h.1 m1 := T1.gh (by rw [← fb.1, ← e1]; exact g1)
    obtain ⟨v', m', e6, A1, A2, A3, A4, A5⟩ := m_feed (a := nI (acN (fun t => tpB s (20 * i + (4 * 0 + t))) 4)) (b := nI (acN (fun t => tpB s (20 * i + (4 * 1 + t))) 4)) (c := nI (acN (fun t => tpB s (20 * i + (4 * 2 + t))) 4)) (d := nI (acN (fun t => tpB s (20 * i + (4 * 3 + t))) 4)) (e := nI (acN (fun t => tpB s (20 * i + (4 * 4 + t))) 4)) hN T2.2.2.1 (by omega)
    obtain rfl : m' = m2 := congrArg Prod.snd (Option.some.inj (e6.symm.trans e5))
    obtain ⟨a1, a2, a3, a4⟩ := T2
    have up : nI (20 * i) + (20 : Int32) = nI (20 * (i + 1)) := nI_add (20 * i) 20
    rw [up]
    have F2 : FrL h1 h2 := ⟨by rw [e2]; exact fb.2.1, fun y hy => ⟨by rw [e2]; exact (fb.2.2 y hy).1, fun _ => (e3 y (by omega)).trans (fb.2.2 y hy).2⟩⟩
    have c2 : csz h2.2.1 = csz hb.2.1 := by rw [e2]
    have z2 : ssz h2.2.1 = ssz hb.2.1 := by rw [e2]
    refine hX (20 - (i + 1)) _ _ (by omega) ⟨i + 1, by omega, by omega, rfl, rfl, lk_pm k2, I3, (F1.tr F2).tr frl_pat, ⟨fun y hy h1 h2 => ?_, fun j hj => ?_, A1, fun j hj => ?_⟩, ?_, ?_⟩
    · exact (A5 y h1 h2).trans (a1 y hy h1 h2)
    · exact (A4 j hj).trans (a2 j hj)
    · by_cases e : j < 20 * i
      · exact (A3 j e).trans (a4 j e)
      · obtain ⟨q, rfl⟩ : ∃ q, j = 20 * i + q := ⟨j - 20 * i, by omega⟩
        refine (A2 q (by omega)).trans ?_
        exact byt5_ac (f := fun t => tpB s (20 * i + t)) (fun _ => tpB_lt A _) (by omega)
    · show csz h2.2.1 = _
      omega
    · show ssz h2.2.1 = _
      omega
end SAIDH
