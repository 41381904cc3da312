/-! all the statutes told; a text said and heard -/
section LOOPS
variable {h h' h1 h2 h0 hb : DS} {N t B Bt At P n c k j i z q a b u e m C S C' S' V cap : Nat} {p : Plc} {w w' : Arr} {T H : List St3} {s s' : List Nat} {Q : Int32 → DS → Prop} {x : St3} {v y s6 s7 s8 s9 a2 p3 t0 t1 t2 : Int32} {p5 : Nat} {K : Int32 → DS → DA} {X : (Int32 × Int32) → DS → DA}
theorem w_93 (hN : 20000 ≤ N) (hz : z ≤ 12) (e7 : h0.2.2 t 7 = nI z) (e2 : h0.2.2 t 2 = nI e) (he : e ≤ 200) (eT : ∃ rs, h0.2.1[t]? = some (12, 25, rs)) (t123 : 123 ≤ t) (hn : csz h0.2.1 + 200 < 1000000) (I : StI h0 t Bt At u z T h) (hT : T.length < 8)
    (ht1 : t1 = nI 0) (ht0 : ∃ l, t0 = nI l ∧ (l = 2 ∨ (l = 3 ∧ 1 ≤ z))) (es6 : s6 = nI (hdT T).length) (hX : ∀ x h', StI h0 t Bt At u z (T ++ [x]) h' → Wd (X (nI (hdT (T ++ [x])).length, s7 + 1) h') Q) :
    Wd (g_L_texts_J93_55 N t a2 p3 Bt At K X s6 s7 s8 t0 t1 t2 h) Q := by
  subst es6
  have eT' := id eT
  obtain ⟨rs, eT⟩ := eT
  have tl := len_of eT
  have le := I.1.1.2.1
  have et : h.2.1[t]? = some (12, 25, rs) := I.1.2.2.2.2.2.2.1.trans eT
  have f2 : h.2.2 t 2 = nI e := (I.1.2.2.2.2.2.2.2.1 2 (Or.inl (by decide))).trans e2
  have cI := I.1.2.2.2.2.2.2.2.2.1
  have kI := I.1.2.1
  obtain ⟨l, ht0, hl⟩ := ht0
  have hX0 : ∀ x h', StI h0 t Bt At u z (T ++ [x]) h' → x.1 ≠ 0 → Wd (X (nI (hdT T).length, s7 + 1) h') Q := fun x h' I' hx => by
    have := hX x h' I'
    rw [hdT_sn, if_neg hx] at this
    exact this
  unfold g_L_texts_J93_55
  refine wd_btw ht1 ht0 (Nat.zero_le _) (by omega) (fun v _ hv => ?_)
  by_cases v0 : v = 0
  · subst v0
    rw [if_pos (show nI 0 = 0 from rfl)]
    have n1 : csz h.2.1 = h.2.1.length := rfl
    refine wd_bo (e_nA (a := 2) (by decide) (by decide) (by omega)) ?_
    obtain ⟨hb, eb⟩ : ∃ hb, hb = grown h (100, (2 : Int32).toNatClampNeg, []) (fun _ => 0) := ⟨_, rfl⟩
    rw [← eb]
    have kb : lk hb := by rw [eb]; exact lk_gr kI (by omega) (fun j q hq => by simp at hq)
    have hbn : hb.2.1[h.2.1.length]? = some (100, 2, []) := by rw [eb]; exact gw_new
    have fb : FrA h hb := ⟨by rw [eb]; rfl, by rw [eb, gw_len]; omega, fun c hc => by
      rw [eb]
      exact ⟨gw_old hc, gw_mo hc⟩⟩
    have cb : csz hb.2.1 = csz h.2.1 + 1 := by rw [eb]; exact gw_len
    have sb : ssz hb.2.1 = ssz h.2.1 + 2 := by rw [eb]; exact ssz_gr
    clear eb
    refine wd_btw (lo := 1) (hi := 30) rfl rfl (by decide) (by decide) (fun a a1 a30 => ?_)
    have g123 := lk_len kI
    refine wd_bo (e_sA hbn (by decide) g123) ?_
    obtain ⟨h2, eh2⟩ : ∃ h2 : DS, h2 = (hb.1, hb.2.1, mset hb.2.2 h.2.1.length (0 : Int32).toNatClampNeg (nI a)) := ⟨_, rfl⟩
    rw [← eh2]
    have F2 : FrA h h2 := by
      rw [eh2]
      exact ⟨fb.1, fb.2.1, fun c hc => ⟨(fb.2.2 c hc).1, (mset_ne (by omega)).trans (fb.2.2 c hc).2⟩⟩
    have k2 : lk h2 := by rw [eh2]; exact lk_mset kb g123
    have w0 : h2.2.2 h.2.1.length 0 = nI a := by rw [eh2]; exact mset_at _ _ _ _
    have en2 : h2.2.1[h.2.1.length]? = some (100, 2, []) := by rw [eh2]; exact hbn
    have c2 : csz h2.2.1 = csz h.2.1 + 1 := by rw [eh2]; exact cb
    have s2 : ssz h2.2.1 = ssz h.2.1 + 2 := by rw [eh2]; exact sb
    clear eh2
    have ft := F2.2.2 t (by omega)
    have et2 : h2.2.1[t]? = some (12, 25, rs) := ft.1.trans et
    have f22 : h2.2.2 t 2 = nI e := (congrFun ft.2 2).trans f2
    refine wd_bo (e_dI et2 (by decide) (by decide)) ?_
    refine wd_btw (lo := 0) (hi := 4) rfl rfl (by decide) (by decide) (fun y _ hy => ?_)
    refine wd_bo (e_dI et2 (by decide) (by decide)) ?_
    rw [f22, nI_add]
    have hX1 : ∀ x h', StI h0 t Bt At u z (T ++ [x]) h' → x.1 = 0 → Wd (X (nI (hdT T).length + 1, s7 + 1) h') Q := fun x h' I' hx => by
      have := hX x h' I'
      rw [hdT_sn, if_pos hx, List.length_append, List.length_singleton] at this
      have up : nI (hdT T).length + (1 : Int32) = nI ((hdT T).length + 1) := nI_up _
      rw [up]
      exact this
    refine wd_ite (fun z1 => ?_) (fun z1 => ?_)
    · exact w_153 (b := e + y) hN hz eT' t123 hn I hT F2 k2 en2 (Nat.le_refl _) w0 c2 s2 (pk_sub (b := 0) (Nat.zero_le _)) a1 (by omega) (by omega) rfl hX1
    · have z1 : ¬ e ≤ 1 := fun y => z1 ((nI_leI (b := 1) (by omega) (by decide)).mpr y)
      exact w_153 (b := e + y - 2) hN hz eT' t123 hn I hT F2 k2 en2 (Nat.le_refl _) w0 c2 s2 (pk_sub (b := 2) (by omega)) a1 (by omega) (by omega) rfl hX1
  · rw [if_neg (show ¬ nI v = 0 from nI_ne (b := 0) v0 (by omega) (by decide))]
    rcases (show v = 1 ∨ v = 2 ∨ (v = 3 ∧ 1 ≤ z) by omega) with rfl | rfl | ⟨rfl, z1⟩
    · exact w_210 hN hz eT' t123 hn I hT hX0 rfl
    · exact p_210 (by decide) (w_263 hN hz eT' t123 hn I hT hX0 rfl)
    · exact p_210 (by decide) (p_263 (by decide) (w_318 hN hz e7 eT' t123 hn I hT z1 hX0 rfl))
theorem w_L55 (hN : 20000 ≤ N) (hz : z ≤ 12) (e7 : h0.2.2 t 7 = nI z) (e2 : h0.2.2 t 2 = nI e) (he : e ≤ 200) (eT : ∃ rs, h0.2.1[t]? = some (12, 25, rs)) (t123 : 123 ≤ t) (hn : csz h0.2.1 + 200 < 1000000) (I : StI h0 t Bt At u z [] h) (hu : u ≤ 8)
    (hK : ∀ T h', T.length = u → StI h0 t Bt At u z T h' → Wd (K (nI (hdT T).length) h') Q) : Wd (jt (fun Y a hz => g_L_texts_L55 N t a2 (nI u) Bt At K Y a.1 a.2 hz) N ((0 : Int32), (0 : Int32)) h) Q := by
  refine wd_jt (fun q a h' => ∃ T, T.length ≤ u ∧ q = u - T.length ∧ a = (nI (hdT T).length, nI T.length) ∧ StI h0 t Bt At u z T h') ?_ N u _ _ (by omega) ⟨[], by simp, rfl, rfl, I⟩
  rintro q X a h1 ⟨T, hT, rfl, rfl, I1⟩ hX
  obtain ⟨rs, eT'⟩ := id eT
  have et : h1.2.1[t]? = some (12, 25, rs) := I1.1.2.2.2.2.2.2.1.trans eT'
  have f7 : h1.2.2 t 7 = nI z := (I1.1.2.2.2.2.2.2.2.1 7 (Or.inl (by decide))).trans e7
  unfold g_L_texts_L55
  dsimp only
  refine wd_ite (fun z1 => ?_) (fun z1 => ?_)
  · have z1 := (nI_leI (by omega) (by omega)).mp z1
    exact hK T h1 (by omega) I1
  · have z1 : ¬ u ≤ T.length := fun y => z1 ((nI_leI (by omega) (by omega)).mpr y)
    have hX1 : ∀ x h', StI h0 t Bt At u z (T ++ [x]) h' → Wd (X (nI (hdT (T ++ [x])).length, nI T.length + 1) h') Q := fun x h' I' => by
      refine hX (u - (T ++ [x]).length) _ _ ?_ ⟨T ++ [x], ?_, rfl, ?_, I'⟩
      · rw [List.length_append, List.length_singleton]; omega
      · rw [List.length_append, List.length_singleton]; omega
      · rw [List.length_append, List.length_singleton]
        exact congrArg (Prod.mk _) (nI_up T.length)
    refine wd_bo (e_dI et (by decide) (by decide)) ?_
    rw [f7]
    refine wd_ite (fun z2 => ?_) (fun z2 => ?_)
    · exact w_93 hN hz e7 e2 he eT t123 hn I1 (by omega) rfl ⟨2, rfl, Or.inl rfl⟩ rfl hX1
    · have z2 : ¬ z = 0 := fun y => z2 (by rw [y]; rfl)
      exact w_93 hN hz e7 e2 he eT t123 hn I1 (by omega) rfl ⟨3, rfl, Or.inr ⟨rfl, by omega⟩⟩ rfl hX1
/-- a text in a StringBuilder is said, the class hears it -/
theorem ph_say {vv : Int32} {R : Mem → Prop} {F : Int32 → DS → DA} (hN : 20000 ≤ N) (H : SbV h Bt V cap s) (A : Asc s) (kl : lk h) (hI : Inv h.1) (h16 : h.1 123 16 = nI 0) (hs : s.length ≤ 400) (hn : csz h.2.1 + 40 < 1000000)
    (hT : ∀ m1, m1 124 = h.1 124 → (∀ j, j ≠ 16 → m1 123 j = h.1 123 j) → m1 123 16 = nI s.length → (∀ i, i < s.length → m1 131 i = nI (s.getD i 0)) → Wp (f_X12_text N (nI k) m1) (fun v m5 => v = vv ∧ R m5))
    (q : ∀ h', lk h' → Inv h'.1 → FrL h h' → R h'.1 → csz h'.2.1 ≤ csz h.2.1 + 22 → ssz h'.2.1 ≤ ssz h.2.1 + 504 → Wd (F vv h') Q) :
    Wd (chk (isT h 13 Bt) <| bd3 (g_J4_toString_0e30d N Bt h) fun v h1 => chk (decide (v ≠ -1)) <| bnd v.toNatClampNeg fun r => bd3 (g_L_say N r h1) fun _ h2 => chk (isT h2 11 0) <| bdX (f_X11_text N (nI k) h2.1) h2 fun v3 hh => bnd (gs (f_X12_text N (nI k)) hh) fun h3 => F v3 h3) Q := by
  have hlen : h.2.1.length < 1000000 := kl.2.2.2
  refine wd_chk (e_isT H.2.1) (wd_bd3 (sb_str H A kl (by omega)) ?_)
  rintro v h1 ⟨rfl, ⟨W, g1, g2⟩, g3, g4, g5, g6⟩
  refine wd_chk (decide_eq_true (nI_ne_m1 (by omega))) ?_
  rw [nI_clamp (by omega), bnd_s]
  refine wd_bd3 (h_say hN g2 A g4 (by rw [g3.1]; exact hI) (by rw [g3.1]; exact h16) hs (by omega)) ?_
  rintro v2 h2 ⟨k2, I2, F2, ⟨T1, T2, T3, T4⟩, c2, s2⟩
  refine wd_chk (is11 k2) ?_
  refine wd_call (pr_text hN) (pg_f_X11_text (Gh.rf _)) (fun m => ps_f_X12_text (Ag.rf m)) I2 (fun v m1 m2 G1 e5 I3 => ?_)
  have e123 := G1 123 (by decide)
  obtain ⟨v', m', e6, rfl, hR⟩ := hT m1 (by rw [G1 124 (by decide), T1 124 (by decide) (by decide) (by decide), g3.1]) (fun j hj => by rw [e123, T2 j hj, g3.1]) (by rw [e123]; exact T3) (fun i hi => by
    rw [G1 131 (by decide), T4 i hi]
    unfold tpB
    rw [if_pos hi])
  have e7 := Option.some.inj (e6.symm.trans e5)
  obtain rfl : v' = v := congrArg Prod.fst e7
  obtain rfl : m' = m2 := congrArg Prod.snd e7
  exact q _ (lk_pm k2) I3 ((g3.frl.tr F2).tr frl_pat) hR (by show csz h2.2.1 ≤ _; omega) (by show ssz h2.2.1 ≤ _; omega)
end LOOPS
