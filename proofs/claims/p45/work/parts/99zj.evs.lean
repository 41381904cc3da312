/-! evenings on both sides -/
section EVSH
variable {h h' h2 h1 h0 : DS} {t N d hh c o u i k A n Lc b q C S : Nat} {xs : Nat → Int32} {p pb : Plc} {w w' a w2 : Arr} {dl : Option (Nat → Int32)} {LN : List Lin} {v x s5 s4 : Int32} {lb lb' : Nat → Nat × Nat × Nat} {T : Nat → Nat} {Pp : Nat → Plc} {f : Nat → Arr} {Q : Int32 → DS → Prop} {K : DS → DA} {K994 : Nat → DS → DA} {X : (Nat × Int32 × Int32) → DS → DA} {m m1 m2 : Mem} {c0 s0 B : Nat}
theorem evT_1 (G : Good LN w) (O : Hok k f w) (e : EvB B k f w) : ∀ i, EvB (B + i) (evT LN k f w i).1 (evT LN k f w i).2.1 (evT LN k f w i).2.2.1
  | 0 => e
  | i + 1 => by
    have ih := evT_1 G O e i
    obtain ⟨O', G', -⟩ := evT_ok O G i
    have e1 : evB (B + (i + 1)) (eveS LN true (evT LN k f w i).2.2.1) := by
      obtain ⟨x, h1, h2⟩ := ih.1
      refine ⟨x + 1, ?_, by omega⟩
      have z : (evlS LN true (evT LN k f w i).2.2.1 (zp (evT LN k f w i).2.2.1)).1 1 = (evT LN k f w i).2.2.1 1 := by
        have : ∀ n, n ≤ zp (evT LN k f w i).2.2.1 → (evlS LN true (evT LN k f w i).2.2.1 n).1 1 = (evT LN k f w i).2.2.1 1 := by
          intro n
          induction n with
          | zero => intro _; exact (by unfold ev0S; rw [ud_n (by decide), ud_n (by decide), ud_n (by decide)] : ev0S (evT LN k f w i).2.2.1 1 = _)
          | succ n ihn =>
            intro hn
            have ihn := ihn (by omega)
            generalize (evT LN k f w i).2.2.1 = w0 at *
            obtain ⟨-, d, hd, ed⟩ := G'.1.pro (i := n) (by omega)
            have ld := G'.1.lzd
            have en : nv (w0 (153 + 2 * n + 1)) = d := by rw [ed, nv_nI (by omega)]
            show (if upd (evlS LN true w0 n).1 0 (maxS ((evlS LN true w0 n).1 0) (w0 (153 + 2 * n))) 0 < lstS w0 10 (nI 300) (zs w0) then ((dosS LN true (nv (w0 (153 + 2 * n + 1))) 21 (upd (evlS LN true w0 n).1 0 (maxS ((evlS LN true w0 n).1 0) (w0 (153 + 2 * n)))) 0).1, (evlS LN true w0 n).2 + (dosS LN true (nv (w0 (153 + 2 * n + 1))) 21 (upd (evlS LN true w0 n).1 0 (maxS ((evlS LN true w0 n).1 0) (w0 (153 + 2 * n)))) 0).2) else (upd (evlS LN true w0 n).1 0 (maxS ((evlS LN true w0 n).1 0) (w0 (153 + 2 * n))), (evlS LN true w0 n).2)).1 1 = w0 1
            split
            · rw [en]
              exact (dosS_o 21 _ _ (by omega) (by decide) (by decide) (by decide)).trans ((ud_n (by decide)).trans ihn)
            · show upd (evlS LN true w0 n).1 0 (maxS ((evlS LN true w0 n).1 0) (w0 (153 + 2 * n))) 1 = w0 1
              rw [ud_n (by decide)]
              exact ihn
        exact this _ (Nat.le_refl _)
      unfold eveS
      rw [ud_s, z, h1, nI_add]
    exact EvB.next (B := B + (i + 1)) (ih.up (by omega)) e1
/-- behind i evenings on the House alone -/
def EI (LN : List Lin) (dl : Option (Nat → Int32)) (A t k : Nat) (w : Arr) (f : Nat → Arr) (h0 : DS) (i : Nat) (h : DS) : Prop :=
  ∃ lb p T Pp, HS lb h t p (evT LN k f w i).2.2.1 dl ∧ PB p ∧ h.1 = h0.1 ∧ PsH lb h t A (evT LN k f w i).2.2.1 dl (evT LN k f w i).1 T Pp (evT LN k f w i).2.1 ∧ csz h.2.1 ≤ csz h0.2.1 + 1035 * i ∧ ssz h.2.1 ≤ ssz h0.2.1 + 7039 * i
theorem PsH.fcg {f' : Nat → Arr} (P : PsH lb h t A w dl k T Pp f) (e : ∀ j, j < k → f' j = f j) : PsH lb h t A w dl k T Pp f' := by
  obtain ⟨p1, hA, lA, P⟩ := P
  refine ⟨p1, hA, lA, fun i hi => ?_⟩
  rw [e i hi]
  exact ⟨(P i hi).1, fun j hj => by
    rw [e j (by omega)]
    exact (P i hi).2 j hj⟩
theorem setA_rf {rs : List (Option Nat)} (e : h.2.1[A]? = some (104, 6, rs)) : SetA A rs h h := ⟨rfl, rfl, by
  refine List.ext_getElem? fun i => ?_
  by_cases y : A = i
  · subst y
    rw [List.getElem?_set, if_pos rfl, if_pos (len_of e)]
    exact e
  · rw [List.getElem?_set, if_neg y]⟩
theorem SetA.len {rs : List (Option Nat)} (S : SetA A rs h h') : csz h'.2.1 = csz h.2.1 := by
  show h'.2.1.length = h.2.1.length
  rw [S.2.2, List.length_set]
theorem SetA.ssz {rs rs0 : List (Option Nat)} (S : SetA A rs h h') (e : h.2.1[A]? = some (104, 6, rs0)) : ssz h'.2.1 = ssz h.2.1 := by
  rw [S.2.2]
  exact ssz_set _ _ (104, 6, rs0) _ e rfl
theorem p_shift5 (hN : 20000 ≤ N) (P : PsH lb h t A w dl 6 T Pp f) (kl : lk h) (hK : ∀ h' rs', SetA A rs' h h' → lk h' → PsH lb h' t A w dl 5 (fun j => T (j + 1)) (fun j => Pp (j + 1)) (fun j => f (j + 1)) → Wd (K h') Q) : Wd (jt (fun Y a hz => shB A K Y a hz) N (1 : Int32) h) Q := by
  refine p_shift hN P kl (fun h' rs' S k' l' q' => ?_)
  obtain ⟨⟨rs, e, l, q⟩, hA, lA, P⟩ := P
  refine hK h' rs' S k' ⟨⟨rs', S.at e, l', q'⟩, hA, lA, fun i hi => ?_⟩
  obtain ⟨⟨H, B, b, ex, ne⟩, dj⟩ := P (i + 1) (by omega)
  exact ⟨⟨H.setA S e, B, b, ex, ne⟩, fun j hj => dj (j + 1) (by omega)⟩
theorem r_190 {K217 : Int32 → Int32 → DS → DA} {Y : (Int32 × Int32 × Int32) → DS → DA} {cn : Int32} {r11 r12 : Int32} (hN : 20000 ≤ N) (hD : LawD LN dl) (G : Good LN w) (ho : lawOk LN) (H : HS lb h t p w dl) (bp : PB p) (Ps : PsH lb h t A w dl k T Pp f) (hk : k ≤ 5) (hn : csz h.2.1 + 1200 < 1000000)
    (hX : ∀ lb' p' T' Pp' h', HS lb' h' t p' (eveS LN true w) dl → PB p' → h'.1 = h.1 → PsH lb' h' t A (eveS LN true w) dl (k + 1) T' Pp' (nxt k f w) → csz h'.2.1 ≤ csz h.2.1 + 1035 → ssz h'.2.1 ≤ ssz h.2.1 + 7039 → Wd (Y (nI (k + 1), cn + nI (eveN LN true w), nI (i + 1)) h') Q) :
    Wd (g_L_law_J190_147 N Lc xs t A s5 b r11 r12 K217 Y (nI k) cn (nI i) h) Q := by
  unfold g_L_law_J190_147
  refine wd_chk (e_isT H.1.ob) (wd_bd3 (h_copy hN H G.1 (by omega)) ?_)
  rintro v h1 ⟨rfl, F, cc, sc, pb, lb1, H1, H2, hl, e⟩
  have lt : h.2.1.length < 1000000 := by
    have : csz h.2.1 = h.2.1.length := rfl
    omega
  have bt : h.2.1.length ≠ t := fun z => by
    have := len_of H.1.ob
    omega
  rw [nI_clamp (by omega)]
  refine wd_chk (decide_eq_true (fun z => ?_)) ?_
  · have := congrArg Int32.toInt z
    rw [nI_toInt (by omega), show (-1 : Int32).toInt = -1 from by decide] at this
    omega
  · have Ps1 := Ps.fra F hl
    obtain ⟨⟨rs, rA, rl, rq⟩, hA, lA, Pq⟩ := id Ps1
    have ek : min 6 (k + 1) - 1 = k := by omega
    have ek2 : min 6 (k + 1) = k + 1 := by omega
    rw [show nI k = nI (min 6 (k + 1) - 1) by rw [ek]]
    refine p_put Ps1 H1.2.2.1 (by omega) (setA_rf rA) rA H1.2.2.1 rl (fun j hj => by
      rw [if_neg (by omega)]
      exact rq j (by omega)) H2.1 H2.2.1 (bp.of e) exH.rf bt (fun j hj z => by
      have := Ps.lt hj
      omega) (fun j hj => (Pq j hj).1.2.2.2.1) (fun h2 rs2 S2 k2 P2 => ?_)
    rw [ek, ek2] at *
    have HA := SetA.HS H1 S2 rA k2
    have c2 := S2.len
    have s2 := S2.ssz rA
    refine wd_chk (e_isT HA.1.ob) (wd_bd3 (h_passes (tru := true) hN HA G.1 G.2.2 hD (by omega)) ?_)
    rintro v3 h3 ⟨rfl, p3, lb3, H3, hl3, Kp3, C3, S3, e1, e2, e3, e4⟩
    have tge := HA.1.1.1
    have P3 := (P2.kp Kp3 (by omega) (fun j hj z => (P2.2.2.2 j hj).1.2.2.2.2 z.symm) hl3).ex (exH.eve (tru := true) G.1 G.2.2)
    have up : nI k + (1 : Int32) = nI (k + 1) := nI_up k
    have up2 : nI i + (1 : Int32) = nI (i + 1) := nI_up i
    rw [up, up2]
    exact hX lb3 p3 _ _ h3 H3 (bp.of (by rw [e1])) (Kp3.1.trans (S2.1.trans F.1)) P3 (by omega) (by omega)
theorem lin1 {a b c d i x : Nat} (h1 : a ≤ b + x) (h2 : b = d) (h3 : d ≤ c + x * i) : a ≤ c + x * (i + 1) := by
  rw [Nat.mul_succ]
  omega
theorem r_147 {K217 : Int32 → Int32 → DS → DA} {r11 : Int32} {q : Nat} (hN : 20000 ≤ N) (hD : LawD LN dl) (G : Good LN w) (ho : lawOk LN) (O : Hok k f w) (hq : q ≤ 20) (E : EI LN dl A t k w f h0 0 h) (hn : csz h0.2.1 + 1035 * q + 1300 < 1000000)
    (hK : ∀ h', EI LN dl A t k w f h0 q h' → Wd (K217 (nI (evT LN k f w q).1) (nI (evT LN k f w q).2.2.2) h') Q) :
    Wd (jt (fun Y a hz => g_L_law_L147 N Lc xs t A s5 b r11 (nI q) K217 Y a.1 a.2.1 a.2.2 hz) N (nI k, 0, 0) h) Q := by
  refine wd_jt (fun n a h' => ∃ i, i ≤ q ∧ n = q - i ∧ a = (nI (evT LN k f w i).1, nI (evT LN k f w i).2.2.2, nI i) ∧ EI LN dl A t k w f h0 i h') ?_ N q _ _ (by omega) ⟨0, by omega, rfl, rfl, E⟩
  rintro n Y a h1 ⟨i, hi, rfl, rfl, E1⟩ hX
  obtain ⟨O', G', -⟩ := evT_ok O G i
  unfold g_L_law_L147
  dsimp only
  refine wd_ite (fun z => ?_) (fun z => ?_)
  · have z := (nI_leI (by omega) (by omega)).mp z
    have : i = q := by omega
    subst this
    exact hK h1 E1
  · have z : ¬ q ≤ i := fun y => z ((nI_leI (by omega) (by omega)).mpr y)
    have hlt : i < q := by omega
    obtain ⟨lb1, p1, T1, Pp1, H1, bp1, m1, Ps1, c1, s1⟩ := E1
    have c2 : 1035 * i + 1035 ≤ 1035 * q := by omega
    have nx : evT LN k f w (i + 1) = (min 6 ((evT LN k f w i).1 + 1), nxt (evT LN k f w i).1 (evT LN k f w i).2.1 (evT LN k f w i).2.2.1, eveS LN true (evT LN k f w i).2.2.1, (evT LN k f w i).2.2.2 + eveN LN true (evT LN k f w i).2.2.1) := rfl
    have k6 := O'.1
    by_cases h6 : (evT LN k f w i).1 = 6
    · rw [h6] at Ps1
      rw [if_pos (show nI (evT LN k f w i).1 = 6 by rw [h6]; rfl)]
      refine p_shift5 hN Ps1 H1.2.2.1 (fun hA rs S kA PA => ?_)
      obtain ⟨⟨rs0, rA0, -, -⟩, -⟩ := id Ps1
      have HA := SetA.HS H1 S rA0 kA
      have cA := S.len
      have sA := S.ssz rA0
      show Wd (g_L_law_J190_147 N Lc xs t A s5 b r11 (nI q) K217 Y (nI (evT LN k f w i).1 + (-1)) (nI (evT LN k f w i).2.2.2) (nI i) hA) Q
      rw [show nI (evT LN k f w i).1 + (-1 : Int32) = nI 5 by rw [h6]; exact nI_m1 5]
      refine r_190 hN hD G' ho HA bp1 PA (by omega) (by omega) (fun lb' p' T' Pp' h' g1 g2 g3 g4 g5 g6 => ?_)
      refine hX (q - (i + 1)) _ _ (by omega) ⟨i + 1, by omega, rfl, ?_, lb', p', T', Pp', by rw [nx]; exact g1, g2, g3.trans (S.1.trans m1), ?_, lin1 g5 cA c1, lin1 g6 sA s1⟩
      · rw [nx, nI_add]
        dsimp only
        rw [h6]
        rfl
      · rw [nx]
        dsimp only
        rw [h6]
        refine g4.fcg (fun j hj => ?_)
        unfold nxt
        by_cases y : j + 1 = 6
        · rw [if_pos (by omega), if_pos (by omega)]
        · rw [if_neg (show ¬ j + 1 = min 6 (6 + 1) by omega), if_neg (show ¬ j + 1 = min 6 (5 + 1) by omega)]
          rfl
    · rw [if_neg (show ¬ nI (evT LN k f w i).1 = (6 : Int32) from nI_ne h6 (by omega) (by decide))]
      refine r_190 hN hD G' ho H1 bp1 Ps1 (by omega) (by omega) (fun lb' p' T' Pp' h' g1 g2 g3 g4 g5 g6 => ?_)
      refine hX (q - (i + 1)) _ _ (by omega) ⟨i + 1, by omega, rfl, ?_, lb', p', T', Pp', by rw [nx]; exact g1, g2, g3.trans m1, ?_, lin1 g5 rfl c1, lin1 g6 rfl s1⟩
      · rw [nx, nI_add]
        dsimp only
        rw [show min 6 ((evT LN k f w i).1 + 1) = (evT LN k f w i).1 + 1 by omega]
      · rw [nx]
        dsimp only
        rw [show min 6 ((evT LN k f w i).1 + 1) = (evT LN k f w i).1 + 1 by omega]
        exact g4
theorem r_evs {q : Nat} {r11 : Int32} (hN : 20000 ≤ N) (hD : LawD LN dl) (I : CW LN dl B A lb t p w k T Pp f b pb h) (hB : B ≤ 100) (h1 : 1 ≤ q) (hq : q ≤ 3) (hn : csz h.2.1 + 5000 < 1000000) (hc : csz h.2.1 + 3106 ≤ c0) (hs : ssz h.2.1 + 21128 ≤ s0) (hX : ∀ t' k' h', RE LN dl (B + 3) A c0 s0 t' k' h' → Wd (X (t', nI k', s5 + 1) h') Q) :
    Wd (jt (fun Y a hz => g_L_law_L147 N Lc xs t A s5 b r11 (nI q) (fun k4_217 k13_217 hk217 => chk (isT hk217 11 0) <| bdX (f_X11_evenings N (nI q) hk217.1) hk217 fun v_220 hh_220 => bnd (gs (f_X12_evenings N (nI q)) hh_220) fun h_220 =>
      if v_220 = k13_217 then (g_L_law_J917_41 N Lc xs A K994 X t k4_217 s5 b 0 h_220)
      else (some ((0 : Int32), h_220))) Y a.1 a.2.1 a.2.2 hz) N (nI k, 0, 0) h) Q := by
  have G := I.1.good
  obtain ⟨⟨H, bp, i1, iw, L, PM, O, tp, Ps, ev⟩, -⟩ := I
  refine r_147 (h0 := h) hN hD G L.2 O (by omega) ⟨lb, p, T, Pp, H, bp, rfl, Ps, by omega, by omega⟩ (by omega) (fun h2 E => ?_)
  obtain ⟨lb2, p2, T2, Pp2, H2, bp2, m2', Ps2, c2, s2⟩ := E
  obtain ⟨O', G', -⟩ := evT_ok O G q
  have e2 := evT_1 G O ev q
  refine wd_chk (is11 H2.2.2.1) (wd_call (pr_evenings hN) (pg_f_X11_evenings (Gh.rf _)) (fun m => ps_f_X12_evenings (Ag.rf m)) (by rw [m2']; exact i1) (fun v1 m1 m2 g ey i2' => ?_))
  have w1 : m1 124 = w := (g 124 (by decide)).trans (by rw [m2']; exact iw)
  have P1 : PaM k f m1 := PM.cg (by rw [g 123 (by decide), m2']) (by rw [g 126 (by decide), m2'])
  have be : w 1 + nI q ≤ nI 9999 := by
    obtain ⟨x, x1, x2⟩ := ev.1
    rw [x1, nI_add]
    exact nI_le (by omega) (by decide)
  obtain ⟨v2, m3, ey2, rfl, a1, a2, a3⟩ := m_evs hN w1 G L.2 O P1 h1 (by omega) be
  rw [ey] at ey2
  cases ey2
  refine wd_yes rfl ?_
  have tp1 : m2 123 16 = nI 0 := a3.trans ((by rw [g 123 (by decide), m2'] : m1 123 16 = h.1 123 16).trans tp)
  refine r_917n (B := B + 3) hN hD ⟨H2.pat bp2, bp2, i2', a1, ⟨G'.2.2, L.2⟩, a2, O', tp1, Ps2.frl H2.2.2.1 H2.2.2.2 frl_pat, e2.up (by omega)⟩ (show csz h2.2.1 + 2 < _ by omega) (show csz h2.2.1 + 1 ≤ _ by omega) (show ssz h2.2.1 + 11 ≤ _ by omega) hX
end EVSH
