/-! a round of clapping -/
section ROUND
variable {h h' h2 : DS} {t N d hh b c o : Nat} {p : Plc} {w w' : Arr} {dl : Option (Nat → Int32)} {LN : List Lin} {v x a2 : Int32} {lb : Nat → Nat × Nat × Nat}
theorem pat_rf (hl : lk h) : pat h h.1 = h := by
  obtain ⟨m, l, f⟩ := h
  show (m, l, fun k => if k < 123 then m k else f k) = (m, l, f)
  have : (fun k => if k < 123 then m k else f k) = f := by
    funext k
    by_cases q : k < 123
    · rw [if_pos q]
      exact (hl.1 k q).symm
    · rw [if_neg q]
  rw [this]
theorem rdy_bit {i : Nat} : (rdyS w).testBit i = ((zt w).testBit i && !(zv w).testBit i) := sdf_bit _ _ _
theorem h_round {K : Int32 → DS → DA} {Q : Int32 → DS → Prop} {dr : Nat → Int32} {cl : Nat} (hN : 20000 ≤ N) (H : HS lb h t p w dl) (W0 : WFc w) (hD : LawD LN dl) (hd : d < zd w) (ho2 : h.2.1[o]? = some (100, 12, []))
    (hdr : ∀ i, i < zh w → (zt w).testBit i = true → h.2.2 o i = dr i) (h22 : h.2.2 t 22 = nI cl) (hcl : cl < 2 ^ zh w)
    (hK : ∀ h', HS lb h' t p w dl → KpH lb t h h' → h'.2.1 = h.2.1 → (∀ c, c ≠ t → h'.2.2 c = h.2.2 c) → h'.2.2 t 22 = nI (rndS LN w d (rdyS w) dr cl (zh w)) → h'.2.2 t 23 = h.2.2 t 23 → Wd (K (b2i (decide (rndS LN w d (rdyS w) dr cl (zh w) ≠ cl))) h') Q) :
    Wd (jt (fun Y a hz => g_X12_once_L169 N t (nI d) a2 o K Y a.1 a.2 hz) N ((0 : Int32), (0 : Int32)) h) Q := by
  have s := W0.lzh
  have hz := W0.lzs
  have p12 := W0.p12
  refine wd_jt (fun n a h' => ∃ i, i ≤ zh w ∧ n = zh w - i ∧ a = (b2i (decide (rndS LN w d (rdyS w) dr cl i ≠ cl)), nI i) ∧ HS lb h' t p w dl ∧ KpH lb t h h' ∧ h'.2.1 = h.2.1 ∧ (∀ c, c ≠ t → h'.2.2 c = h.2.2 c) ∧ h'.2.2 t 22 = nI (rndS LN w d (rdyS w) dr cl i) ∧ h'.2.2 t 23 = h.2.2 t 23) ?_ N (zh w) _ _ (by omega)
    ⟨0, by omega, rfl, by show ((0 : Int32), (0 : Int32)) = (b2i (decide (cl ≠ cl)), nI 0); rw [decide_eq_false (fun z => z rfl)]; rfl, H, KpH.rf, rfl, fun _ _ => rfl, h22, rfl⟩
  rintro n X a h1 ⟨i, hi, rfl, rfl, H1, K1, S1, M1, E22, E23⟩ hX
  have HR := H1.1
  have oT : o ≠ t := ne_of_tag (h := h1) (by rw [S1]; exact ho2) HR.ob (by decide)
  have cb := rndS_lt (LN := LN) (w := w) (d := d) (rdy := rdyS w) (dr := dr) hcl i hi
  unfold g_X12_once_L169
  dsimp only
  refine wd_bo (hs_I HR (by decide) (by decide)) ?_
  rw [HR.int.2.2.2.2.2.2.2.1, W0.h37]
  refine wd_ite (fun q => ?_) (fun q => ?_)
  · have q := (nI_leI (by omega) (by omega)).mp q
    have : i = zh w := by omega
    subst this
    exact hK h1 H1 K1 S1 M1 E22 E23
  · have q : ¬ zh w ≤ i := fun z => q ((nI_leI (by omega) (by omega)).mpr z)
    have hlt : i < zh w := by omega
    have up : nI i + (1 : Int32) = nI (i + 1) := nI_up i
    have no : ∀ h3, HS lb h3 t p w dl → KpH lb t h h3 → h3.2.1 = h.2.1 → (∀ c, c ≠ t → h3.2.2 c = h.2.2 c) → h3.2.2 t 22 = h1.2.2 t 22 → h3.2.2 t 23 = h.2.2 t 23 → stpS LN w d (rdyS w) dr (rndS LN w d (rdyS w) dr cl i) i = rndS LN w d (rdyS w) dr cl i → Wd (X (b2i (decide (rndS LN w d (rdyS w) dr cl i ≠ cl)), nI i + (1 : Int32)) h3) Q := by
      intro h3 a1 a2 a3 a4 a5 a6 e
      have e' : rndS LN w d (rdyS w) dr cl (i + 1) = rndS LN w d (rdyS w) dr cl i := e
      refine hX (zh w - (i + 1)) _ _ (by omega) ⟨i + 1, by omega, rfl, by rw [e', up], a1, a2, a3, a4, by rw [e', a5]; exact E22, a6⟩
    have st : ¬ ((rdyS w).testBit i = true ∧ (rndS LN w d (rdyS w) dr cl i).testBit i = false) → stpS LN w d (rdyS w) dr (rndS LN w d (rdyS w) dr cl i) i = rndS LN w d (rdyS w) dr cl i := by
      intro z
      unfold stpS
      rw [if_neg (fun y => z ⟨y.1, y.2.1⟩)]
    refine wd_bo (hs_man HR) (wd_bo (rw_Q HR.man hlt (by decide)) (wd_bo (rw_A (c := 3) HR.man hlt (by decide) (by decide)) ?_))
    rw [show heaV w i 3 = b2i ((zt w).testBit i) from rfl]
    cases hb : (zt w).testBit i with
    | false =>
      refine wd_ite (fun _ => ?_) (fun z => absurd rfl z)
      exact no h1 H1 K1 S1 M1 rfl E23 (st (fun y => by rw [rdy_bit, hb] at y; cases y.1))
    | true =>
      refine wd_ite (fun z => absurd z (by decide)) (fun _ => ?_)
      refine wd_bo (hs_man HR) (wd_bo (rw_Q HR.man hlt (by decide)) (wd_bo (rw_A (c := 4) HR.man hlt (by decide) (by decide)) ?_))
      rw [show heaV w i 4 = b2i ((zv w).testBit i) from rfl]
      cases hv : (zv w).testBit i with
      | true =>
        refine wd_ite (fun _ => ?_) (fun z => absurd rfl z)
        exact no h1 H1 K1 S1 M1 rfl E23 (st (fun y => by rw [rdy_bit, hb, hv] at y; cases y.1))
      | false =>
        refine wd_ite (fun z => absurd z (by decide)) (fun _ => ?_)
        refine wd_bo (hs_I HR (by decide) (by decide)) ?_
        rw [E22]
        have rb : (rdyS w).testBit i = true := by rw [rdy_bit, hb, hv]; rfl
        refine wd_ite (fun q2 => ?_) (fun q2 => ?_)
        · have q2 := (nz_bit (k := rndS LN w d (rdyS w) dr cl i) (h := i) (by omega) (by omega)).mp q2
          exact no h1 H1 K1 S1 M1 rfl E23 (st (fun y => by rw [q2] at y; cases y.2))
        · have q2 : (rndS LN w d (rdyS w) dr cl i).testBit i = false := by
            cases z : (rndS LN w d (rdyS w) dr cl i).testBit i with
            | false => rfl
            | true => exact absurd ((nz_bit (k := rndS LN w d (rdyS w) dr cl i) (h := i) (by omega) (by omega)).mpr z) q2
          obtain ⟨⟨rb1, bb1⟩, bb2⟩ := HR.2.2.2.2.2.2.2.1
          have ho1 : h1.2.1[o]? = some (100, 12, []) := by rw [S1]; exact ho2
          refine wd_bo (e_lA ho1 (inb_nI (by omega) (by decide))) ?_
          rw [nI_clamp (by omega), M1 o oT, hdr i hlt hb]
          refine wd_bo (hs_bes HR) (wd_bo (e_lA bb1 (inb_nI (by omega) (by decide))) ?_)
          rw [nI_clamp (by omega), bb2 i (by omega), (W0.zn hlt).1]
          refine wd_bo (hs_I HR (by decide) (by decide)) ?_
          rw [E22, nz_and]
          refine wd_bdX (e_bitCount _ (Nat.lt_of_lt_of_le (and_lt (W0.zn hlt).2) p12)) ?_
          rw [pat_rf H1.2.2.1]
          refine wd_chk (e_isT HR.ob) (wd_bd3 (h_clap (N := N) HR hlt hd hD) ?_)
          rintro v2 h3 ⟨rfl, rfl⟩
          refine wd_ite (fun q3 => ?_) (fun q3 => ?_)
          · refine wd_bo (hs_I HR (by decide) (by decide)) ?_
            rw [E22, show (1 : Int32) <<< (nI i &&& 31) = nI (2 ^ i) from nz_one (by omega), nz_or]
            obtain ⟨g1, g2, g3⟩ := h_wS (j := 22) (x := nI (rndS LN w d (rdyS w) dr cl i ||| 2 ^ i)) H1 (by decide) (by decide) (by decide) hz
            refine wd_bo g1 ?_
            have e' : rndS LN w d (rdyS w) dr cl (i + 1) = rndS LN w d (rdyS w) dr cl i ||| 2 ^ i := by
              show stpS LN w d (rdyS w) dr (rndS LN w d (rdyS w) dr cl i) i = _
              unfold stpS
              rw [if_pos ⟨rb, q2, q3⟩]
            have ne : rndS LN w d (rdyS w) dr cl (i + 1) ≠ cl := rndS_ne (by omega) e' q2
            refine hX (zh w - (i + 1)) _ _ (by omega) ⟨i + 1, by omega, rfl, by rw [decide_eq_true ne, up]; rfl, g2, K1.tr (fun _ _ => rfl) g3, S1, fun c hc => (mset_ne hc).trans (M1 c hc), by rw [e']; exact mset_at _ _ _ _, (mset_j (by decide)).trans E23⟩
          · refine no h3 H1 K1 S1 M1 rfl E23 ?_
            unfold stpS
            rw [if_neg (fun y => q3 y.2.2)]
end ROUND
