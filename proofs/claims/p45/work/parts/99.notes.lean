/-! a row of the book -/
section NOTES
variable {h h' h2 : DS} {t N d hh b : Nat} {p : Plc} {w w' : Arr} {dl : Option (Nat → Int32)} {LN : List Lin} {v : Int32} {lb : Nat → Nat × Nat × Nat}
def HS (lb : Nat → Nat × Nat × Nat) (h : DS) (t : Nat) (p : Plc) (w : Arr) (dl : Option (Nat → Int32)) : Prop := HouR h t p w dl ∧ HLb lb t p w ∧ lk h ∧ ∀ c, c < 123 → (lb c).1 = 0
/-- what an operation on the House t does: C cells, S slots more at most -/
def OpR (lb : Nat → Nat × Nat × Nat) (t : Nat) (h : DS) (p : Plc) (dl : Option (Nat → Int32)) (C S : Nat) (w' : Arr) (h' : DS) : Prop := ∃ p' lb', HS lb' h' t p' w' dl ∧ (∀ c, c < h.2.1.length → lb' c = lb c) ∧ KpH lb t h h' ∧ csz h'.2.1 ≤ csz h.2.1 + C ∧ ssz h'.2.1 ≤ ssz h.2.1 + S ∧ p'.1 = p.1 ∧ p'.2.1 = p.2.1 ∧ p'.2.2.1 = p.2.2.1 ∧ p'.2.2.2.2 = p.2.2.2.2
theorem OpR.rf (H : HS lb h t p w dl) : OpR lb t h p dl 0 0 w h := ⟨p, lb, H, fun _ _ => rfl, KpH.rf, Nat.le_refl _, Nat.le_refl _, rfl, rfl, rfl, rfl⟩
theorem OpR.up {C S C' S' : Nat} (q : OpR lb t h p dl C S w' h') (hC : C ≤ C') (hS : S ≤ S') : OpR lb t h p dl C' S' w' h' := by
  obtain ⟨p', lb', a1, a2, a3, a4, a5, a6⟩ := q
  exact ⟨p', lb', a1, a2, a3, by omega, by omega, a6⟩
theorem OpR.tr {C S C' S' : Nat} {w2 : Arr} {p1 : Plc} {lb1 : Nat → Nat × Nat × Nat} (a1 : HS lb1 h' t p1 w' dl) (a2 : ∀ c, c < h.2.1.length → lb1 c = lb c) (a3 : KpH lb t h h') (a4 : csz h'.2.1 ≤ csz h.2.1 + C) (a5 : ssz h'.2.1 ≤ ssz h.2.1 + S) (a6 : p1.1 = p.1 ∧ p1.2.1 = p.2.1 ∧ p1.2.2.1 = p.2.2.1 ∧ p1.2.2.2.2 = p.2.2.2.2) (q : OpR lb1 t h' p1 dl C' S' w2 h2) : OpR lb t h p dl (C + C') (S + S') w2 h2 := by
  obtain ⟨p', lb', b1, b2, b3, b4, b5, b6, b7, b8, b9⟩ := q
  refine ⟨p', lb', b1, fun c hc => (b2 c (Nat.lt_of_lt_of_le hc a3.2.1)).trans (a2 c hc), a3.tr a2 b3, by omega, by omega, b6.trans a6.1, b7.trans a6.2.1, b8.trans a6.2.2.1, b9.trans a6.2.2.2⟩
/-- the book's rows changed, and the House's own numbers -/
theorem HouR.book {rl' : Nat → Nat} (H : HouR h t p w dl) (B : HLb lb t p w) (hz : zs w ≤ 16) (hzp : zp w ≤ 16) (ho : h'.2.1[t]? = h.2.1[t]?) (hm : ∀ (c : Nat) (e : SE), h.2.1[c]? = some e → c ≠ t → c ≠ p.1.2.2.1 → h'.2.1[c]? = some e ∧ h'.2.2 c = h.2.2 c) (hw : ∀ i, i ≠ 6 → i < 223 → w' i = w i) (hI : HouI h' t w') (hl : RwH h' p.1.2.2.1 150 4 rl' (zb w') (fun i c => w' (223 + 4 * i + c))) : HouR h' t (p.1, p.2.1, p.2.2.1, rl', p.2.2.2.2) w' dl := by
  obtain ⟨⟨a1, a2⟩, -, am, ad, al, ah, ap, ⟨⟨rs, ab⟩, ab2⟩, aw⟩ := H
  obtain ⟨b0, b1, b2, b3, b4, b5, b6, b7, b8, b9, b10, b11, b12⟩ := B
  obtain ⟨⟨rsl, al1, -⟩, -⟩ := id al
  have z : ∀ {c k : Nat} {r : List (Option Nat)}, h.2.1[c]? = some (100, k, r) → h'.2.1[c]? = some (100, k, r) ∧ h'.2.2 c = h.2.2 c := fun q => hm _ _ q (ne_of_tag q a2 (by decide)) (ne_of_tag q al1 (by decide))
  have zR : ∀ {i : Nat} {n k : Nat} {r : Nat → Nat} {a zz : Nat} {f : Nat → Nat → Int32}, RwH h a n k r zz f → i < zz → ∀ e, h.2.1[r i]? = some e → h'.2.1[r i]? = some e ∧ h'.2.2 (r i) = h.2.2 (r i) := fun R hi e he => by
    obtain ⟨⟨rs, q⟩, -⟩ := R.2 _ hi
    rw [q] at he
    cases he
    exact z q
  have zA : ∀ {a n k : Nat} {r : Nat → Nat} {zz : Nat} {f : Nat → Nat → Int32}, RwH h a n k r zz f → lb a ≠ (t, 3, 0) → h'.2.1[a]? = h.2.1[a]? := fun R hn => by
    obtain ⟨⟨rs, q, -⟩, -⟩ := R
    exact (hm _ _ q (ne_of_tag q a2 (by decide)) (fun e => hn (by rw [e]; exact b3))).1.trans q.symm
  have e37 : zh w' = zh w := by unfold zh; rw [hw 37 (by decide) (by decide)]
  have e38 : zd w' = zd w := by unfold zd; rw [hw 38 (by decide) (by decide)]
  have e42 : zp w' = zp w := by unfold zp; rw [hw 42 (by decide) (by decide)]
  have eh : hnL w' = hnL w := hnL_cg (hw 41 (by decide) (by decide)) (fun i h1 h2 => hw i (by omega) (by omega)) hz
  have eV : ∀ i, i < 12 → ∀ k, heaV w' i k = heaV w i k := by
    intro i hi k
    have ec : cnt w' i = cnt w i := cnt_cg (fun j hj => hw j (by omega) (by omega)) hz i
    unfold heaV
    rw [hw (45 + i) (by omega) (by omega), hw (57 + i) (by omega) (by omega), hw (69 + i) (by omega) (by omega), hw (9 + i) (by omega) (by omega), hw (185 + i) (by omega) (by omega), ec, (show zt w' = zt w from by unfold zt; rw [hw 7 (by decide) (by decide)]), (show zv w' = zv w from by unfold zv; rw [hw 8 (by decide) (by decide)])]
  have eD : ∀ i, i < 8 → ∀ k, deeV w' i k = deeV w i k := by
    intro i hi k
    unfold deeV
    rw [hw (81 + i) (by omega) (by omega), hw (89 + i) (by omega) (by omega), hw (97 + i) (by omega) (by omega), hw (21 + i) (by omega) (by omega), hw (29 + i) (by omega) (by omega)]
  have t0 : ∀ {x : Nat × Nat × Nat}, x.1 = 0 → x ≠ (t, 3, 0) := fun e q => by rw [q] at e; exact absurd (show t = 0 from e) (by omega)
  have l12 : zh w ≤ 12 := am.1.elim (fun _ q => q.2.2.1)
  have l8 : zd w ≤ 8 := ad.1.elim (fun _ q => q.2.2.1)
  refine ⟨⟨a1, ho.trans a2⟩, hI, ?_, ?_, hl, ?_, ?_, ?_, ?_⟩
  · rw [e37]
    exact am.mv (zA am (by rw [b1]; intro e; cases e)) (fun i hi e he => zR am hi e he) (fun i hi c _ => eV i (by omega) c)
  · rw [e38]
    exact ad.mv (zA ad (by rw [b2]; intro e; cases e)) (fun i hi e he => zR ad hi e he) (fun i hi c _ => eD i (by omega) c)
  · rw [eh]
    exact ah.mv (zA ah (t0 b9)) (fun i hi e he => zR ah hi e he) (fun i hi c hc => hw _ (by omega) (by
      have := hnL_mem hi
      omega))
  · rw [e42]
    exact ap.mv (zA ap (t0 b10)) (fun i hi e he => zR ap hi e he) (fun i hi c hc => hw _ (by omega) (by omega))
  · obtain ⟨g1, g2⟩ := z ab
    exact ⟨⟨rs, g1⟩, fun k hk => by rw [g2, hw (185 + k) (by omega) (by omega)]; exact ab2 k hk⟩
  · cases e : p.1.2.2.2.2.2.2 with
    | none =>
      rw [e] at aw
      cases dl with
      | none => trivial
      | some dv => exact aw.elim
    | some r =>
      rw [e] at aw
      cases dl with
      | none => exact aw.elim
      | some dv =>
        obtain ⟨⟨rs, l1⟩, l2⟩ := aw
        obtain ⟨g1, g2⟩ := z l1
        exact ⟨⟨rs, g1⟩, fun j hj => by rw [g2]; exact l2 j hj⟩
theorem ssz_gr {e : SE} {f : Nat → Int32} : ssz (grown h e f).2.1 = ssz h.2.1 + e.2.1 := by
  show ssz (h.2.1 ++ [e]) = _
  rw [ssz_app]
  rfl
theorem lk_gr {e : SE} {f : Nat → Int32} (hl : lk h) (hn : h.2.1.length + 1 < 1000000) (he : ∀ j q, e.2.2.getD j none ≠ some q) : lk (grown h e f) := lk_add hl (lk_len hl) hn he
theorem h_notes {a c0 c1 : Int32} (H : HS lb h t p w dl) (W0 : WFc w) (hn : csz h.2.1 + 1 < 1000000) : Wd (g_X12_notes N t a c0 c1 1 h) (fun _ h' => OpR lb t h p dl 1 4 (nteS w a c0 c1) h' ∧ ∀ j, j ≠ 9 → h'.2.2 t j = h.2.2 t j) := by
  obtain ⟨HR, B, hk, hlb⟩ := id H
  have h6 := W0.h6
  have lb0 := W0.lzb
  have hz := W0.lzs
  have hI := HR.int
  have hn' : h.2.1.length + 1 < 1000000 := hn
  unfold g_X12_notes
  rw [if_neg (show ¬ (1 : Int32) = 0 by decide)]
  refine wd_bo (hs_I HR (by decide) (by decide)) ?_
  rw [hI.2.2.2.2.2.2.2.2.2.1, h6]
  refine wd_ite (fun q => ?_) (fun q => ?_)
  · have q := (nI_leI (a := 150) (b := zb w) (by decide) (by omega)).mp q
    have e : nteS w a c0 c1 = w := by
      unfold nteS
      rw [if_pos (by rw [h6, show zb w = 150 by omega])]
    rw [e]
    exact wd_ret ⟨(OpR.rf H).up (by decide) (by decide), fun _ _ => rfl⟩
  · have q : ¬ 150 ≤ zb w := fun z => q ((nI_leI (by decide) (by omega)).mpr z)
    have ew : nteS w a c0 c1 = upd (upd (upd (upd (upd w (223 + 4 * zb w) (w 1)) (223 + 4 * zb w + 1) a) (223 + 4 * zb w + 2) c0) (223 + 4 * zb w + 3) c1) 6 (nI (zb w + 1)) := by
      unfold nteS
      rw [if_neg (by rw [h6, nI_eq (by omega) (by decide)]; omega)]
    obtain ⟨⟨rs, l1, l2, l3, l4⟩, l5⟩ := HR.lin
    have tl : t < h.2.1.length := len_of HR.ob
    have ll : p.1.2.2.1 < h.2.1.length := len_of l1
    have htl : t ≠ p.1.2.2.1 := ne_of_tag HR.ob l1 (by decide)
    have hlge : 123 ≤ p.1.2.2.1 := by
      have b3 := B.2.2.2.1
      rcases Nat.lt_or_ge p.1.2.2.1 123 with z | z
      · exfalso
        have h1 := hk.2.1 _ z
        rw [l1] at h1
        have : ∀ k, k < 123 → ∀ n r, SG[k]? ≠ some (103, n, r) := by
          intro k hk2 n r e
          have h2 : ((SG[k]?).map (fun e => e.1)).getD 0 ≠ 103 := by
            have : ∀ k, k < 123 → ((SG[k]?).map (fun e => e.1)).getD 0 ≠ 103 := by decide +kernel
            exact this k hk2
          rw [e] at h2
          exact h2 rfl
        exact this _ z _ _ h1.symm
      · exact z
    refine wd_bo (hs_lin HR) (wd_bo (hs_I HR (by decide) (by decide)) ?_)
    rw [hI.2.2.2.2.2.2.2.2.2.1, h6]
    refine wd_bo (hs_wI HR (by decide) (by decide)) ?_
    -- the House's count is one more
    generalize e27 : (h.1, h.2.1, mset h.2.2 t 9 (nI (zb w) + 1)) = h27
    have s27 : h27.2.1 = h.2.1 := by rw [← e27]
    have m27 : h27.2.2 = mset h.2.2 t 9 (nI (zb w) + 1) := by rw [← e27]
    have c27 : h27.1 = h.1 := by rw [← e27]
    have k27 : lk h27 := by rw [← e27]; exact lk_mset hk HR.1.1
    have n27 : h27.2.1.length = h.2.1.length := by rw [s27]
    refine wd_bo (e_nA (a := 4) (by decide) (by decide) (by rw [n27]; exact hn')) ?_
    rw [show (4 : Int32).toNatClampNeg = 4 from rfl]
    generalize e31 : grown h27 (100, 4, []) (fun _ => 0) = h31
    have s31 : h31.2.1 = h.2.1 ++ [(100, 4, [])] := by rw [← e31, ← s27]; rfl
    have k31 : lk h31 := by rw [← e31]; exact lk_gr k27 (by rw [n27]; exact hn') (fun j q hq => by simp at hq)
    have hnew : h31.2.1[h27.2.1.length]? = some (100, 4, []) := by rw [← e31]; exact gw_new
    have hge : 123 ≤ h27.2.1.length := lk_len k27
    have ho31 : h31.2.1[t]? = h.2.1[t]? := by rw [← e31]; exact (gw_old (by rw [n27]; exact tl)).trans (by rw [s27])
    have hm31 : ∀ c, c < h.2.1.length → h31.2.2 c = h27.2.2 c := fun c hc => by rw [← e31]; exact gw_mo (by rw [n27]; exact hc)
    refine wd_bo (e_dI (ho31.trans HR.ob) (by decide) (by decide)) ?_
    rw [hm31 t tl, m27, show mset h.2.2 t 9 (nI (zb w) + 1) t 2 = w 1 from (mset_j (by decide)).trans hI.2.2.1]
    refine wd_bo (e_sA hnew (by decide) hge) ?_
    refine wd_bo (e_sA hnew (by decide) hge) ?_
    refine wd_bo (e_sA hnew (by decide) hge) ?_
    refine wd_bo (e_sA hnew (by decide) hge) ?_
    dsimp only
    have hl31 : h31.2.1[p.1.2.2.1]? = some (103, 150, rs) := by rw [← e31]; exact (gw_old (by rw [n27]; exact ll)).trans (by rw [s27]; exact l1)
    have ez : (nI (zb w)).toNatClampNeg = zb w := nI_clamp (by omega)
    refine wd_bo (e_sQ (e1 := (100, 4, [])) hl31 hnew rfl (inb_nI (by omega) (by decide)) hlge (by rw [ez]; omega)) ?_
    rw [ez]
    dsimp only
    generalize eμ : mset (mset (mset (mset h31.2.2 h27.2.1.length (Int32.toNatClampNeg 0) (w 1)) h27.2.1.length (Int32.toNatClampNeg 1) a) h27.2.1.length (Int32.toNatClampNeg 2) c0) h27.2.1.length (Int32.toNatClampNeg 3) c1 = μ
    refine wd_ret ?_
    obtain ⟨n, hnn⟩ : ∃ n, n = h27.2.1.length := ⟨_, rfl⟩
    rw [← hnn] at eμ hnew hge ⊢
    have hnl : n = h.2.1.length := hnn.trans n27
    have μo : ∀ c, c ≠ n → μ c = h31.2.2 c := fun c hc => by rw [← eμ, mset_ne hc, mset_ne hc, mset_ne hc, mset_ne hc]
    have μl : ∀ c, c < h.2.1.length → μ c = mset h.2.2 t 9 (nI (zb w) + 1) c := fun c hc => by rw [μo c (by omega), hm31 c hc, m27]
    refine ⟨?_, fun j hj => (congrFun (μl t tl) j).trans (mset_j hj)⟩
    have μ0 : μ n 0 = w 1 := by rw [← eμ, mset_j (by decide), mset_j (by decide), mset_j (by decide)]; exact mset_at _ _ _ _
    have μ1 : μ n 1 = a := by rw [← eμ, mset_j (by decide), mset_j (by decide)]; exact mset_at _ _ _ _
    have μ2 : μ n 2 = c0 := by rw [← eμ, mset_j (by decide)]; exact mset_at _ _ _ _
    have μ3 : μ n 3 = c1 := by rw [← eμ]; exact mset_at _ _ _ _
    have kμ : lk (h31.1, h31.2.1, μ) := by
      rw [← eμ]
      exact lk_mset (h := (h31.1, h31.2.1, _)) (lk_mset (h := (h31.1, h31.2.1, _)) (lk_mset (h := (h31.1, h31.2.1, _)) (lk_mset k31 hge) hge) hge) hge
    have kF : lk (h31.1, h31.2.1.set p.1.2.2.1 (103, 150, rs.set (zb w) (some n)), μ) := lk_set kμ hlge (fun k q hq => by
      rcases getD_set_some hq with z | z
      · cases z
        exact len_of hnew
      · exact k31.2.2.1 _ _ hl31 k q z)
    have sh : ∀ c, c < h.2.1.length → c ≠ p.1.2.2.1 → (h31.2.1.set p.1.2.2.1 (103, 150, rs.set (zb w) (some n)))[c]? = h.2.1[c]? := fun c hc hne => by
      rw [List.getElem?_set, if_neg (fun e => hne e.symm), s31, List.getElem?_append_left hc]
    have shn : (h31.2.1.set p.1.2.2.1 (103, 150, rs.set (zb w) (some n)))[n]? = some (100, 4, []) := by
      rw [List.getElem?_set, if_neg (by omega)]
      exact hnew
    have shl : (h31.2.1.set p.1.2.2.1 (103, 150, rs.set (zb w) (some n)))[p.1.2.2.1]? = some (103, 150, rs.set (zb w) (some n)) := by
      rw [List.getElem?_set, if_pos rfl, if_pos (len_of hl31)]
    have hw : ∀ i, i ≠ 6 → i < 223 → nteS w a c0 c1 i = w i := fun i h1 h2 => by rw [ew, ud_n h1, ud_n (by omega), ud_n (by omega), ud_n (by omega), ud_n (by omega)]
    have hw6 : nteS w a c0 c1 6 = nI (zb w + 1) := by rw [ew, ud_s]
    have zb' : zb (nteS w a c0 c1) = zb w + 1 := by unfold zb; rw [hw6, nv_nI (by omega)]; rfl
    have zh' : zh (nteS w a c0 c1) = zh w := by unfold zh; rw [hw 37 (by decide) (by decide)]
    have zd' : zd (nteS w a c0 c1) = zd w := by unfold zd; rw [hw 38 (by decide) (by decide)]
    have zp' : zp (nteS w a c0 c1) = zp w := by unfold zp; rw [hw 42 (by decide) (by decide)]
    have zs' : zs (nteS w a c0 c1) = zs w := by unfold zs; rw [hw 41 (by decide) (by decide)]
    have hn' : hnL (nteS w a c0 c1) = hnL w := hnL_cg (hw 41 (by decide) (by decide)) (fun i h1 h2 => hw i (by omega) (by omega)) hz
    have HF := HR.book (h' := (h31.1, h31.2.1.set p.1.2.2.1 (103, 150, rs.set (zb w) (some n)), μ)) (w' := nteS w a c0 c1) (rl' := fun i => if i = zb w then n else p.2.2.2.1 i) B hz W0.lzp (sh t tl htl) (fun c e he h1 h2 => ⟨(sh c (len_of he) h2).trans he, (μl c (len_of he)).trans (mset_ne h1)⟩) hw (by
      have m1 : ∀ j, j ≠ 9 → μ t j = h.2.2 t j := fun j hj => by rw [μl t tl]; exact mset_j hj
      have hr : ∀ i, 105 ≤ i → i < 153 → nteS w a c0 c1 i = w i := fun i h1 h2 => hw i (by omega) (by omega)
      unfold HouI at hI ⊢
      dsimp only
      rw [m1 0 (by decide), m1 1 (by decide), m1 2 (by decide), m1 3 (by decide), m1 4 (by decide), m1 5 (by decide), m1 6 (by decide), m1 7 (by decide), m1 8 (by decide), m1 10 (by decide), m1 11 (by decide), m1 12 (by decide), m1 13 (by decide), m1 14 (by decide), zs', lst_cg hz hr, lst_cg hz hr, dbl_cg hz (fun i hi => hw i (by omega) (by omega)), hw 5 (by decide) (by decide), hw 0 (by decide) (by decide), hw 1 (by decide) (by decide), hw 2 (by decide) (by decide), hw 3 (by decide) (by decide), hw 4 (by decide) (by decide), hw 39 (by decide) (by decide), hw 37 (by decide) (by decide), hw 38 (by decide) (by decide), hw 41 (by decide) (by decide), hw 43 (by decide) (by decide), hw6, μl t tl, mset_at]
      exact ⟨hI.1, hI.2.1, hI.2.2.1, hI.2.2.2.1, hI.2.2.2.2.1, hI.2.2.2.2.2.1, hI.2.2.2.2.2.2.1, hI.2.2.2.2.2.2.2.1, hI.2.2.2.2.2.2.2.2.1, nI_1 _, hI.2.2.2.2.2.2.2.2.2.2⟩) (by
      rw [zb']
      refine ⟨⟨_, shl, by rw [List.length_set]; exact l2, by omega, fun i hi => ?_⟩, fun i hi => ?_⟩
      · by_cases e : i = zb w
        · subst e
          dsimp only
          rw [if_pos rfl, List.getD_eq_getElem?_getD, List.getElem?_set, if_pos rfl, if_pos (by omega)]
          rfl
        · dsimp only
          rw [if_neg e, List.getD_eq_getElem?_getD, List.getElem?_set, if_neg (fun z => e z.symm), ← List.getD_eq_getElem?_getD]
          exact l4 i (by omega)
      · by_cases e : i = zb w
        · subst e
          dsimp only
          rw [if_pos rfl]
          refine ⟨⟨_, shn⟩, fun c hc => ?_⟩
          have c4 : c = 0 ∨ c = 1 ∨ c = 2 ∨ c = 3 := by omega
          rcases c4 with rfl | rfl | rfl | rfl
          · rw [μ0, ew, ud_n (by omega), ud_n (by omega), ud_n (by omega), ud_n (by omega), Nat.add_zero, ud_s]
          · rw [μ1, ew, ud_n (by omega), ud_n (by omega), ud_n (by omega), ud_s]
          · rw [μ2, ew, ud_n (by omega), ud_n (by omega), ud_s]
          · rw [μ3, ew, ud_n (by omega), ud_s]
        · dsimp only
          rw [if_neg e]
          obtain ⟨⟨rs2, q1⟩, q2⟩ := l5 i (by omega)
          have ne1 := ne_of_tag q1 HR.ob (by decide)
          have ne2 := ne_of_tag q1 l1 (by decide)
          refine ⟨⟨rs2, (sh _ (len_of q1) ne2).trans q1⟩, fun c hc => ?_⟩
          rw [μl _ (len_of q1), mset_ne ne1, q2 c hc, ew, ud_n (by omega), ud_n (by omega), ud_n (by omega), ud_n (by omega), ud_n (by omega)])
    have lbo : ∀ c, c < h.2.1.length → (if c = n then ((0, 0, 0) : Nat × Nat × Nat) else lb c) = lb c := fun c hc => if_neg (by omega)
    refine ⟨_, fun c => if c = n then (0, 0, 0) else lb c, ⟨HF, ?_, kF, fun c hc => by
      dsimp only
      rw [if_neg (by omega)]
      exact hlb c hc⟩, lbo, ⟨?_, ?_, fun c hc hn => ?_⟩, ?_, ?_, rfl, rfl, rfl, rfl⟩
    · obtain ⟨b0, b1, b2, b3, b4, b5, b6, b7, b8, b9, b10, b11, b12⟩ := B
      have lR : ∀ {i m k : Nat} {r : Nat → Nat} {aa zz : Nat} {f : Nat → Nat → Int32}, RwH h aa m k r zz f → i < zz → r i < h.2.1.length := fun R hi => by
        obtain ⟨⟨rs, q⟩, -⟩ := R.2 _ hi
        exact len_of q
      have lA : ∀ {m k : Nat} {r : Nat → Nat} {aa zz : Nat} {f : Nat → Nat → Int32}, RwH h aa m k r zz f → aa < h.2.1.length := fun R => by
        obtain ⟨⟨rs, q, -⟩, -⟩ := R
        exact len_of q
      unfold HLb
      dsimp only
      rw [zh', zd', zb', zp', hn']
      refine ⟨(lbo _ tl).trans b0, (lbo _ (lA HR.man)).trans b1, (lbo _ (lA HR.dee)).trans b2, (lbo _ ll).trans b3, fun i hi => (lbo _ (lR HR.man hi)).trans (b4 i hi), fun i hi => (lbo _ (lR HR.dee hi)).trans (b5 i hi), fun i hi => ?_, fun i hi => ?_, fun i hi => ?_, ?_, ?_, ?_, fun r hr => ?_⟩
      · by_cases e : i = zb w
        · rw [if_pos e, if_pos rfl]
        · rw [if_neg e, lbo _ (lR HR.lin (by omega))]
          exact b6 i (by omega)
      · rw [lbo _ (lR HR.han hi)]; exact b7 i hi
      · rw [lbo _ (lR HR.pro hi)]; exact b8 i hi
      · rw [lbo _ (lA HR.han)]; exact b9
      · rw [lbo _ (lA HR.pro)]; exact b10
      · obtain ⟨⟨rs, q⟩, -⟩ := HR.bes
        rw [lbo _ (len_of q)]; exact b11
      · have hlw := HR.law
        rw [hr] at hlw
        cases dl with
        | none => exact hlw.elim
        | some dv =>
          obtain ⟨⟨rs, q⟩, -⟩ := hlw
          rw [lbo _ (len_of q)]
          exact b12 r hr
    · show h31.1 = h.1
      rw [← e31]
      exact c27
    · show h.2.1.length ≤ (h31.2.1.set _ _).length
      rw [List.length_set, s31, List.length_append]
      exact Nat.le_add_right _ _
    · have ht : c ≠ t := fun e => hn (by rw [e, B.1])
      have hl2 : c ≠ p.1.2.2.1 := fun e => hn (by rw [e, B.2.2.2.1])
      exact ⟨sh c hc hl2, (μl c hc).trans (mset_ne ht)⟩
    · show (h31.2.1.set _ _).length ≤ h.2.1.length + 1
      rw [List.length_set, s31, List.length_append]
      exact Nat.le_refl _
    · show ssz (h31.2.1.set p.1.2.2.1 (103, 150, rs.set (zb w) (some n))) ≤ _
      rw [ssz_set _ _ (103, 150, rs) (103, 150, rs.set (zb w) (some n)) hl31 rfl, s31, ssz_app]
      exact Nat.le_refl _
end NOTES
