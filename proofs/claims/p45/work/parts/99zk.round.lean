/-! one round of the law -/
section ROUNDH
variable {h h' h2 h1 : DS} {t N d hh c o u i k A n Lc b q C S r lo hi : Nat} {xs : Nat → Int32} {p pb : Plc} {w w' a w2 : Arr} {dl : Option (Nat → Int32)} {LN : List Lin} {v x s5 s4 : Int32} {lb lb' : Nat → Nat × Nat × Nat} {T : Nat → Nat} {Pp : Nat → Plc} {f : Nat → Arr} {Q : Int32 → DS → Prop} {K : DS → DA} {K994 : Nat → DS → DA} {X : (Nat × Int32 × Int32) → DS → DA} {m m1 m2 : Mem} {c0 s0 B : Nat}
theorem e_btw (x : Int32) (h1 : lo ≤ hi) (h2 : hi < 2 ^ 20) : ∃ z, lo ≤ z ∧ z ≤ hi ∧ ∀ N h, g_L_between N x (nI lo) (nI hi) h = some (nI z, h) := by
  have hm : ∃ m, m < 2 ^ 20 ∧ x &&& (1048575 : Int32) = nI m := by
    refine ⟨(x.toBitVec &&& 1048575#32).toNat, ?_, ?_⟩
    · rw [BitVec.toNat_and]
      exact Nat.lt_of_le_of_lt Nat.and_le_right (by decide)
    · apply Int32.toBitVec_inj.1
      show x.toBitVec &&& 1048575#32 = BitVec.ofNat 32 (x.toBitVec &&& 1048575#32).toNat
      rw [BitVec.ofNat_toNat, BitVec.setWidth_eq]
  obtain ⟨m, hm1, hm2⟩ := hm
  have hlt : m % (hi - lo + 1) < hi - lo + 1 := Nat.mod_lt _ (by omega)
  refine ⟨lo + m % (hi - lo + 1), by omega, by omega, fun N h => ?_⟩
  unfold g_L_between
  have e1 : nI hi - nI lo + (1 : Int32) = nI (hi - lo + 1) := by
    rw [pk_sub h1]
    exact nI_up _
  rw [e1, hm2]
  have e2 : irm (nI m) (nI (hi - lo + 1)) = nI (m % (hi - lo + 1)) := pk_rem (by omega) (by omega) (by omega)
  rw [e2, nI_add, decide_eq_true (show nI (hi - lo + 1) ≠ 0 from nI_ne (b := 0) (by omega) (by omega) (by decide))]
  rfl
theorem wd_btw {kk : Int32 → DS → DA} {a1 a2 : Int32} (e1 : a1 = nI lo) (e2 : a2 = nI hi) (h1 : lo ≤ hi) (h2 : hi < 2 ^ 20) (q : ∀ z, lo ≤ z → z ≤ hi → Wd (kk (nI z) h) Q) : Wd (bd3 (g_L_between N x a1 a2 h) kk) Q := by
  obtain ⟨z, z1, z2, z3⟩ := e_btw x h1 h2
  rw [e1, e2, z3]
  exact q z z1 z2
theorem wd_cell {kk : Int32 → DS → DA} {a1 : Int32} (e1 : a1 = nI i) (hi : i < 2 ^ 31) (hL : Lc < 2 ^ 31) (q : ∀ y, Wd (kk y h) Q) : Wd (bd3 (g_L_cell N Lc xs a1 h) kk) Q := by
  subst e1
  unfold g_L_cell
  by_cases z : Int32.ofNat Lc ≤ nI i
  · rw [if_pos z]
    exact q _
  · rw [if_neg z]
    have z : ¬ Lc ≤ i := fun y => z ((nI_leI hL hi).mpr y)
    rw [inb_nI (by omega) (by omega), chk_t]
    exact q _
/-- the class and the House t, without what is kept -/
def TI (LN : List Lin) (dl : Option (Nat → Int32)) (lb : Nat → Nat × Nat × Nat) (t : Nat) (p : Plc) (w : Arr) (h : DS) : Prop := HS lb h t p w dl ∧ PB p ∧ Inv h.1 ∧ h.1 124 = w ∧ Lw LN w ∧ h.1 123 16 = nI 0
def KpL (lb : Nat → Nat × Nat × Nat) (t : Nat) (h h' : DS) : Prop := h.2.1.length ≤ h'.2.1.length ∧ ∀ c, c < h.2.1.length → (lb c).1 ≠ t → h'.2.1[c]? = h.2.1[c]? ∧ (123 ≤ c → h'.2.2 c = h.2.2 c)
/-- what telling the texts does -/
def TxOK (N : Nat) (LN : List Lin) (dl : Option (Nat → Int32)) : Prop := ∀ lb t p w x h, TI LN dl lb t p w h → evB 200 w → csz h.2.1 + 3000 < 1000000 → Wd (g_L_texts N t x h) (fun v h' => v = 1 ∧ ∃ lb' p' w', TI LN dl lb' t p' w' h' ∧ h'.1 123 4 = nI 0 ∧ w' 1 = w 1 ∧ (∀ c, c < h.2.1.length → lb' c = lb c) ∧ KpL lb t h h' ∧ csz h'.2.1 ≤ csz h.2.1 + 1500 ∧ ssz h'.2.1 ≤ ssz h.2.1 + 60000)
theorem r_texts (hN : 20000 ≤ N) (hD : LawD LN dl) (hT : TxOK N LN dl) (I : CW LN dl B A lb t p w k T Pp f b pb h) (hB : B ≤ 200) (hn : csz h.2.1 + 3000 < 1000000) (hc : csz h.2.1 + 1501 ≤ c0) (hs : ssz h.2.1 + 60011 ≤ s0) (hX : ∀ t' k' h', RE LN dl B A c0 s0 t' k' h' → Wd (X (t', nI k', s5 + 1) h') Q) :
    Wd (bd3 (g_L_texts N t x h) fun v_871 h_871 => if v_871 = 0 then (some ((0 : Int32), h_871)) else (g_L_law_J917_41 N Lc xs A K994 X t 0 s5 b 0 h_871)) Q := by
  obtain ⟨⟨H, bp, i1, iw, L, PM, O, tp, Ps, ev⟩, -⟩ := I
  refine wd_bd3 (hT lb t p w x h ⟨H, bp, i1, iw, L, tp⟩ (ev.1.up hB) hn) ?_
  rintro v h2 ⟨rfl, lb', p', w', ⟨H', bp', i1', iw', L', tp'⟩, e4, ew1, hl, Kp, c2, s2⟩
  rw [if_neg (show ¬ (1 : Int32) = 0 by decide)]
  obtain ⟨⟨rs, rA, rl, -⟩, hA, lA, -⟩ := Ps
  have tge := H.1.1.1
  exact r_917n (k := 0) (T := T) (Pp := Pp) (f := f) hN hD ⟨H', bp', i1', iw', L', PaM.zero e4, ⟨by omega, fun i hi => absurd hi (by omega)⟩, tp', ⟨⟨rs, ((Kp.2 A (len_of rA) (by rw [lA]; omega)).1).trans rA, rl, fun i hi => absurd hi (by omega)⟩, hA, by rw [hl A (len_of rA)]; exact lA, fun i hi => absurd hi (by omega)⟩, ev.1.cg ew1, fun i hi => absurd hi (by omega)⟩ (by omega) (by omega) (by omega) hX
theorem RE.up {B' c1 s1 : Nat} (R : RE LN dl B A c0 s0 t k h) (h1 : B ≤ B') (h2 : c0 ≤ c1) (h3 : s0 ≤ s1) : RE LN dl B' A c1 s1 t k h := by
  obtain ⟨lb, p, w, T, Pp, f, ⟨g1, g2, g3, g4, g5, g6, g7, g8, g9, g10⟩, a, b⟩ := R
  exact ⟨lb, p, w, T, Pp, f, ⟨g1, g2, g3, g4, g5, g6, g7, g8, g9, g10.up h1⟩, by omega, by omega⟩
theorem irm12 (hr : r < 22) : (6 : Int32) + irm (nI r) 12 = nI (6 + r % 12) := by
  have : irm (nI r) (nI 12) = nI (r % 12) := pk_rem (by omega) (by decide) (by decide)
  rw [show (12 : Int32) = nI 12 from rfl, this]
  exact nI_add 6 _
theorem r_L41 (hN : 20000 ≤ N) (hD : LawD LN dl) (hT : TxOK N LN dl) (hL : Lc < 2 ^ 31) (I : WI LN dl B A lb t p w k T Pp f h) (hr : r < 22) (hB : B ≤ 100) (hn : csz h.2.1 + 8000 < 1000000)
    (hX : ∀ t' k' h', RE LN dl (B + 3) A (csz h.2.1 + 3200) (ssz h.2.1 + 62000) t' k' h' → Wd (X (t', nI k', nI r + 1) h') Q) :
    Wd (g_L_law_L41 N Lc xs A K994 X t (nI k) (nI r) h) Q := by
  have hX0 : ∀ t' k' h', RE LN dl B A (csz h.2.1 + 3200) (ssz h.2.1 + 62000) t' k' h' → Wd (X (t', nI k', nI r + 1) h') Q := fun t' k' h' R => hX t' k' h' (R.up (by omega) (Nat.le_refl _) (Nat.le_refl _))
  have W0 := I.good.1
  have lh := W0.lzh
  have ld := W0.lzd
  have H := I.1
  unfold g_L_law_L41
  rw [if_neg (show ¬ (22 : Int32) ≤ nI r from fun z => by
    have := (nI_leI (a := 22) (b := r) (by decide) (by omega)).mp z
    omega)]
  refine wd_cell (irm12 hr) (by omega) hL (fun y => ?_)
  refine wd_btw (lo := 0) (hi := 13) rfl rfl (by decide) (by decide) (fun kd _ hkd => ?_)
  refine wd_bo (hs_I H.1 (by decide) (by decide)) ?_
  rw [H.1.int.2.2.2.2.2.2.2.1, W0.h37]
  refine wd_btw (lo := 0) (hi := zh w) rfl rfl (by omega) (by omega) (fun hh _ hhh => ?_)
  refine wd_bo (hs_I H.1 (by decide) (by decide)) ?_
  rw [H.1.int.2.2.2.2.2.2.2.2.1, W0.h38]
  refine wd_btw (lo := 0) (hi := zd w) rfl rfl (by omega) (by omega) (fun d _ hd => ?_)
  refine r_copy hN I (by omega) (fun b lb1 pb h1 C1 c1 s1 => ?_)
  have H1 := C1.1.1
  refine wd_ite (fun k3 => ?_) (fun k3 => ?_)
  · have k3 := (nI_leI (a := 3) (b := kd) (by decide) (by omega)).mp k3
    refine wd_ite (fun k6 => ?_) (fun k6 => ?_)
    · have k6 := (nI_leI (a := 6) (b := kd) (by decide) (by omega)).mp k6
      refine wd_ite (fun e6 => ?_) (fun e6 => ?_)
      · refine wd_btw (lo := 0) (hi := 100) rfl rfl (by decide) (by decide) (fun q _ hq => ?_)
        refine wd_bo (hs_I H1.1 (by decide) (by decide)) ?_
        rw [H1.1.int.2.2.2.2.2.2.2.1, W0.h37]
        refine wd_ite (fun z => ?_) (fun z => ?_)
        · have z := (nI_leI (by omega) (by omega)).mp z
          exact r_358 hN hD C1 hhh hq (Or.inl (by omega)) (by omega) (by omega) (by omega) hX0
        · have z : ¬ zh w ≤ hh := fun y => z ((nI_leI (by omega) (by omega)).mpr y)
          refine wd_ite (fun z1 => ?_) (fun z1 => ?_)
          · have z1 := (nI_leI (b := 0) (by omega) (by decide)).mp z1
            exact r_358 hN hD C1 hhh hq (Or.inr (Or.inl (by omega))) (by omega) (by omega) (by omega) hX0
          · have z1 : ¬ q ≤ 0 := fun y => z1 ((nI_leI (b := 0) (by omega) (by decide)).mpr y)
            refine wd_ite (fun z2 => ?_) (fun z2 => ?_)
            · have z2 := (nI_leI (a := 100) (by decide) (by omega)).mp z2
              exact r_358 hN hD C1 hhh hq (Or.inr (Or.inr (by omega))) (by omega) (by omega) (by omega) hX0
            · have z2 : ¬ 100 ≤ q := fun y => z2 ((nI_leI (a := 100) (by decide) (by omega)).mpr y)
              exact r_359 hN hD C1 (by omega) (by omega) (by omega) (by omega) (by omega) (by omega) hX0
      · refine wd_ite (fun k9 => ?_) (fun k9 => ?_)
        · refine wd_ite (fun e9 => ?_) (fun e9 => ?_)
          · refine wd_btw (lo := 0) (hi := 6) rfl rfl (by decide) (by decide) (fun j _ hj => ?_)
            have key : ∀ top : Nat, top ≤ 1001 → ∀ z2, Wd (g_L_law_J646_41 N Lc xs A K994 X t (nI k) (nI r) (nI hh) (nI d) b 0 (nI j) (nI top) 0 z2 h1) Q := by
              intro top htop z2
              unfold g_L_law_J646_41
              refine wd_btw (lo := 0) (hi := top) rfl rfl (by omega) (by omega) (fun y2 _ hy2 => ?_)
              refine a_seven (F := fun h_690 => if nI j ≤ (3 : Int32) then (g_L_law_J706_41 N Lc xs A K994 X t (nI k) (nI r) (nI hh) (nI d) b 0 (nI j) (nI y2) h1.2.1.length (nI hh) h_690) else (g_L_law_J706_41 N Lc xs A K994 X t (nI k) (nI r) (nI hh) (nI d) b 0 (nI j) (nI y2) h1.2.1.length (nI d) h_690)) H1.2.2.1 (by omega) (fun h2 F k2 a2 v2 c2 s2 => ?_)
              have C2 := C1.fra F k2
              refine wd_ite (fun z => ?_) (fun z => ?_)
              · have z := (nI_leI (b := 3) (by omega) (by decide)).mp z
                exact r_706 hN hD hj (by omega) (by omega) (by rw [if_pos z]) a2 v2 C2 (by omega) (by omega) (by omega) hX0
              · have z : ¬ j ≤ 3 := fun y => z ((nI_leI (b := 3) (by omega) (by decide)).mpr y)
                exact r_706 hN hD hj (by omega) (by omega) (by rw [if_neg z]) a2 v2 C2 (by omega) (by omega) (by omega) hX0
            exact wd_ite (fun _ => key 1001 (by decide) _) (fun _ => wd_ite (fun _ => key 100 (by decide) _) (fun _ => key 10 (by decide) _))
          · refine wd_ite (fun e10 => ?_) (fun e10 => ?_)
            · refine wd_ite (fun _ => ?_) (fun _ => ?_)
              · exact r_texts hN hD hT C1 (by omega) (by omega) (by omega) (by omega) hX0
              · exact r_917n hN hD C1.1 (by omega) (by omega) (by omega) hX0
            · exact r_undo hN hD C1 (by omega) (by omega) (by omega) hX0
        · refine wd_ite (fun e7 => ?_) (fun e7 => ?_)
          · exact r_450 (g := true) hN hD C1 hhh (by omega) (by omega) (by omega) hX0
          · exact r_450 (g := false) hN hD C1 hhh (by omega) (by omega) (by omega) hX0
    · refine wd_bo (hs_I H1.1 (by decide) (by decide)) ?_
      rw [H1.1.int.2.2.2.2.2.2.2.2.1, W0.h38]
      refine wd_ite (fun z => ?_) (fun z => ?_)
      · have z := (nI_leI (by omega) (by omega)).mp z
        exact r_295 hN hD C1 hd (by omega) (by omega) (by omega) hX0 (Or.inl (by omega))
      · have z : ¬ zd w ≤ d := fun y => z ((nI_leI (by omega) (by omega)).mpr y)
        have hlt : d < zd w := by omega
        refine wd_bo (hs_I H1.1 (by decide) (by decide)) (wd_bo (hs_dee H1.1) (wd_bo (rw_Q H1.1.dee hlt (by decide)) (wd_bo (rw_A (c := 1) H1.1.dee hlt (by decide) (by decide)) ?_)))
        rw [H1.1.int.2.1]
        refine wd_ite (fun z2 => ?_) (fun z2 => ?_)
        · exact r_295 hN hD C1 hd (by omega) (by omega) (by omega) hX0 (Or.inr (Int32.not_lt.mpr z2))
        · exact r_277 hN hD C1 hlt (Int32.not_le.mp z2) (by omega) (by omega) (by omega) hX0
  · refine wd_btw (lo := 1) (hi := 3) rfl rfl (by decide) (by decide) (fun q q1 q3 => ?_)
    exact r_evs hN hD C1 hB q1 q3 (by omega) (by omega) (by omega) hX
end ROUNDH
