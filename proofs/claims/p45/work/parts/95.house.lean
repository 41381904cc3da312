/-! the law's House: what it holds of the row w -/
def HSh (man deed line hands prog bes : Nat) (law : Option Nat) : List (Option Nat) := [none, none, none, none, none, none, none, none, none, none, none, none, none, none, none, some man, some deed, some line, some hands, some prog, some bes, law, none, none, none]
/-- an array of n rows of k ints; the first z of them lie at r 0, r 1 .. and hold f -/
def RwH (h : DS) (a n k : Nat) (r : Nat → Nat) (z : Nat) (f : Nat → Nat → Int32) : Prop := (∃ rs, h.2.1[a]? = some (103, n, rs) ∧ rs.length = n ∧ z ≤ n ∧ ∀ i, i < z → rs.getD i none = some (r i)) ∧ ∀ i, i < z → (∃ rs, h.2.1[r i]? = some (100, k, rs)) ∧ ∀ c, c < k → h.2.2 (r i) c = f i c
def dblS (w : Arr) : Nat → Nat
  | 0 => 0
  | h + 1 => dblS w h + (if cnt w h = 2 then 2 ^ h else 0)
/-- the rules that say 'hands', in their order -/
def hnL (w : Arr) : List Nat := (List.range (zs w)).filter (fun i => decide (w (105 + 3 * i) = nI 7))
def lwR (h : DS) : Option Nat → Option (Nat → Int32) → Prop
  | none, none => True
  | some r, some dv => (∃ rs, h.2.1[r]? = some (100, 7, rs)) ∧ ∀ j, j < 7 → h.2.2 r j = dv j
  | _, _ => False
/-- THE LAW as the House has it -/
def LawD (LN : List Lin) (dl : Option (Nat → Int32)) : Prop := match dl with
  | none => LN = []
  | some dv => (∀ fa, sayL fa 0 LN = some (fa 6 * dv 0 - fa 8 - fa 10)) ∧ (∀ fa, sayL fa 2 LN = some (if dv 1 < fa 8 then fa 7 / 4 + 1 else dv 2 + fa 6)) ∧
    ∀ fa, sayL fa 1 LN = some (if dv 3 < fa 3 ∧ ¬ (dv 4 < fa 4 ∨ 3 < fa 8) then dv 5 + fa 9 * 150 - fa 7 * 5 else if 1 < fa 9 ∨ 20 < fa 5 then dv 6 + fa 5 * 4 - fa 1 else fa 3 * 60 - fa 10 * 20 + fa 2)
def HouI (h : DS) (t : Nat) (w : Arr) : Prop := h.2.2 t 0 = w 5 ∧ h.2.2 t 1 = w 0 ∧ h.2.2 t 2 = w 1 ∧ h.2.2 t 3 = w 2 ∧ h.2.2 t 4 = w 3 ∧ h.2.2 t 5 = w 4 ∧ h.2.2 t 6 = w 39 ∧ h.2.2 t 7 = w 37 ∧ h.2.2 t 8 = w 38 ∧ h.2.2 t 9 = w 6 ∧ h.2.2 t 10 = lstS w 8 (nI 9) (zs w) ∧ h.2.2 t 11 = lstS w 10 (nI 300) (zs w) ∧ h.2.2 t 12 = nI (dblS w 12) ∧ h.2.2 t 13 = w 41 ∧ h.2.2 t 14 = w 43
/-- where a House's parts lie: man, deed, line, hands, programme, beside, law; the rows of each -/
abbrev Plc : Type := (Nat × Nat × Nat × Nat × Nat × Nat × Option Nat) × (Nat → Nat) × (Nat → Nat) × (Nat → Nat) × (Nat → Nat) × (Nat → Nat)
def HouR (h : DS) (t : Nat) (p : Plc) (w : Arr) (dl : Option (Nat → Int32)) : Prop :=
  (123 ≤ t ∧ h.2.1[t]? = some (12, 25, HSh p.1.1 p.1.2.1 p.1.2.2.1 p.1.2.2.2.1 p.1.2.2.2.2.1 p.1.2.2.2.2.2.1 p.1.2.2.2.2.2.2)) ∧ HouI h t w ∧
  RwH h p.1.1 12 6 p.2.1 (zh w) (heaV w) ∧ RwH h p.1.2.1 8 5 p.2.2.1 (zd w) (deeV w) ∧ RwH h p.1.2.2.1 150 4 p.2.2.2.1 (zb w) (fun i c => w (223 + 4 * i + c)) ∧
  RwH h p.1.2.2.2.1 (hnL w).length 2 p.2.2.2.2.1 (hnL w).length (fun i c => w (105 + 3 * (hnL w).getD i 0 + 1 + c)) ∧ RwH h p.1.2.2.2.2.1 (zp w) 2 p.2.2.2.2.2 (zp w) (fun i c => w (153 + 2 * i + c)) ∧
  ((∃ rs, h.2.1[p.1.2.2.2.2.2.1]? = some (100, 12, rs)) ∧ ∀ k, k < 12 → h.2.2 p.1.2.2.2.2.2.1 k = w (185 + k)) ∧ lwR h p.1.2.2.2.2.2.2 dl
section HOUSE
variable {h : DS} {t N d hh b : Nat} {p : Plc} {w : Arr} {dl : Option (Nat → Int32)} {LN : List Lin} {v : Int32}
theorem HouR.ob (H : HouR h t p w dl) : h.2.1[t]? = some (12, 25, HSh p.1.1 p.1.2.1 p.1.2.2.1 p.1.2.2.2.1 p.1.2.2.2.2.1 p.1.2.2.2.2.2.1 p.1.2.2.2.2.2.2) := H.1.2
theorem HouR.int (H : HouR h t p w dl) : HouI h t w := H.2.1
theorem HouR.man (H : HouR h t p w dl) : RwH h p.1.1 12 6 p.2.1 (zh w) (heaV w) := H.2.2.1
theorem HouR.dee (H : HouR h t p w dl) : RwH h p.1.2.1 8 5 p.2.2.1 (zd w) (deeV w) := H.2.2.2.1
theorem HouR.lin (H : HouR h t p w dl) : RwH h p.1.2.2.1 150 4 p.2.2.2.1 (zb w) (fun i c => w (223 + 4 * i + c)) := H.2.2.2.2.1
theorem HouR.han (H : HouR h t p w dl) : RwH h p.1.2.2.2.1 (hnL w).length 2 p.2.2.2.2.1 (hnL w).length (fun i c => w (105 + 3 * (hnL w).getD i 0 + 1 + c)) := H.2.2.2.2.2.1
theorem HouR.pro (H : HouR h t p w dl) : RwH h p.1.2.2.2.2.1 (zp w) 2 p.2.2.2.2.2 (zp w) (fun i c => w (153 + 2 * i + c)) := H.2.2.2.2.2.2.1
theorem HouR.bes (H : HouR h t p w dl) : (∃ rs, h.2.1[p.1.2.2.2.2.2.1]? = some (100, 12, rs)) ∧ ∀ k, k < 12 → h.2.2 p.1.2.2.2.2.2.1 k = w (185 + k) := H.2.2.2.2.2.2.2.1
theorem HouR.law (H : HouR h t p w dl) : lwR h p.1.2.2.2.2.2.2 dl := H.2.2.2.2.2.2.2.2
/-! reading a House -/
theorem hs_I (H : HouR h t p w dl) {j : Nat} (hj : j < 25) (hr : isR 12 j = false) : dI h t 12 j = some (h.2.2 t j) := e_dI H.ob hj hr
theorem hs_R (H : HouR h t p w dl) {j q : Nat} (hj : j < 25) (hr : isR 12 j = true) (hq : (HSh p.1.1 p.1.2.1 p.1.2.2.1 p.1.2.2.2.1 p.1.2.2.2.2.1 p.1.2.2.2.2.2.1 p.1.2.2.2.2.2.2).getD j none = some q) : nn (dR h t 12 j) = some q := e_nn ((e_dR H.ob hj hr).trans (by rw [hq]))
theorem hs_man (H : HouR h t p w dl) : nn (dR h t 12 15) = some p.1.1 := hs_R H (by decide) (by decide) rfl
theorem hs_dee (H : HouR h t p w dl) : nn (dR h t 12 16) = some p.1.2.1 := hs_R H (by decide) (by decide) rfl
theorem hs_lin (H : HouR h t p w dl) : nn (dR h t 12 17) = some p.1.2.2.1 := hs_R H (by decide) (by decide) rfl
theorem hs_han (H : HouR h t p w dl) : nn (dR h t 12 18) = some p.1.2.2.2.1 := hs_R H (by decide) (by decide) rfl
theorem hs_pro (H : HouR h t p w dl) : nn (dR h t 12 19) = some p.1.2.2.2.2.1 := hs_R H (by decide) (by decide) rfl
theorem hs_bes (H : HouR h t p w dl) : nn (dR h t 12 20) = some p.1.2.2.2.2.2.1 := hs_R H (by decide) (by decide) rfl
theorem hs_law (H : HouR h t p w dl) : dR h t 12 21 = some p.1.2.2.2.2.2.2 := e_dR H.ob (by decide) (by decide)
theorem rw_Q {a n k z i : Nat} {r : Nat → Nat} {f : Nat → Nat → Int32} (R : RwH h a n k r z f) (hi : i < z) (hn : n < 2 ^ 31) : lQ h 103 a (nI i) = some (r i) := by
  obtain ⟨⟨rs, e1, e2, e3, e4⟩, -⟩ := R
  exact e_lQ e1 (inb_nI (by omega) (Nat.le_of_lt hn)) (by rw [nI_clamp (by omega)]; exact e4 i hi)
theorem rw_A {a n k z i c : Nat} {r : Nat → Nat} {f : Nat → Nat → Int32} (R : RwH h a n k r z f) (hi : i < z) (hc : c < k) (hk : k < 2 ^ 31) : lA h 100 (r i) (nI c) = some (f i c) := by
  obtain ⟨-, R⟩ := R
  obtain ⟨⟨rs, e1⟩, e2⟩ := R i hi
  rw [e_lA e1 (inb_nI hc (Nat.le_of_lt hk)), nI_clamp (by omega), e2 c hc]
/-! held, loud, wears -/
theorem held_is (hb : b < 2 ^ 31) : (if (0 : Int32) < (if v < nI b then v else nI b) then (if v < nI b then v else nI b) else 0) = nI (clm b v) := by
  have hbI := nI_toInt hb
  have z0 : (0 : Int32).toInt = 0 := rfl
  have vlt := Int32.toInt_lt v
  unfold clm
  by_cases q : v < nI b
  · rw [if_pos q]
    have q' := Int32.lt_iff_toInt_lt.mp q
    by_cases q0 : (0 : Int32) < v
    · rw [if_pos q0]
      have q0' := Int32.lt_iff_toInt_lt.mp q0
      rw [Nat.min_eq_right (by omega)]
      apply Int32.toInt_inj.mp
      rw [nI_toInt (by omega)]
      omega
    · rw [if_neg q0]
      have q0' : ¬ (0 : Int32).toInt < v.toInt := fun z => q0 (Int32.lt_iff_toInt_lt.mpr z)
      rw [show v.toInt.toNat = 0 by omega, Nat.min_eq_right (by omega)]
      rfl
  · rw [if_neg q]
    have q' : ¬ v.toInt < (nI b).toInt := fun z => q (Int32.lt_iff_toInt_lt.mpr z)
    rw [Nat.min_eq_left (by omega)]
    by_cases q0 : (0 : Int32) < nI b
    · rw [if_pos q0]
    · rw [if_neg q0]
      have q0' : ¬ (0 : Int32).toInt < (nI b).toInt := fun z => q0 (Int32.lt_iff_toInt_lt.mpr z)
      rw [show b = 0 by omega]
      rfl
theorem e_held {z : Int32} (hb : b < 2 ^ 31) (hz : z = nI b) : g_L_held N v 0 z h = some (nI (clm b v), h) := by
  subst hz
  unfold g_L_held
  exact congrArg (fun x => some (x, h)) (held_is hb)
theorem wd_held {z : Int32} {k : Int32 → DS → DA} {Q : Int32 → DS → Prop} (hb : b < 2 ^ 31) (hz : z = nI b) (q : Wd (k (nI (clm b v)) h) Q) : Wd (bd3 (g_L_held N v 0 z h) k) Q := by
  rw [e_held hb hz]; exact q
theorem h_loud (H : HouR h t p w dl) (hd : d < zd w) (hD : LawD LN dl) : Wd (g_X12_loud N t (nI d) h) (fun v h' => v = nI (loudS LN w d) ∧ h' = h) := by
  have hl := H.law
  unfold g_X12_loud
  refine wd_bo (hs_law H) ?_
  cases e : p.1.2.2.2.2.2.2 with
  | none =>
    rw [e] at hl
    cases dl with
    | some dv => exact hl.elim
    | none =>
      refine wd_bo (hs_dee H) (wd_bo (rw_Q H.dee hd (by decide)) (wd_bo (rw_A (c := 0) H.dee hd (by decide) (by decide)) (wd_held (b := 99) (by decide) rfl (wd_ret ⟨?_, rfl⟩))))
      rw [show LN = [] from hD]
      rfl
  | some r =>
    rw [e] at hl
    cases dl with
    | none => exact hl.elim
    | some dv =>
      obtain ⟨⟨rs, l1⟩, l2⟩ := hl
      have hr : nn (dR h t 12 21) = some r := e_nn ((hs_law H).trans (by rw [e]))
      have hI := H.int
      refine wd_bo (hs_dee H) (wd_bo (rw_Q H.dee hd (by decide)) (wd_bo (rw_A (c := 0) H.dee hd (by decide) (by decide)) (wd_bo hr (wd_bo (e_lA l1 (i := 0) (by decide)) (wd_bo (hs_I H (by decide) (by decide)) (wd_bo (hs_I H (by decide) (by decide)) (wd_held (b := 99) (by decide) rfl (wd_ret ⟨?_, rfl⟩))))))))
      unfold loudS sayV
      rw [hD.1]
      refine congrArg (fun x => nI (clm 99 x)) ?_
      rw [show h.2.2 r (0 : Int32).toNatClampNeg = dv 0 from l2 0 (by decide), hI.2.1, hI.2.2.2.2.2.1]
      rfl
theorem h_wears (H : HouR h t p w dl) (hd : d < zd w) (hD : LawD LN dl) : Wd (g_X12_wears N t (nI d) h) (fun v h' => v = nI (wearS LN w d) ∧ h' = h) := by
  have hl := H.law
  unfold g_X12_wears
  refine wd_bo (hs_law H) ?_
  cases e : p.1.2.2.2.2.2.2 with
  | none =>
    rw [e] at hl
    cases dl with
    | some dv => exact hl.elim
    | none =>
      refine wd_ret ⟨?_, rfl⟩
      rw [show LN = [] from hD]
      rfl
  | some r =>
    rw [e] at hl
    cases dl with
    | none => exact hl.elim
    | some dv =>
      obtain ⟨⟨rs, l1⟩, l2⟩ := hl
      have hr : nn (dR h t 12 21) = some r := e_nn ((hs_law H).trans (by rw [e]))
      have hI := H.int
      refine wd_bo (hs_I H (by decide) (by decide)) (wd_bo hr (wd_bo (e_lA l1 (i := 1) (by decide)) ?_))
      rw [show h.2.2 r (1 : Int32).toNatClampNeg = dv 1 from l2 1 (by decide), hI.2.2.2.2.2.1]
      unfold wearS sayV
      rw [hD.2.1]
      refine wd_ite (fun q => ?_) (fun q => ?_)
      · refine wd_bo hr (wd_bo (e_lA l1 (i := 2) (by decide)) (wd_bo (hs_dee H) (wd_bo (rw_Q H.dee hd (by decide)) (wd_bo (rw_A (c := 0) H.dee hd (by decide) (by decide)) (wd_held (b := 99) (by decide) rfl (wd_ret ⟨?_, rfl⟩))))))
        rw [show h.2.2 r (2 : Int32).toNatClampNeg = dv 2 from l2 2 (by decide)]
        refine congrArg (fun x => nI (clm 99 x)) ?_
        exact (if_neg (show ¬ dv 1 < facD w d 8 from Int32.not_lt.mpr q)).symm
      · refine wd_bo (hs_dee H) (wd_bo (rw_Q H.dee hd (by decide)) (wd_bo (rw_A (c := 3) H.dee hd (by decide) (by decide)) (wd_held (b := 99) (by decide) rfl (wd_ret ⟨?_, rfl⟩))))
        refine congrArg (fun x => nI (clm 99 x)) ?_
        exact (if_pos (show dv 1 < facD w d 8 from Int32.not_le.mp q)).symm
theorem h_clapJ {r : Nat} {dv : Nat → Int32} {rs : List (Option Nat)} (H : HouR h t p w dl) (hd : hh < zh w) (l1 : h.2.1[r]? = some (100, 7, rs)) (l2 : ∀ j, j < 7 → h.2.2 r j = dv j) : Wd (g_X12_clap_J95 N t (nI hh) (nI d) (nI b) (p.2.1 hh) r h) (fun v h' => v = nI (clm 1000 (if 1 < nI b ∨ 20 < w (9 + hh) then dv 6 + w (9 + hh) * 4 - nI hh else w (57 + hh) * 60 - w 0 / nI 60 * 20 + w (45 + hh))) ∧ h' = h) := by
  have hI := H.int
  have J : ∀ c : Prop, c → ∀ [Decidable c] (y : Int32), Wd (g_X12_clap_J109 N t (nI hh) (nI d) (nI b) (p.2.1 hh) r h) (fun v h' => v = nI (clm 1000 (if c then dv 6 + w (9 + hh) * 4 - nI hh else y)) ∧ h' = h) := by
    intro c hc _ y
    unfold g_X12_clap_J109
    refine wd_bo (e_lA l1 (i := 6) (by decide)) (wd_bo (rw_A (c := 5) H.man hd (by decide) (by decide)) (wd_held (b := 1000) (by decide) rfl (wd_ret ⟨?_, rfl⟩)))
    rw [if_pos hc, show h.2.2 r (6 : Int32).toNatClampNeg = dv 6 from l2 6 (by decide)]
    rfl
  unfold g_X12_clap_J95
  refine wd_ite (fun q => J _ (Or.inl q) _) (fun q => ?_)
  refine wd_bo (rw_A (c := 5) H.man hd (by decide) (by decide)) ?_
  refine wd_ite (fun q2 => ?_) (fun q2 => J _ (Or.inr (Int32.not_le.mp q2)) _)
  refine wd_bo (rw_A (c := 1) H.man hd (by decide) (by decide)) (wd_bo (hs_I H (by decide) (by decide)) (wd_bo (rw_A (c := 0) H.man hd (by decide) (by decide)) (wd_held (b := 1000) (by decide) rfl (wd_ret ⟨?_, rfl⟩))))
  rw [if_neg (fun z => z.elim q (fun z => absurd q2 (Int32.not_le.mpr z))), hI.2.1]
  rfl
theorem h_clap (H : HouR h t p w dl) (hd : hh < zh w) (hk : d < zd w) (hD : LawD LN dl) : Wd (g_X12_clap N t (nI hh) (nI d) (nI b) h) (fun v h' => v = nI (clapS LN w hh d b) ∧ h' = h) := by
  have hl := H.law
  unfold g_X12_clap
  refine wd_bo (hs_man H) (wd_bo (rw_Q H.man hd (by decide)) (wd_bo (hs_law H) ?_))
  cases e : p.1.2.2.2.2.2.2 with
  | none =>
    rw [e] at hl
    cases dl with
    | some dv => exact hl.elim
    | none =>
      refine wd_bo (rw_A (c := 1) H.man hd (by decide) (by decide)) (wd_held (b := 1000) (by decide) rfl (wd_ret ⟨?_, rfl⟩))
      rw [show LN = [] from hD]
      rfl
  | some r =>
    rw [e] at hl
    cases dl with
    | none => exact hl.elim
    | some dv =>
      obtain ⟨⟨rs, l1⟩, l2⟩ := hl
      have hI := H.int
      have key : clapS LN w hh d b = clm 1000 (if dv 3 < w (57 + hh) ∧ ¬ (dv 4 < w (69 + hh) ∨ 3 < w 4) then dv 5 + nI b * 150 - w (21 + d) * 5 else if 1 < nI b ∨ 20 < w (9 + hh) then dv 6 + w (9 + hh) * 4 - nI hh else w (57 + hh) * 60 - w 0 / nI 60 * 20 + w (45 + hh)) := by
        unfold clapS clapF sayV
        rw [hD.2.2]
        rfl
      rw [key]
      have J : ∀ c : Prop, ¬ c → ∀ [Decidable c] (y : Int32), Wd (g_X12_clap_J95 N t (nI hh) (nI d) (nI b) (p.2.1 hh) r h) (fun v h' => v = nI (clm 1000 (if c then y else if 1 < nI b ∨ 20 < w (9 + hh) then dv 6 + w (9 + hh) * 4 - nI hh else w (57 + hh) * 60 - w 0 / nI 60 * 20 + w (45 + hh))) ∧ h' = h) := by
        intro c hc _ y
        rw [if_neg hc]
        exact h_clapJ H hd l1 l2
      refine wd_bo (rw_A (c := 1) H.man hd (by decide) (by decide)) (wd_bo (e_lA l1 (i := 3) (by decide)) ?_)
      rw [show h.2.2 r (3 : Int32).toNatClampNeg = dv 3 from l2 3 (by decide)]
      refine wd_ite (fun q => J _ (fun z => absurd q (Int32.not_le.mpr z.1)) _) (fun q => ?_)
      refine wd_bo (rw_A (c := 2) H.man hd (by decide) (by decide)) (wd_bo (e_lA l1 (i := 4) (by decide)) ?_)
      rw [show h.2.2 r (4 : Int32).toNatClampNeg = dv 4 from l2 4 (by decide)]
      refine wd_ite (fun q2 => J _ (fun z => z.2 (Or.inl q2)) _) (fun q2 => ?_)
      refine wd_bo (hs_I H (by decide) (by decide)) ?_
      rw [hI.2.2.2.2.2.1]
      refine wd_ite (fun q3 => J _ (fun z => z.2 (Or.inr q3)) _) (fun q3 => ?_)
      refine wd_bo (e_lA l1 (i := 5) (by decide)) (wd_bo (hs_dee H) (wd_bo (rw_Q H.dee hk (by decide)) (wd_bo (rw_A (c := 3) H.dee hk (by decide) (by decide)) (wd_held (b := 1000) (by decide) rfl (wd_ret ⟨?_, rfl⟩)))))
      rw [if_pos ⟨Int32.not_le.mp q, fun z => z.elim q2 q3⟩, show h.2.2 r (5 : Int32).toNatClampNeg = dv 5 from l2 5 (by decide)]
      rfl
end HOUSE
