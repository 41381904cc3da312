/-! texts that are made: a StringBuilder, a String -/
section STRH
variable {h h' h1 h2 : DS} {N B V V' cap S n c k j need : Nat} {s s1 s2 : List Nat} {Q : Int32 → DS → Prop} {a : Int32} {E E' : Nat → Prop} {m : Mem}
def Asc (s : List Nat) : Prop := ∀ b ∈ s, b < 128
theorem Asc.at (A : Asc s) : s.getD j 0 < 128 := by
  rw [List.getD_eq_getElem?_getD]
  cases e : s[j]? with
  | none => exact (by decide : (0 : Nat) < 128)
  | some b => exact A b (List.mem_of_getElem? e)
/-- all cells that were there, but those of E, are as they were -/
def FrE (E : Nat → Prop) (h h' : DS) : Prop := h'.1 = h.1 ∧ h.2.1.length ≤ h'.2.1.length ∧ ∀ c, c < h.2.1.length → ¬ E c → h'.2.1[c]? = h.2.1[c]? ∧ h'.2.2 c = h.2.2 c
theorem FrE.rf : FrE E h h := ⟨rfl, Nat.le_refl _, fun _ _ _ => ⟨rfl, rfl⟩⟩
theorem FrE.tr (a : FrE E h h') (q : FrE E' h' h2) (hE : ∀ c, c < h.2.1.length → ¬ E c → ¬ E' c) : FrE E h h2 := ⟨q.1.trans a.1, Nat.le_trans a.2.1 q.2.1, fun c hc he => ⟨(q.2.2 c (Nat.lt_of_lt_of_le hc a.2.1) (hE c hc he)).1.trans (a.2.2 c hc he).1, (q.2.2 c (Nat.lt_of_lt_of_le hc a.2.1) (hE c hc he)).2.trans (a.2.2 c hc he).2⟩⟩
theorem FrE.up (a : FrE E h h') (hE : ∀ c, c < h.2.1.length → ¬ E' c → ¬ E c) : FrE E' h h' := ⟨a.1, a.2.1, fun c hc he => a.2.2 c hc (hE c hc he)⟩
theorem FrA.fre (a : FrA h h') : FrE E h h' := ⟨a.1, a.2.1, fun c hc _ => a.2.2 c hc⟩
theorem FrE.fra (a : FrE E h h') (hE : ∀ c, c < h.2.1.length → ¬ E c) : FrA h h' := ⟨a.1, a.2.1, fun c hc => a.2.2 c hc (hE c hc)⟩
/-- the String S reads s -/
def StA (h : DS) (S : Nat) (s : List Nat) : Prop := strB h S = true ∧ bC h S = some 0 ∧ ∃ V, bV h S = some V ∧ bN h V = some s.length ∧ ∀ j, j < s.length → bF h V j = nI (s.getD j 0)
def StS (h : DS) (B S : Nat) (s : List Nat) : Prop := ∀ h', FrE (fun c => c = B) h h' → StA h' S s
def litL (i : Nat) : List Nat := ((lwByt.getD i []).map fun x => x.toInt.toNat)
theorem lit_ok : (List.range lwN).all (fun i => decide ((litL i).length = lwLen.getD i 0) && (List.range (litL i).length).all (fun j => decide ((lwByt.getD i []).getD j 0 = nI ((litL i).getD j 0))) && (litL i).all fun b => decide (b < 128)) = true := by decide +kernel
theorem lit_at {i : Nat} (hi : i < lwN) : (litL i).length = lwLen.getD i 0 ∧ (∀ j, j < (litL i).length → (lwByt.getD i []).getD j 0 = nI ((litL i).getD j 0)) ∧ Asc (litL i) := by
  have q := List.all_eq_true.mp lit_ok i (List.mem_range.mpr hi)
  rw [Bool.and_eq_true, Bool.and_eq_true, decide_eq_true_eq] at q
  exact ⟨q.1.1, fun j hj => of_decide_eq_true (List.all_eq_true.mp q.1.2 j (List.mem_range.mpr hj)), fun b hb => of_decide_eq_true (List.all_eq_true.mp q.2 b hb)⟩
theorem st_lit {i : Nat} (hi : i < lwN) : StA h (1000200 + i) (litL i) := by
  have l18 : lwN = 18 := rfl
  obtain ⟨e1, e2, -⟩ := lit_at hi
  have c1 : 1000200 ≤ 1000200 + i ∧ 1000200 + i < 1000200 + lwN := by omega
  have c2 : 1000300 ≤ 1000200 + i + 100 ∧ 1000200 + i + 100 < 1000300 + lwN := by omega
  refine ⟨?_, ?_, 1000200 + i + 100, ?_, ?_, fun j hj => ?_⟩
  · unfold strB
    rw [if_neg (by omega)]
    exact decide_eq_true c1
  · unfold bC
    rw [if_neg (by omega), if_pos c1]
  · unfold bV
    rw [if_neg (by omega), if_pos c1]
  · unfold bN
    rw [if_neg (by omega), if_pos c2, show 1000200 + i + 100 - 1000300 = i by omega, e1]
  · unfold bF
    rw [if_neg (by omega), show 1000200 + i + 100 - 1000300 = i by omega]
    exact e2 j hj
theorem sts_lit {i : Nat} (hi : i < lwN) : StS h B (1000200 + i) (litL i) := fun _ _ => st_lit hi
/-- a String that was made -/
def StM (h : DS) (S V : Nat) (s : List Nat) : Prop := h.2.1[S]? = some (14, 4, [some V, none, none, none]) ∧ h.2.2 S 1 = 0 ∧ (∃ rs, h.2.1[V]? = some (102, s.length, rs)) ∧ ∀ j, j < s.length → h.2.2 V j = nI (s.getD j 0)
theorem StM.stA (H : StM h S V s) (hl : h.2.1.length < 1000000) : StA h S s := by
  obtain ⟨e1, e2, ⟨rs, e3⟩, e4⟩ := H
  have l1 := len_of e1
  have l2 := len_of e3
  refine ⟨?_, ?_, V, ?_, ?_, fun j hj => ?_⟩
  · unfold strB
    rw [if_pos (by omega)]
    exact e_isT e1
  · unfold bC
    rw [if_pos (by omega), e_dI e1 (by decide) (by decide), e2]
  · unfold bV
    rw [if_pos (by omega)]
    exact e_nn (e_dR e1 (by decide) (by decide))
  · unfold bN
    rw [if_pos (by omega)]
    exact e_aN e3
  · unfold bF
    rw [if_pos (by omega)]
    exact e4 j hj
theorem StM.fre (H : StM h S V s) (F : FrE E h h') (hS : ¬ E S) (hV : ¬ E V) : StM h' S V s := by
  obtain ⟨e1, e2, ⟨rs, e3⟩, e4⟩ := H
  obtain ⟨a1, a2⟩ := F.2.2 S (len_of e1) hS
  obtain ⟨b1, b2⟩ := F.2.2 V (len_of e3) hV
  exact ⟨a1.trans e1, by rw [a2]; exact e2, ⟨rs, b1.trans e3⟩, fun j hj => by rw [b2]; exact e4 j hj⟩
/-- a StringBuilder B over the bytes V that reads s -/
def SbV (h : DS) (B V cap : Nat) (s : List Nat) : Prop := (123 ≤ B ∧ 123 ≤ V) ∧ h.2.1[B]? = some (13, 4, [some V, none, none, none]) ∧ h.2.2 B 1 = 0 ∧ h.2.2 B 3 = nI s.length ∧ (∃ rs, h.2.1[V]? = some (102, cap, rs)) ∧ s.length ≤ cap ∧ cap ≤ 2000 ∧ (∀ j, j < s.length → h.2.2 V j = nI (s.getD j 0)) ∧ ∀ j, ∃ b, b < 128 ∧ h.2.2 V j = nI b
theorem SbV.fre (H : SbV h B V cap s) (F : FrE E h h') (hB : ¬ E B) (hV : ¬ E V) : SbV h' B V cap s := by
  obtain ⟨g, e1, e2, e3, ⟨rs, e4⟩, e5, e6, e7, e8⟩ := H
  obtain ⟨a1, a2⟩ := F.2.2 B (len_of e1) hB
  obtain ⟨b1, b2⟩ := F.2.2 V (len_of e4) hV
  exact ⟨g, a1.trans e1, by rw [a2]; exact e2, by rw [a2]; exact e3, ⟨rs, b1.trans e4⟩, e5, e6, fun j hj => by rw [b2]; exact e7 j hj, fun j => by rw [b2]; exact e8 j⟩
theorem fits128 {b : Nat} (hb : b < 128) : fits .byte (.int (nI b)) = true := by
  have h1 : (List.range 128).all (fun b => fits .byte (.int (nI b))) = true := by decide +kernel
  exact List.all_eq_true.mp h1 b (List.mem_range.mpr hb)
theorem shl0 (x : Int32) : x <<< ((0 : Int32) &&& 31) = x := by
  rw [show (0 : Int32) &&& 31 = 0 by decide]
  exact Int32.shiftLeft_zero
theorem shr0 (x : Int32) : x >>> ((0 : Int32) &&& 31) = x := by
  rw [show (0 : Int32) &&& 31 = 0 by decide]
  exact Int32.shiftRight_zero
theorem e_bN (hs : ∃ rs, h.2.1[V]? = some (102, cap, rs)) (hl : h.2.1.length < 1000000) : bN h V = some cap := by
  obtain ⟨rs, e⟩ := hs
  have := len_of e
  unfold bN
  rw [if_pos (by omega)]
  exact e_aN e
theorem e_bF (hV : V < 1000000) : bF h V = h.2.2 V := if_pos hV
theorem e_bo {α β : Type} (a : α) (f : α → Option β) : bo (some a) f = f a := rfl
theorem e_bd3 (v : Int32) (h : DS) (k : Int32 → DS → DA) : bd3 (some (v, h)) k = k v h := rfl
theorem sb_ens (H : SbV h B V cap s) (hl : lk h) (hn : csz h.2.1 + 1 < 1000000) (h1 : s.length ≤ need) (h2 : need ≤ 900) :
    Wd (g_J5_ensureCapacityInternal_d00df N B (nI need) h) (fun _ h' => ∃ V' cap', SbV h' B V' cap' s ∧ need ≤ cap' ∧ (V' = V ∨ h.2.1.length ≤ V') ∧ FrE (fun c => c = B) h h' ∧ lk h' ∧ csz h'.2.1 ≤ csz h.2.1 + 1 ∧ ssz h'.2.1 ≤ ssz h.2.1 + 2 * need) := by
  obtain ⟨⟨gB, gV⟩, e1, e2, e3, e4, e5, e6, e7, e8⟩ := id H
  have hlen : h.2.1.length < 1000000 := hl.2.2.2
  have hVl : V < h.2.1.length := by
    obtain ⟨rs, e⟩ := e4
    exact len_of e
  have n1 : h.2.1.length + 1 < 1000000 := hn
  have rV : nn (dR h B 13 0) = some V := e_nn (e_dR e1 (by decide) (by decide))
  have rC : dI h B 13 1 = some 0 := by rw [e_dI e1 (by decide) (by decide), e2]
  have bNV := e_bN e4 hlen
  unfold g_J5_ensureCapacityInternal_d00df
  refine wd_bo rV (wd_bo bNV (wd_bo rC ?_))
  rw [shr0]
  refine wd_ite (fun z => ?_) (fun z => ?_)
  · have z : need ≤ cap := by
      rcases Nat.lt_or_ge cap need with y | y
      · exfalso
        rw [show Int32.ofNat cap = nI cap from rfl, pk_sub (by omega)] at z
        have := (nI_leI (a := need - cap) (b := 0) (by omega) (by decide)).mp z
        omega
      · exact y
    exact wd_ret ⟨V, cap, H, z, Or.inl rfl, FrE.rf, hl, Nat.le_succ _, Nat.le_add_right _ _⟩
  · have z : cap < need := by
      rcases Nat.lt_or_ge cap need with y | y
      · exact y
      · exfalso
        refine z ?_
        have e : nI need - nI cap ≤ 0 := by
          apply Int32.le_iff_toInt_le.mpr
          rw [pk_sub_toInt (by omega) (by omega)]
          show _ ≤ (0 : Int)
          omega
        exact e
    have i1 : isT h 13 B = true := e_isT e1
    -- how much more
    obtain ⟨g, hg1, hg2, hg3⟩ : ∃ g, need - cap ≤ g ∧ cap + g ≤ 2 * need ∧ (if nI (need - cap) < nI (cap + 2) then nI (cap + 2) else nI (need - cap)) = nI g := by
      by_cases y : need - cap < cap + 2
      · exact ⟨cap + 2, by omega, by omega, if_pos (nI_lt y (by omega))⟩
      · exact ⟨need - cap, Nat.le_refl _, by omega, if_neg (nI_nlt (by omega) (by omega))⟩
    have nc : g_J5_newCapacity_0f7a4 N B (nI need) h = some (nI (cap + g), h) := by
      unfold g_J5_newCapacity_0f7a4
      rw [rV, e_bo, bNV, e_bo, rC, e_bo, e_bo, shl0, shl0, show Int32.ofNat cap = nI cap from rfl, pk_sub (by omega), show nI cap + (2 : Int32) = nI (cap + 2) from nI_add cap 2]
      have nl : g_J8_newLength_cabcc N (nI cap) (nI (need - cap)) (nI (cap + 2)) h = some (nI (cap + g), h) := by
        unfold g_J8_newLength_cabcc
        rw [bnd_s, hg3, nI_add, if_neg (show ¬ nI (cap + g) ≤ 0 from fun y => by
          have := (nI_leI (a := cap + g) (b := 0) (by omega) (by decide)).mp y
          omega), if_neg (show ¬ (2147483639 : Int32) < nI (cap + g) from nI_nlt (a := 2147483639) (b := cap + g) (by omega) (by decide))]
      rw [nl, e_bd3]
      rw [if_neg (show ¬ nI (cap + g) = 2147483647 from nI_ne (b := 2147483647) (by omega) (by omega) (by decide)), rC, e_bo, shr0]
    obtain ⟨hb, eb⟩ : ∃ hb, hb = grown h (102, cap + g, []) (fun _ => 0) := ⟨_, rfl⟩
    have fb : FrA h hb := ⟨by rw [eb]; rfl, by rw [eb, gw_len]; omega, fun c hc => by
      rw [eb]
      exact ⟨gw_old hc, gw_mo hc⟩⟩
    have kb : lk hb := by rw [eb]; exact lk_gr hl n1 (fun j q hq => by simp at hq)
    have nb : hb.2.1[h.2.1.length]? = some (102, cap + g, []) := by rw [eb]; exact gw_new
    have lb : hb.2.1.length = h.2.1.length + 1 := by rw [eb, gw_len]
    have mb : hb.2.2 h.2.1.length = fun _ => 0 := by rw [eb]; exact gw_mn
    have sb : ssz hb.2.1 = ssz h.2.1 + (cap + g) := by rw [eb]; exact ssz_gr
    have e4b : ∃ rs, hb.2.1[V]? = some (102, cap, rs) := by
      obtain ⟨rs, e⟩ := e4
      exact ⟨rs, (fb.2.2 V hVl).1.trans e⟩
    have bNb := e_bN e4b (by omega)
    have cz : (nI cap).toNatClampNeg = cap := nI_clamp (by omega)
    obtain ⟨hc, ec⟩ : ∃ hc : DS, hc = (hb.1, hb.2.1, fun a j => if a = h.2.1.length then va_cpy (bF hb V) (hb.2.2 h.2.1.length) 0 0 cap j else hb.2.2 a j) := ⟨_, rfl⟩
    have bp : bP hb V 0 h.2.1.length 0 (nI cap) = some hc := by
      unfold bP
      rw [bNb, e_aN nb]
      show (if _ then _ else _) = _
      rw [cz, if_pos, ec]
      · rfl
      · refine ⟨⟨?_, lk_len hl⟩, fun q hq => ?_⟩
        · unfold cpyOk
          rw [cz]
          have a0 : (0 : Int32).toNatClampNeg = 0 := rfl
          rw [a0, decide_eq_true (show (0 : Int32) ≤ 0 by decide), decide_eq_true (show (0 : Int32) ≤ nI cap from (nI_leI (a := 0) (by decide) (by omega)).mpr (Nat.zero_le _)), decide_eq_true (show 0 + cap ≤ cap by omega), decide_eq_true (show 0 + cap ≤ cap + g by omega)]
          rfl
        · rw [e_bF (by omega)]
          obtain ⟨b, hb1, hb2⟩ := e8 ((0 : Int32).toNatClampNeg + q)
          rw [(fb.2.2 V hVl).2, hb2]
          exact fits128 hb1
    have co : g_J7_copyOf_9075b N V (nI (cap + g)) h = some (nI h.2.1.length, hc) := by
      unfold g_J7_copyOf_9075b
      rw [bNV, e_bo, show Int32.ofNat cap = nI cap from rfl, if_neg (nI_ne (by omega) (by omega) (by omega)), e_nA (fun y => by
        have := (nI_ltI (a := cap + g) (b := 0) (by omega) (by decide)).mp y
        omega) (by rw [nI_clamp (by omega)]; omega) n1, nI_clamp (by omega), ← eb, e_bo, bNb, e_bo, show Int32.ofNat cap = nI cap from rfl, if_neg (nI_nlt (by omega) (by omega)), bnd_s, bp, e_bo, decide_eq_true (by omega), chk_t]
    have hcm : ∀ c, c < h.2.1.length → hc.2.2 c = h.2.2 c := fun c hcl => by
      rw [ec]
      funext z
      show (if c = h.2.1.length then _ else hb.2.2 c z) = _
      rw [if_neg (by omega), (fb.2.2 c hcl).2]
    have hcn : ∀ z, hc.2.2 h.2.1.length z = if z < cap then h.2.2 V z else 0 := fun z => by
      rw [ec]
      show (if h.2.1.length = h.2.1.length then va_cpy (bF hb V) (hb.2.2 h.2.1.length) 0 0 cap z else _) = _
      rw [if_pos rfl, mb, e_bF (by omega), (fb.2.2 V hVl).2]
      unfold va_cpy
      by_cases y : z < cap
      · rw [if_pos ⟨Nat.zero_le _, by omega⟩, if_pos y]
        exact congrArg (h.2.2 V) (by omega)
      · rw [if_neg (by omega), if_neg y]
    have hcs : hc.2.1 = hb.2.1 := by rw [ec]
    have c1 : hc.1 = h.1 := by rw [ec]; exact fb.1
    have kc : lk hc := ⟨fun k hk => by rw [hcm k (by have := lk_len hl; omega), hl.1 k hk, c1], by rw [hcs]; exact kb.2.1, by rw [hcs]; exact kb.2.2.1, by rw [hcs]; exact kb.2.2.2⟩
    have eBc : hc.2.1[B]? = some (13, 4, [some V, none, none, none]) := by rw [hcs]; exact (fb.2.2 B (len_of e1)).1.trans e1
    refine wd_bo rV (wd_chk i1 (wd_bd3 (R := fun v h' => v = nI (cap + g) ∧ h' = h) ⟨_, _, nc, rfl, rfl⟩ ?_))
    intro vx hx hvx
    rw [hvx.1, hvx.2]
    refine wd_bo rC ?_
    rw [shl0]
    refine wd_bd3 (R := fun v h' => v = nI h.2.1.length ∧ h' = hc) ⟨_, _, co, rfl, rfl⟩ ?_
    intro vx hx hvx
    rw [hvx.1, hvx.2, nI_clamp (by omega)]
    refine wd_chk (decide_eq_true (fun y => ?_)) (wd_bnd ?_)
    · have := congrArg Int32.toInt y
      rw [nI_toInt (by omega), show (-1 : Int32).toInt = -1 from by decide] at this
      omega
    refine wd_bo (e_wR eBc (by decide) (by decide) gB (by simp) (fun q hq => by
      cases hq
      rw [hcs, lb]
      exact Nat.lt_succ_self _)) (wd_ret ⟨h.2.1.length, cap + g, ⟨⟨gB, lk_len hl⟩, ?_, ?_, ?_, ⟨[], ?_⟩, by omega, by omega, fun j hj => ?_, fun j => ?_⟩, by omega, Or.inr (Nat.le_refl _), ⟨c1, ?_, fun c hcl hne => ⟨?_, ?_⟩⟩, ?_, ?_, ?_⟩)
    · dsimp only
      rw [List.getElem?_set, if_pos rfl, if_pos (len_of eBc)]
      rfl
    · exact (congrFun (hcm B (len_of e1)) 1).trans e2
    · exact (congrFun (hcm B (len_of e1)) 3).trans e3
    · dsimp only
      rw [List.getElem?_set, if_neg (by have := len_of e1; omega), hcs]
      exact nb
    · dsimp only
      rw [hcn, if_pos (by omega)]
      exact e7 j hj
    · dsimp only
      rw [hcn]
      split
      · exact e8 j
      · exact ⟨0, by decide, rfl⟩
    · dsimp only
      rw [List.length_set, hcs, lb]
      exact Nat.le_succ _
    · dsimp only
      rw [List.getElem?_set, if_neg (fun y => hne y.symm), hcs]
      exact (fb.2.2 c hcl).1
    · exact hcm c hcl
    · refine lk_set kc gB (fun k q hq => ?_)
      have : ∀ k q, ([some h.2.1.length, none, none, none] : List (Option Nat)).getD k none = some q → q = h.2.1.length := by
        intro k q hq
        match k, hq with
        | 0, hq => exact (Option.some.inj hq).symm
        | 1, hq => cases hq
        | 2, hq => cases hq
        | 3, hq => cases hq
        | k + 4, hq => cases hq
      rw [this k q hq, hcs, lb]
      exact Nat.lt_succ_self _
    · show (hc.2.1.set _ _).length ≤ h.2.1.length + 1
      rw [List.length_set, hcs, lb]
      exact Nat.le_refl _
    · dsimp only
      rw [ssz_set _ _ (13, 4, [some V, none, none, none]) (13, 4, [some V, none, none, none].set 0 (some h.2.1.length)) eBc rfl, hcs, sb]
      omega
end STRH
