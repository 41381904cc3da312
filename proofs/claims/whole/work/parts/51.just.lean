/-! done just so often, with whom -/
section JUST
variable {w w' v0 : Arr} {LN : List Lin} {m m' m2 : Mem} {N d n j : Nat} {x : Int32}
def D5 : Nat → Int32 := fun _ => nI 500
def clq (LN : List Lin) (w : Arr) (d i S : Nat) : Nat := (setS LN (tirS LN d w (i + 1)) d S D5 13 0 0).1
def gq (LN : List Lin) (w : Arr) (d i S : Nat) : Bool := decide (hndS (tirS LN d w (i + 1)) ≤ nI (sumS (tirS LN d w (i + 1)) (clq LN w d i S) (zh w) + loudS LN (tirS LN d w (i + 1)) d)) && mayS (tirS LN d w (i + 1))
def Dq (LN : List Lin) (w : Arr) (d n S : Nat) : Prop := (∀ i, i + 1 < n → gq LN w d i S = true) ∧ gq LN w d (n - 1) S = false
theorem dosS_ge : ∀ (k : Nat) (w : Arr) (c : Nat), c ≤ (dosS LN false d k w c).2 ∧ (1 ≤ k → c + 1 ≤ (dosS LN false d k w c).2)
  | 0, w, c => ⟨Nat.le_refl _, fun h => absurd h (by omega)⟩
  | k + 1, w, c => by
    have := dosS_ge k (oneS LN false w d) (c + 1)
    unfold dosS
    split
    · exact ⟨by omega, fun _ => by omega⟩
    · exact ⟨by omega, fun _ => Nat.le_refl _⟩
theorem tirS_sh : ∀ n, tirS LN d (begS LN w d) n = tirS LN d w (n + 1)
  | 0 => rfl
  | n + 1 => by
    show begS LN (tirS LN d (begS LN w d) n) d = begS LN (tirS LN d w (n + 1)) d
    rw [tirS_sh n]
theorem dosS_is : ∀ (k n : Nat) (w : Arr) (c : Nat), 1 ≤ n → n < k → ((dosS LN false d k w c).2 = c + n ↔ (∀ i, i + 1 < n → gonS LN false (tirS LN d w i) d = true) ∧ gonS LN false (tirS LN d w (n - 1)) d = false)
  | 0, n, w, c, h1, hk => by omega
  | k + 1, n, w, c, h1, hk => by
    have e0 : tirS LN d w 0 = w := rfl
    unfold dosS
    rw [oneS_f]
    cases hg : gonS LN false w d with
    | true =>
      rw [if_pos rfl]
      by_cases hn : n = 1
      · subst hn
        have := (dosS_ge (LN := LN) (d := d) k (begS LN w d) (c + 1)).2 (by omega)
        constructor
        · intro h; omega
        · rintro ⟨-, h⟩
          rw [show 1 - 1 = 0 from rfl, e0, hg] at h
          cases h
      · have ih := dosS_is k (n - 1) (begS LN w d) (c + 1) (by omega) (by omega)
        rw [show c + 1 + (n - 1) = c + n by omega] at ih
        rw [ih, tirS_sh, show n - 1 - 1 + 1 = n - 1 by omega]
        constructor
        · rintro ⟨a, b⟩
          refine ⟨fun i hi => ?_, b⟩
          cases i with
          | zero => exact hg
          | succ i =>
            have := a i (by omega)
            rw [tirS_sh] at this
            exact this
        · rintro ⟨a, b⟩
          refine ⟨fun i hi => ?_, b⟩
          rw [tirS_sh]
          exact a (i + 1) (by omega)
    | false =>
      rw [if_neg (by decide)]
      show c + 1 = c + n ↔ _
      constructor
      · intro h
        have : n = 1 := by omega
        subst this
        exact ⟨fun i hi => by omega, hg⟩
      · rintro ⟨a, b⟩
        by_cases hn : n = 1
        · omega
        · have := a 0 (by omega)
          rw [e0, hg] at this
          cases this
/-- who is there, who is gloved: neither changes how it wears and how loud it is -/
theorem facD_up (hj : j = 7 ∨ j = 8) : facD (upd w j x) d = facD w d := facD_cg (ud_n (by omega)) (ud_n (by omega)) (ud_n (by omega)) (ud_n (by omega))
theorem loudS_up (hj : j = 7 ∨ j = 8) : loudS LN (upd w j x) d = loudS LN w d := by
  unfold loudS
  rw [facD_up hj, ud_n (by omega)]
theorem wearS_up (hj : j = 7 ∨ j = 8) : wearS LN (upd w j x) d = wearS LN w d := by
  unfold wearS
  rw [facD_up hj]
theorem upd_sw {f : Arr} {a b : Nat} {u v : Int32} (h : a ≠ b) : upd (upd f a u) b v = upd (upd f b v) a u := by
  funext i
  by_cases h1 : i = b
  · subst h1
    rw [ud_s, ud_n (by omega), ud_s]
  · rw [ud_n h1]
    by_cases h2 : i = a
    · subst h2; rw [ud_s, ud_s]
    · rw [ud_n h2, ud_n h2, ud_n h1]
theorem begS_up (hj : j = 7 ∨ j = 8) : begS LN (upd w j x) d = upd (begS LN w d) j x := by
  have ea : againS (upd w j x) d = againS w d := by
    unfold againS
    rw [ud_n (by omega), ud_n (by omega)]
  unfold begS
  rw [ea, upd_sw (f := w) (a := j) (b := 4) (by omega), wearS_up hj, ud_n (by omega), ud_n (by omega), ud_n (by omega), ud_n (by omega), ud_n (by omega), ud_n (by omega)]
  rw [upd_sw (a := j) (b := 3) (by omega), upd_sw (a := j) (b := 0) (by omega), upd_sw (a := j) (b := 2) (by omega), upd_sw (a := j) (b := 29 + d) (by omega), upd_sw (a := j) (b := 21 + d) (by omega)]
theorem tirS_up (hj : j = 7 ∨ j = 8) : ∀ n, tirS LN d (upd w j x) n = upd (tirS LN d w n) j x
  | 0 => rfl
  | n + 1 => by
    show begS LN (tirS LN d (upd w j x) n) d = upd (begS LN (tirS LN d w n) d) j x
    rw [tirS_up hj n, begS_up hj]
theorem clapS_up (hj : j = 7 ∨ j = 8) {h b : Nat} : clapS LN (upd w j x) h d b = clapS LN w h d b := by
  have e : facH (upd w j x) h d b = facH w h d b := by
    funext k
    unfold facH
    rw [facD_up hj, ud_n (by omega), ud_n (by omega), ud_n (by omega), ud_n (by omega)]
  unfold clapS clapF
  rw [e, ud_n (by omega)]
theorem setS_cg {S S' : Nat} {dr : Nat → Int32} (hz : zh w' = zh w) (h : ∀ h cl, h < zh w → stpS LN w' d S' dr cl h = stpS LN w d S dr cl h) : ∀ k cl r, setS LN w' d S' dr k cl r = setS LN w d S dr k cl r
  | 0, _, _ => rfl
  | k + 1, cl, r => by
    have e : ∀ n, n ≤ zh w → rndS LN w' d S' dr cl n = rndS LN w d S dr cl n := by
      intro n
      induction n with
      | zero => exact fun _ => rfl
      | succ n ih =>
        intro hn
        show stpS _ _ _ _ _ _ _ = stpS _ _ _ _ _ _ _
        rw [ih (by omega)]
        exact h _ _ (by omega)
    unfold setS
    rw [hz, e _ (Nat.le_refl _)]
    split
    · rfl
    · exact setS_cg hz h k _ _
theorem setS_up (hj : j = 7 ∨ j = 8) {S : Nat} {dr : Nat → Int32} {k cl r : Nat} : setS LN (upd w j x) d S dr k cl r = setS LN w d S dr k cl r := by
  refine setS_cg ?_ (fun h cl hh => ?_) k cl r
  · unfold zh
    rw [ud_n (by omega)]
  · unfold stpS zn
    rw [clapS_up hj, ud_n (by omega)]
theorem sumS_cg {set : Nat} (hw : ∀ i, (45 ≤ i ∧ i < 57) ∨ i = 41 ∨ (105 ≤ i ∧ i < 153) → w' i = w i) (W0 : WFc w) : ∀ n, n ≤ 12 → sumS w' set n = sumS w set n
  | 0, _ => rfl
  | n + 1, hn => by
    unfold sumS
    rw [sumS_cg hw W0 n (by omega), hw (45 + n) (by omega), cnt_cg (fun i hi => hw i (by omega)) W0.lzs]
/-- going on, in a house where other hearers are there or gloved -/
theorem gon_up (hj : j = 7 ∨ j = 8) {i S : Nat} (W0 : WFc w) (hw : lawW w LN) (hd : d < zd w) (hS : S = rdyS (upd w j x)) : gonS LN false (tirS LN d (upd w j x) i) d = gq LN w d i S := by
  obtain ⟨W1, -, -, o1⟩ := tirS_ok (LN := LN) W0 hw hd (i + 1)
  have ld := W0.lzd
  have lh := W0.lzh
  have ezh : zh (tirS LN d w (i + 1)) = zh w := by unfold zh; rw [o1 37 (by decide)]
  have o7 : ∀ n k, (k = 7 ∨ k = 8) → tirS LN d w n k = w k := by
    intro n
    induction n with
    | zero => exact fun _ _ => rfl
    | succ n ih =>
      intro k hk
      show begS LN (tirS LN d w n) d k = _
      rw [begS_o (by omega)]
      exact ih k hk
  have e2 : ∀ v, w2S LN false v d = begS LN v d := fun v => by
    unfold w2S dwS
    rw [if_neg (by decide)]
  have e3 : ∀ v, w3S LN false v d = begS LN v d := fun v => by
    unfold w3S cghW
    rw [Bool.false_and, if_neg (by decide), e2]
  have eb : begS LN (tirS LN d (upd w j x) i) d = upd (tirS LN d w (i + 1)) j x := tirS_up hj (i + 1)
  have edr : ∀ v, drvS false v = D5 := fun v => by
    funext h
    unfold drvS D5
    rw [if_neg (by decide)]
  have erd : rdyS (upd (tirS LN d w (i + 1)) j x) = S := by
    rw [hS]
    unfold rdyS zt zv
    rcases hj with rfl | rfl
    · rw [ud_s, ud_s, ud_n (by decide), ud_n (by decide), o7 _ 8 (by omega)]
    · rw [ud_s, ud_s, ud_n (by decide), ud_n (by decide), o7 _ 7 (by omega)]
  unfold gonS
  rw [cgS_f]
  unfold hanS
  rw [cgS_f, if_neg (by decide)]
  unfold rawS clpS
  rw [e3, e2, edr, eb, erd, setS_up hj, loudS_up hj]
  unfold gq clq
  have eh : hndS (upd (tirS LN d w (i + 1)) j x) = hndS (tirS LN d w (i + 1)) := hndS_cg W1 (fun k hk => ud_n (by omega))
  have em : mayS (upd (tirS LN d w (i + 1)) j x) = mayS (tirS LN d w (i + 1)) := mayS_cg W1 (fun k hk => ud_n (by omega))
  have ez : zh (upd (tirS LN d w (i + 1)) j x) = zh w := by rw [← ezh]; unfold zh; rw [ud_n (by omega)]
  rw [eh, em, ez, sumS_cg (w' := upd (tirS LN d w (i + 1)) j x) (w := tirS LN d w (i + 1)) (fun k hk => ud_n (by omega)) W1 _ lh]
  rfl
theorem done_up (hj : j = 7 ∨ j = 8) {S : Nat} (W0 : WFc w) (hw : lawW w LN) (hd : d < zd w) (hS : S = rdyS (upd w j x)) (h1 : 1 ≤ n) (hn : n < 21) : (dosS LN false d 21 (upd w j x) 0).2 = n ↔ Dq LN w d n S := by
  have := dosS_is (LN := LN) (d := d) 21 n (upd w j x) 0 h1 hn
  rw [Nat.zero_add] at this
  rw [this]
  unfold Dq
  rw [gon_up hj W0 hw hd hS]
  constructor
  · rintro ⟨a, b⟩
    exact ⟨fun i hi => by rw [← gon_up hj W0 hw hd hS]; exact a i hi, b⟩
  · rintro ⟨a, b⟩
    exact ⟨fun i hi => by rw [gon_up hj W0 hw hd hS]; exact a i hi, b⟩
/-! who may clap at all -/
theorem pc_and {a b : Nat} : pc (a &&& b) ≤ pc a := by
  have : ∀ n, pcN n (a &&& b) ≤ pcN n a := by
    intro n
    induction n with
    | zero => exact Nat.le_refl _
    | succ n ih =>
      unfold pcN
      rw [Nat.testBit_and]
      cases a.testBit n <;> cases b.testBit n <;> simp <;> omega
  exact this 12
/-- at i, h may clap beside someone -/
def mayC (LN : List Lin) (w : Arr) (d i h : Nat) : Prop := ∃ b, b ≤ pc (zn w h) ∧ 500 < clapS LN (tirS LN d w (i + 1)) h d b
theorem zn_tir (W0 : WFc w) (hw : lawW w LN) (hd : d < zd w) {i h : Nat} : zn (tirS LN d w i) h = zn w h := by
  obtain ⟨-, -, -, o1⟩ := tirS_ok (LN := LN) W0 hw hd i
  unfold zn
  rw [o1 _ (by omega)]
theorem clq_cg {i S S' : Nat} (W0 : WFc w) (hw : lawW w LN) (hd : d < zd w) (h : ∀ h, h < zh w → S.testBit h ≠ S'.testBit h → ¬ mayC LN w d i h) : clq LN w d i S = clq LN w d i S' := by
  obtain ⟨-, -, -, o1⟩ := tirS_ok (LN := LN) W0 hw hd (i + 1)
  have ezh : zh (tirS LN d w (i + 1)) = zh w := by unfold zh; rw [o1 37 (by decide)]
  unfold clq
  rw [setS_cg (w := tirS LN d w (i + 1)) (w' := tirS LN d w (i + 1)) (S := S') (S' := S) rfl (fun k cl hk => ?_)]
  rw [ezh] at hk
  unfold stpS
  rw [zn_tir W0 hw hd]
  by_cases e : S.testBit k = S'.testBit k
  · rw [e]
  · have hm := h k hk e
    have hl := clap_le (LN := LN) (w := tirS LN d w (i + 1)) (d := d) (h := k) (b := pc (zn w k &&& cl))
    have : ¬ D5 k < nI (clapS LN (tirS LN d w (i + 1)) k d (pc (zn w k &&& cl))) := fun q => hm ⟨_, pc_and, (nI_ltI (by decide) (by omega)).mp q⟩
    rw [if_neg (fun z => this z.2.2), if_neg (fun z => this z.2.2)]
theorem Dq_cg {S S' : Nat} (W0 : WFc w) (hw : lawW w LN) (hd : d < zd w) (h1 : 1 ≤ n) (h : ∀ i, i < n → ∀ h, h < zh w → S.testBit h ≠ S'.testBit h → ¬ mayC LN w d i h) : Dq LN w d n S ↔ Dq LN w d n S' := by
  have : ∀ i, i < n → gq LN w d i S = gq LN w d i S' := fun i hi => by
    unfold gq
    rw [clq_cg W0 hw hd (h i hi)]
  unfold Dq
  rw [this (n - 1) (by omega)]
  constructor
  · rintro ⟨a, b⟩
    exact ⟨fun i hi => by rw [← this i (by omega)]; exact a i hi, b⟩
  · rintro ⟨a, b⟩
    exact ⟨fun i hi => by rw [this i (by omega)]; exact a i hi, b⟩
/-- of all sets within R, the one with the fewest, then the least -/
def BstV (R : Nat) (P : Nat → Prop) (v : Int32) : Prop := (v = mo1 ∧ ∀ s, sb s R → ¬ P s) ∨ ∃ s, v = nI s ∧ sb s R ∧ P s ∧ ∀ t, sb t R → P t → pc s < pc t ∨ (pc s = pc t ∧ s ≤ t)
theorem BstV.uni {R : Nat} {P : Nat → Prop} {u v : Int32} (h1 : BstV R P u) (h2 : BstV R P v) : u = v := by
  rcases h1 with ⟨rfl, a⟩ | ⟨s, rfl, a, b, c⟩
  · rcases h2 with ⟨rfl, -⟩ | ⟨t, rfl, a', b', -⟩
    · rfl
    · exact absurd b' (a t a')
  · rcases h2 with ⟨rfl, a'⟩ | ⟨t, rfl, a', b', c'⟩
    · exact absurd b (a' s a)
    · have h3 := c t a' b'
      have h4 := c' s a b
      have : s = t := by omega
      rw [this]
theorem pcN_sb {s t : Nat} (h : sb s t) : ∀ n, pcN n s ≤ pcN n t
  | 0 => Nat.le_refl _
  | n + 1 => by
    have := pcN_sb h n
    unfold pcN
    have hb := h n
    cases h1 : s.testBit n with
    | false => simp; omega
    | true => rw [hb h1]; omega
/-- only who may clap matters -/
theorem BstV.cut {Z R : Nat} {P Q : Nat → Prop} {v : Int32} (h : BstV Z P v) (hR : sb R Z) (hPQ : ∀ s, sb s Z → (P s ↔ Q (s &&& R))) : BstV R Q v := by
  have sub : ∀ s, sb s R → sb s Z ∧ s &&& R = s := fun s hs => ⟨fun i hi => hR i (hs i hi), Nat.eq_of_testBit_eq (fun i => by
    rw [Nat.testBit_and]
    cases hq : s.testBit i with
    | false => rfl
    | true => rw [hs i hq]; rfl)⟩
  rcases h with ⟨rfl, a⟩ | ⟨s, rfl, a, b, c⟩
  · refine Or.inl ⟨rfl, fun s hs hq => ?_⟩
    obtain ⟨s1, s2⟩ := sub s hs
    exact a s s1 ((hPQ s s1).mpr (by rw [s2]; exact hq))
  · have hsR : sb (s &&& R) R := fun i hi => by
      rw [Nat.testBit_and, Bool.and_eq_true] at hi
      exact hi.2
    have hss : sb (s &&& R) s := fun i hi => by
      rw [Nat.testBit_and, Bool.and_eq_true] at hi
      exact hi.1
    obtain ⟨t1, t2⟩ := sub _ hsR
    have hp : P (s &&& R) := (hPQ _ t1).mpr (by rw [t2]; exact (hPQ s a).mp b)
    have hl := sb_le hss
    have hpc : pc (s &&& R) ≤ pc s := pcN_sb hss 12
    have e : s &&& R = s := by
      have := c _ t1 hp
      omega
    refine Or.inr ⟨s, rfl, by rw [← e]; exact hsR, by rw [← e]; exact (hPQ s a).mp b, fun t ht hq => ?_⟩
    obtain ⟨s1, s2⟩ := sub t ht
    exact c t s1 ((hPQ t s1).mpr (by rw [s2]; exact hq))
end JUST
