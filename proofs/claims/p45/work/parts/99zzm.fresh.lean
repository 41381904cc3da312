/-! a House just made -/
section FRESH
variable {h h' h2 : DS} {t N u : Nat} {w : Arr} {lb : Nat → Nat × Nat × Nat}
theorem h_initZ (hu : h.2.1[u]? = some (12, 25, List.replicate 25 none)) (h123 : 123 ≤ u) (kl : lk h) (hn : h.2.1.length + 7 < 1000000) :
    ∃ h', g_X12_init N u h = some (0, h') ∧ h'.2.2 (h.2.1.length + 5) = fun _ => 0 := by
  have ul := len_of hu
  unfold g_X12_init
  rw [e_wI hu (by decide) (by decide) h123]
  show ∃ h', bo (wI (h.1, h.2.1, mset h.2.2 u 4 (-1)) u 12 10 9) _ = _ ∧ _
  rw [e_wI (h := (h.1, h.2.1, mset h.2.2 u 4 (-1))) hu (by decide) (by decide) h123]
  show ∃ h', bo (wI (h.1, h.2.1, mset (mset h.2.2 u 4 (-1)) u 10 9) u 12 11 300) _ = _ ∧ _
  rw [e_wI (h := (h.1, h.2.1, mset (mset h.2.2 u 4 (-1)) u 10 9)) hu (by decide) (by decide) h123]
  have k0 : lk (h.1, h.2.1, mset (mset (mset h.2.2 u 4 (-1)) u 10 9) u 11 300) := lk_mset (h := (h.1, h.2.1, _)) (lk_mset (h := (h.1, h.2.1, _)) (lk_mset kl h123) h123) h123
  obtain ⟨a1, b1, p1, q1, u1, n1, k1, c1, l1, s1, fr1, m1⟩ := i_step (a := 12) (n := 12) (j := 15) (h := (h.1, h.2.1, mset (mset (mset h.2.2 u 4 (-1)) u 10 9) u 11 300)) hu rfl (by decide) (by decide) h123 k0 (by show h.2.1.length + 1 < _; omega) (by decide) rfl (by decide)
  dsimp only at p1 q1 u1 n1 c1 l1 s1 fr1 m1
  obtain ⟨a2, b2, p2, q2, u2, n2, k2, c2, l2, s2, fr2, m2⟩ := i_step (a := 8) (n := 8) (j := 16) u1 (by rw [List.length_set]; rfl) (by decide) (by decide) h123 k1 (by omega) (by decide) rfl (by decide)
  obtain ⟨a3, b3, p3, q3, u3, n3, k3, c3, l3, s3, fr3, m3⟩ := i_step (a := 150) (n := 150) (j := 17) u2 (by rw [List.length_set, List.length_set]; rfl) (by decide) (by decide) h123 k2 (by omega) (by decide) rfl (by decide)
  obtain ⟨a4, b4, p4, q4, u4, n4, k4, c4, l4, s4, fr4, m4⟩ := i_step (a := 0) (n := 0) (j := 18) u3 (by rw [List.length_set, List.length_set, List.length_set]; rfl) (by decide) (by decide) h123 k3 (by omega) (by decide) rfl (by decide)
  obtain ⟨a5, b5, p5, q5, u5, n5, k5, c5, l5, s5, fr5, m5⟩ := i_step (a := 0) (n := 0) (j := 19) u4 (by rw [List.length_set, List.length_set, List.length_set, List.length_set]; rfl) (by decide) (by decide) h123 k4 (by omega) (by decide) rfl (by decide)
  have bs : ∀ {α : Type} (a : α) (f : α → DA), bo (some a) f = f a := fun _ _ => rfl
  have L5 : b5.2.1.length = h.2.1.length + 5 := by omega
  have p6 : nA b5 100 (12 : Int32) = some (grown b5 (100, (12 : Int32).toNatClampNeg, []) (fun _ => 0)) := e_nA (by decide) (by decide) (by omega)
  have l6 := len_of u5
  obtain ⟨h6, q6, -, -, -, m6, -, -⟩ := w_wR (h := grown b5 (100, (12 : Int32).toNatClampNeg, []) (fun _ => 0)) (q := b5.2.1.length) (j := 20) (lk_gr k5 (by omega) (fun j q hq => by simp at hq)) (gw_at u5) (by rw [List.length_set, List.length_set, List.length_set, List.length_set, List.length_set]; rfl) h123 (by decide) (by decide) (by rw [gw_len]; omega)
  refine ⟨h6, by simp only [bs, p1, q1, p2, q2, p3, q3, p4, q4, p5, q5, p6, q6], ?_⟩
  rw [m6, ← L5, gw_mn]
theorem cnt_0 (hz : zs w = 0) (i : Nat) : cnt w i = 1 := by
  unfold cnt
  rw [hz]
  rfl
theorem dbl_0 (hz : zs w = 0) : ∀ n, dblS w n = 0
  | 0 => rfl
  | n + 1 => by
    unfold dblS
    rw [dbl_0 hz n, cnt_0 hz]
    rfl
/-- the row of the state before anything is told -/
def W00 (w : Arr) : Prop := (∀ i, i < 45 → i ≠ 3 → w i = nI 0) ∧ w 3 = mo1 ∧ ∀ i, 185 ≤ i → i < 197 → w i = nI 0
def plc0 (t : Nat) : Plc := ((t + 1, t + 2, t + 3, t + 4, t + 5, t + 6, none), (fun _ => 0), (fun _ => 0), (fun _ => 0), (fun _ => 0), (fun _ => 0))
def lab0 (t c : Nat) : Nat × Nat × Nat := if c = t then (t, 0, 0) else if c = t + 1 then (t, 1, 0) else if c = t + 2 then (t, 2, 0) else if c = t + 3 then (t, 3, 0) else (0, 0, 0)
theorem hs_fresh (kl : lk h) (W : W00 w) (hn : csz h.2.1 + 10 < 1000000) :
    ∃ h0 h1, nO h 12 25 = some h0 ∧ g_X12_init N h.2.1.length h0 = some (0, h1) ∧ HS (lab0 h.2.1.length) h1 h.2.1.length (plc0 h.2.1.length) w none ∧ PB (plc0 h.2.1.length) ∧ FrA h h1 ∧ csz h1.2.1 = csz h.2.1 + 7 ∧ ssz h1.2.1 = ssz h.2.1 + 207 := by
  obtain ⟨W1, W2, W3⟩ := W
  have n1 : h.2.1.length + 10 < 1000000 := hn
  have g := lk_len kl
  obtain ⟨h0, e0⟩ : ∃ h0, h0 = grown h (12, 25, List.replicate 25 none) (fun _ => 0) := ⟨_, rfl⟩
  have l0 : h0.2.1.length = h.2.1.length + 1 := by rw [e0, gw_len]
  have k0 : lk h0 := by
    rw [e0]
    refine lk_gr kl (by omega) (fun j q hq => ?_)
    dsimp only at hq
    rw [List.getD_eq_getElem?_getD, List.getElem?_replicate] at hq
    split at hq <;> cases hq
  have u0 : h0.2.1[h.2.1.length]? = some (12, 25, List.replicate 25 none) := by rw [e0]; exact gw_new
  have z0 : h0.2.2 h.2.1.length = fun _ => 0 := by rw [e0, gw_mn]
  have s0 : ssz h0.2.1 = ssz h.2.1 + 25 := by rw [e0]; exact ssz_gr
  obtain ⟨h1, i1, et, r1, r2, r3, r4, r5, r6, k1, c1, l1, s1, fr, m1⟩ := h_init (N := N) u0 g k0 (by omega)
  obtain ⟨h1', i1', zbe⟩ := h_initZ (N := N) u0 g k0 (by omega)
  obtain rfl : h1' = h1 := (congrArg Prod.snd (Option.some.inj (i1'.symm.trans i1)))
  rw [l0] at et r1 r2 r3 r4 r5 r6 zbe
  have F : FrA h h1' := by
    refine ⟨c1.trans (by rw [e0]; rfl), by omega, fun c hc => ?_⟩
    obtain ⟨f1, f2⟩ := fr c (by omega) (by omega)
    rw [e0] at f1 f2
    exact ⟨f1.trans (gw_old hc), f2.trans (gw_mo hc)⟩
  have zz : nv (nI 0) = 0 := nv_nI (by decide)
  have e37 : zh w = 0 := by unfold zh; rw [W1 37 (by decide) (by decide)]; exact zz
  have e38 : zd w = 0 := by unfold zd; rw [W1 38 (by decide) (by decide)]; exact zz
  have e6 : zb w = 0 := by rw [show zb w = nv (w 6) from rfl, W1 6 (by decide) (by decide)]; exact zz
  have e42 : zp w = 0 := by unfold zp; rw [W1 42 (by decide) (by decide)]; exact zz
  have e41 : zs w = 0 := by unfold zs; rw [W1 41 (by decide) (by decide)]; exact zz
  have eh : hnL w = [] := by unfold hnL; rw [e41]; rfl
  have mt : ∀ j, h1'.2.2 h.2.1.length j = if j = 11 then 300 else if j = 10 then 9 else if j = 4 then -1 else 0 := by
    intro j
    rw [m1]
    by_cases j1 : j = 11
    · subst j1; exact mset_at _ _ _ _
    · rw [if_neg j1, mset_j j1]
      by_cases j2 : j = 10
      · subst j2; exact mset_at _ _ _ _
      · rw [if_neg j2, mset_j j2]
        by_cases j3 : j = 4
        · subst j3; exact mset_at _ _ _ _
        · rw [if_neg j3, mset_j j3, z0]
  have em : ∀ {n k : Nat} {a : Nat} {r : Nat → Nat} {f : Nat → Nat → Int32} {rs : List (Option Nat)}, h1'.2.1[a]? = some (103, n, rs) → rs.length = n → RwH h1' a n k r 0 f := fun e1 e2 => ⟨⟨_, e1, e2, Nat.zero_le _, fun i hi => absurd hi (by omega)⟩, fun i hi => absurd hi (by omega)⟩
  refine ⟨h0, h1', by rw [e0]; exact e_nO (by omega), i1, ⟨⟨⟨g, et⟩, ?_, ?_, ?_, ?_, ?_, ?_, ⟨⟨[], r6⟩, fun k hk => ?_⟩, trivial⟩, ?_, k1, fun c hc => ?_⟩, ⟨show 123 ≤ h.2.1.length + 6 by omega, fun r hr => by cases hr⟩, F, ?_, by omega⟩
  · unfold HouI
    rw [mt 0, mt 1, mt 2, mt 3, mt 4, mt 5, mt 6, mt 7, mt 8, mt 9, mt 10, mt 11, mt 12, mt 13, mt 14, e41, dbl_0 e41, W1 5 (by decide) (by decide), W1 0 (by decide) (by decide), W1 1 (by decide) (by decide), W1 2 (by decide) (by decide), W2, W1 4 (by decide) (by decide), W1 39 (by decide) (by decide), W1 37 (by decide) (by decide), W1 38 (by decide) (by decide), W1 6 (by decide) (by decide), W1 41 (by decide) (by decide), W1 43 (by decide) (by decide)]
    exact ⟨rfl, rfl, rfl, rfl, rfl, rfl, rfl, rfl, rfl, rfl, rfl, rfl, rfl, rfl, rfl⟩
  · rw [e37]; exact em r1 rfl
  · rw [e38]; exact em r2 rfl
  · rw [e6]; exact em r3 List.length_replicate
  · rw [eh]; exact em r4 rfl
  · rw [e42]; exact em r5 rfl
  · show h1'.2.2 (h.2.1.length + 6) k = _
    rw [show h.2.1.length + 6 = h.2.1.length + 1 + 5 by omega, zbe, W3 _ (by omega) (by omega)]
    rfl
  · unfold HLb
    rw [e37, e38, e6, e42, eh]
    have ne : ∀ {a b : Nat}, a ≠ b → ¬ h.2.1.length + a = h.2.1.length + b := fun h => by omega
    refine ⟨if_pos rfl, ?_, ?_, ?_, fun i hi => absurd hi (by omega), fun i hi => absurd hi (by omega), fun i hi => absurd hi (by omega), fun i hi => absurd hi (by simp), fun i hi => absurd hi (by omega), ?_, ?_, ?_, fun r hr => by cases hr⟩
    · show lab0 h.2.1.length (h.2.1.length + 1) = _
      unfold lab0
      rw [if_neg (by omega), if_pos rfl]
    · show lab0 h.2.1.length (h.2.1.length + 2) = _
      unfold lab0
      rw [if_neg (by omega), if_neg (by omega), if_pos rfl]
    · show lab0 h.2.1.length (h.2.1.length + 3) = _
      unfold lab0
      rw [if_neg (by omega), if_neg (by omega), if_neg (by omega), if_pos rfl]
    · show (lab0 h.2.1.length (h.2.1.length + 4)).1 = _
      unfold lab0
      rw [if_neg (by omega), if_neg (by omega), if_neg (by omega), if_neg (by omega)]
    · show (lab0 h.2.1.length (h.2.1.length + 5)).1 = _
      unfold lab0
      rw [if_neg (by omega), if_neg (by omega), if_neg (by omega), if_neg (by omega)]
    · show (lab0 h.2.1.length (h.2.1.length + 6)).1 = _
      unfold lab0
      rw [if_neg (by omega), if_neg (by omega), if_neg (by omega), if_neg (by omega)]
  · unfold lab0
    rw [if_neg (by omega), if_neg (by omega), if_neg (by omega), if_neg (by omega)]
  · show h1'.2.1.length = h.2.1.length + 7
    omega
end FRESH
