/-! a House that is made -/
section INITH
variable {h h' h2 : DS} {t N d hh b c o u a1 : Nat} {x a : Int32} {rs : List (Option Nat)}
/-- an array of rows made and put into a field of the House that is being made -/
theorem i_step {j n : Nat} (hu : h.2.1[u]? = some (12, 25, rs)) (hrs : rs.length = 25) (hj : j < 25) (hr : isR 12 j = true) (h123 : 123 ≤ u) (kl : lk h) (hn : h.2.1.length + 1 < 1000000) (h0 : ¬ a < 0) (en : a.toNatClampNeg = n) (hb : n ≤ 1000) :
    ∃ h1 h2, nQ h 103 a = some h1 ∧ wR h1 u 12 j (some h.2.1.length) = some h2 ∧ h2.2.1[u]? = some (12, 25, rs.set j (some h.2.1.length)) ∧ h2.2.1[h.2.1.length]? = some (103, n, List.replicate n none) ∧ lk h2 ∧ h2.1 = h.1 ∧ h2.2.1.length = h.2.1.length + 1 ∧ ssz h2.2.1 = ssz h.2.1 + n ∧ (∀ c, c < h.2.1.length → c ≠ u → h2.2.1[c]? = h.2.1[c]? ∧ h2.2.2 c = h.2.2 c) ∧ h2.2.2 u = h.2.2 u := by
  subst en
  have ul := len_of hu
  have hu1 : (grown h (103, a.toNatClampNeg, List.replicate a.toNatClampNeg none) (fun _ => 0)).2.1[u]? = some (12, 25, rs) := gw_at hu
  refine ⟨_, _, e_nQ h0 (by omega) hn, e_wR hu1 hj hr h123 (by omega) (fun q hq => by
    cases hq
    rw [gw_len]
    exact Nat.lt_succ_self _), ?_, ?_, ?_, rfl, ?_, ?_, fun c hc hne => ⟨?_, gw_mo (e := (103, a.toNatClampNeg, List.replicate a.toNatClampNeg none)) hc⟩, gw_mo (e := (103, a.toNatClampNeg, List.replicate a.toNatClampNeg none)) ul⟩
  · dsimp only
    rw [List.getElem?_set, if_pos rfl, if_pos (by rw [gw_len]; omega)]
  · dsimp only
    rw [List.getElem?_set, if_neg (by omega)]
    exact gw_new
  · have k1 : lk (grown h (103, a.toNatClampNeg, List.replicate a.toNatClampNeg none) (fun _ => 0)) := lk_gr kl hn (fun j q hq => by
      dsimp only at hq
      rw [List.getD_eq_getElem?_getD, List.getElem?_replicate] at hq
      split at hq <;> cases hq)
    refine lk_set k1 h123 (fun k q hq => ?_)
    rcases getD_set_some hq with z | z
    · cases z
      rw [gw_len]
      exact Nat.lt_succ_self _
    · exact k1.2.2.1 _ _ hu1 k q z
  · dsimp only
    rw [List.length_set, gw_len]
  · dsimp only
    exact (ssz_set _ _ (12, 25, rs) (12, 25, rs.set j (some h.2.1.length)) hu1 rfl).trans ssz_gr
  · dsimp only
    rw [List.getElem?_set, if_neg (fun e => hne e.symm)]
    exact gw_old hc
end INITH
section INITH2
variable {h h' h2 : DS} {t N d hh b c o u a1 : Nat} {x a : Int32} {rs : List (Option Nat)}
/-- an array of ints made and put into a field of the House that is being made -/
theorem i_stepA {j n : Nat} (hu : h.2.1[u]? = some (12, 25, rs)) (hrs : rs.length = 25) (hj : j < 25) (hr : isR 12 j = true) (h123 : 123 ≤ u) (kl : lk h) (hn : h.2.1.length + 1 < 1000000) (h0 : ¬ a < 0) (en : a.toNatClampNeg = n) (hb : n ≤ 1000) :
    ∃ h1 h2, nA h 100 a = some h1 ∧ wR h1 u 12 j (some h.2.1.length) = some h2 ∧ h2.2.1[u]? = some (12, 25, rs.set j (some h.2.1.length)) ∧ h2.2.1[h.2.1.length]? = some (100, n, []) ∧ lk h2 ∧ h2.1 = h.1 ∧ h2.2.1.length = h.2.1.length + 1 ∧ ssz h2.2.1 = ssz h.2.1 + n ∧ (∀ c, c < h.2.1.length → c ≠ u → h2.2.1[c]? = h.2.1[c]? ∧ h2.2.2 c = h.2.2 c) ∧ h2.2.2 u = h.2.2 u := by
  subst en
  have ul := len_of hu
  have hu1 : (grown h (100, a.toNatClampNeg, []) (fun _ => 0)).2.1[u]? = some (12, 25, rs) := gw_at hu
  refine ⟨_, _, e_nA h0 (by omega) hn, e_wR hu1 hj hr h123 (by omega) (fun q hq => by
    cases hq
    rw [gw_len]
    exact Nat.lt_succ_self _), ?_, ?_, ?_, rfl, ?_, ?_, fun c hc hne => ⟨?_, gw_mo (e := (100, a.toNatClampNeg, [])) hc⟩, gw_mo (e := (100, a.toNatClampNeg, [])) ul⟩
  · dsimp only
    rw [List.getElem?_set, if_pos rfl, if_pos (by rw [gw_len]; omega)]
  · dsimp only
    rw [List.getElem?_set, if_neg (by omega)]
    exact gw_new
  · have k1 : lk (grown h (100, a.toNatClampNeg, []) (fun _ => 0)) := lk_gr kl hn (fun j q hq => by simp at hq)
    refine lk_set k1 h123 (fun k q hq => ?_)
    rcases getD_set_some hq with z | z
    · cases z
      rw [gw_len]
      exact Nat.lt_succ_self _
    · exact k1.2.2.1 _ _ hu1 k q z
  · dsimp only
    rw [List.length_set, gw_len]
  · dsimp only
    exact (ssz_set _ _ (12, 25, rs) (12, 25, rs.set j (some h.2.1.length)) hu1 rfl).trans ssz_gr
  · dsimp only
    rw [List.getElem?_set, if_neg (fun e => hne e.symm)]
    exact gw_old hc
theorem h_init (hu : h.2.1[u]? = some (12, 25, List.replicate 25 none)) (h123 : 123 ≤ u) (kl : lk h) (hn : h.2.1.length + 7 < 1000000) :
    ∃ h', g_X12_init N u h = some (0, h') ∧ h'.2.1[u]? = some (12, 25, HSh h.2.1.length (h.2.1.length + 1) (h.2.1.length + 2) (h.2.1.length + 3) (h.2.1.length + 4) (h.2.1.length + 5) none) ∧ h'.2.1[h.2.1.length]? = some (103, 12, List.replicate 12 none) ∧ h'.2.1[h.2.1.length + 1]? = some (103, 8, List.replicate 8 none) ∧ h'.2.1[h.2.1.length + 2]? = some (103, 150, List.replicate 150 none) ∧ h'.2.1[h.2.1.length + 3]? = some (103, 0, []) ∧ h'.2.1[h.2.1.length + 4]? = some (103, 0, []) ∧ h'.2.1[h.2.1.length + 5]? = some (100, 12, []) ∧
      lk h' ∧ h'.1 = h.1 ∧ h'.2.1.length = h.2.1.length + 6 ∧ ssz h'.2.1 = ssz h.2.1 + 182 ∧ (∀ c, c < h.2.1.length → c ≠ u → h'.2.1[c]? = h.2.1[c]? ∧ h'.2.2 c = h.2.2 c) ∧ h'.2.2 u = mset (mset (mset h.2.2 u 4 (-1)) u 10 9) u 11 300 u := by
  have ul := len_of hu
  unfold g_X12_init
  rw [e_wI hu (by decide) (by decide) h123]
  show ∃ h', bo (wI (h.1, h.2.1, mset h.2.2 u 4 (-1)) u 12 10 9) _ = _ ∧ _
  rw [e_wI (h := (h.1, h.2.1, mset h.2.2 u 4 (-1))) hu (by decide) (by decide) h123]
  show ∃ h', bo (wI (h.1, h.2.1, mset (mset h.2.2 u 4 (-1)) u 10 9) u 12 11 300) _ = _ ∧ _
  rw [e_wI (h := (h.1, h.2.1, mset (mset h.2.2 u 4 (-1)) u 10 9)) hu (by decide) (by decide) h123]
  have k0 : lk (h.1, h.2.1, mset (mset (mset h.2.2 u 4 (-1)) u 10 9) u 11 300) := lk_mset (h := (h.1, h.2.1, _)) (lk_mset (h := (h.1, h.2.1, _)) (lk_mset kl h123) h123) h123
  have f0 : ∀ c, c ≠ u → mset (mset (mset h.2.2 u 4 (-1)) u 10 9) u 11 300 c = h.2.2 c := fun c hc => by rw [mset_ne hc, mset_ne hc, mset_ne hc]
  obtain ⟨a1, b1, p1, q1, u1, n1, k1, c1, l1, s1, fr1, m1⟩ := i_step (a := 12) (n := 12) (j := 15) (h := (h.1, h.2.1, mset (mset (mset h.2.2 u 4 (-1)) u 10 9) u 11 300)) hu rfl (by decide) (by decide) h123 k0 (by show h.2.1.length + 1 < _; omega) (by decide) rfl (by decide)
  dsimp only at p1 q1 u1 n1 c1 l1 s1 fr1 m1
  obtain ⟨a2, b2, p2, q2, u2, n2, k2, c2, l2, s2, fr2, m2⟩ := i_step (a := 8) (n := 8) (j := 16) u1 (by rw [List.length_set]; rfl) (by decide) (by decide) h123 k1 (by omega) (by decide) rfl (by decide)
  obtain ⟨a3, b3, p3, q3, u3, n3, k3, c3, l3, s3, fr3, m3⟩ := i_step (a := 150) (n := 150) (j := 17) u2 (by rw [List.length_set, List.length_set]; rfl) (by decide) (by decide) h123 k2 (by omega) (by decide) rfl (by decide)
  obtain ⟨a4, b4, p4, q4, u4, n4, k4, c4, l4, s4, fr4, m4⟩ := i_step (a := 0) (n := 0) (j := 18) u3 (by rw [List.length_set, List.length_set, List.length_set]; rfl) (by decide) (by decide) h123 k3 (by omega) (by decide) rfl (by decide)
  obtain ⟨a5, b5, p5, q5, u5, n5, k5, c5, l5, s5, fr5, m5⟩ := i_step (a := 0) (n := 0) (j := 19) u4 (by rw [List.length_set, List.length_set, List.length_set, List.length_set]; rfl) (by decide) (by decide) h123 k4 (by omega) (by decide) rfl (by decide)
  obtain ⟨a6, b6, p6, q6, u6, n6, k6, c6, l6, s6, fr6, m6⟩ := i_stepA (a := 12) (n := 12) (j := 20) u5 (by rw [List.length_set, List.length_set, List.length_set, List.length_set, List.length_set]; rfl) (by decide) (by decide) h123 k5 (by omega) (by decide) rfl (by decide)
  have bs : ∀ {α : Type} (a : α) (f : α → DA), bo (some a) f = f a := fun _ _ => rfl
  have L2 : b2.2.1.length = h.2.1.length + 2 := by omega
  have L3 : b3.2.1.length = h.2.1.length + 3 := by omega
  have L4 : b4.2.1.length = h.2.1.length + 4 := by omega
  have L5 : b5.2.1.length = h.2.1.length + 5 := by omega
  rw [l1, L2, L3, L4, L5] at u6
  rw [l1] at n2
  rw [L2] at n3
  rw [L3] at n4
  rw [L4] at n5
  rw [L5] at n6
  refine ⟨b6, by simp only [bs, p1, q1, p2, q2, p3, q3, p4, q4, p5, q5, p6, q6], u6, ?_, ?_, ?_, ?_, ?_, n6, k6, ?_, by omega, by omega, fun c hc hne => ⟨?_, ?_⟩, ?_⟩
  · exact (fr6 _ (by omega) (by omega)).1.trans ((fr5 _ (by omega) (by omega)).1.trans ((fr4 _ (by omega) (by omega)).1.trans ((fr3 _ (by omega) (by omega)).1.trans ((fr2 _ (by omega) (by omega)).1.trans n1))))
  · exact (fr6 _ (by omega) (by omega)).1.trans ((fr5 _ (by omega) (by omega)).1.trans ((fr4 _ (by omega) (by omega)).1.trans ((fr3 _ (by omega) (by omega)).1.trans n2)))
  · exact (fr6 _ (by omega) (by omega)).1.trans ((fr5 _ (by omega) (by omega)).1.trans ((fr4 _ (by omega) (by omega)).1.trans n3))
  · exact (fr6 _ (by omega) (by omega)).1.trans ((fr5 _ (by omega) (by omega)).1.trans n4)
  · exact (fr6 _ (by omega) (by omega)).1.trans n5
  · rw [c6, c5, c4, c3, c2, c1]
  · exact (fr6 _ (by omega) hne).1.trans ((fr5 _ (by omega) hne).1.trans ((fr4 _ (by omega) hne).1.trans ((fr3 _ (by omega) hne).1.trans ((fr2 _ (by omega) hne).1.trans (fr1 _ hc hne).1))))
  · exact (fr6 _ (by omega) hne).2.trans ((fr5 _ (by omega) hne).2.trans ((fr4 _ (by omega) hne).2.trans ((fr3 _ (by omega) hne).2.trans ((fr2 _ (by omega) hne).2.trans ((fr1 _ hc hne).2.trans (f0 c hne))))))
  · rw [m6, m5, m4, m3, m2, m1]
end INITH2
