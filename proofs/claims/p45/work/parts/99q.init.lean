/-! a House that is made -/
section INITH
variable {h h' h2 : DS} {t N d hh b c o u a1 : Nat} {x a : Int32} {rs : List (Option Nat)}
/-- an array of rows made and put into a field of the House that is being made -/
theorem i_step {j n : Nat} (hu : h.2.1[u]? = some (12, 25, rs)) (hrs : rs.length = 25) (hj : j < 25) (hr : isR 12 j = true) (h123 : 123 ≤ u) (kl : lk h) (hn : h.2.1.length + 1 < 1000000) (h0 : ¬ a < 0) (en : a.toNatClampNeg = n) (hb : n ≤ 1000) :
    ∃ h1 h2, nQ h 103 a = some h1 ∧ wR h1 u 12 j (some h.2.1.length) = some h2 ∧ h2.2.1[u]? = some (12, 25, rs.set j (some h.2.1.length)) ∧ h2.2.1[h.2.1.length]? = some (103, n, List.replicate n none) ∧ lk h2 ∧ h2.1 = h.1 ∧ h2.2.1.length = h.2.1.length + 1 ∧ ssz h2.2.1 = ssz h.2.1 + n ∧ (∀ c, c < h.2.1.length → c ≠ u → h2.2.1[c]? = h.2.1[c]? ∧ h2.2.2 c = h.2.2 c) ∧ h2.2.2 u = h.2.2 u := by
  subst en
  have ul := len_of hu
  have hu1 : (grown h (103, a.toNatClampNeg, List.replicate a.toNatClampNeg none) (fun _ => 0)).2.1[u]? = some (12, 25, rs) := gw_at hu
  refine ⟨_, _, e_nQ h0 (by omega) hn, e_wR hu1 hj hr h123 (by omega) (fun q hq => by
    cases hq
    rw [gw_len]
    exact Nat.lt_succ_self _), ?_, ?_, ?_, rfl, ?_, ?_, fun c hc hne => ⟨?_, gw_mo (e := (103, a.toNatClampNeg, List.replicate a.toNatClampNeg none)) hc⟩, gw_mo (e := (103, a.toNatClampNeg, List.replicate a.toNatClampNeg none)) ul⟩
  · dsimp only
    rw [List.getElem?_set, if_pos rfl, if_pos (by rw [gw_len]; omega)]
  · dsimp only
    rw [List.getElem?_set, if_neg (by omega)]
    exact gw_new
  · have k1 : lk (grown h (103, a.toNatClampNeg, List.replicate a.toNatClampNeg none) (fun _ => 0)) := lk_gr kl hn (fun j q hq => by
      dsimp only at hq
      rw [List.getD_eq_getElem?_getD, List.getElem?_replicate] at hq
      split at hq <;> cases hq)
    refine lk_set k1 h123 (fun k q hq => ?_)
    rcases getD_set_some hq with z | z
    · cases z
      rw [gw_len]
      exact Nat.lt_succ_self _
    · exact k1.2.2.1 _ _ hu1 k q z
  · dsimp only
    rw [List.length_set, gw_len]
  · dsimp only
    exact (ssz_set _ _ (12, 25, rs) (12, 25, rs.set j (some h.2.1.length)) hu1 rfl).trans ssz_gr
  · dsimp only
    rw [List.getElem?_set, if_neg (fun e => hne e.symm)]
    exact gw_old hc
end INITH
