/-! rows copied -/
section COPYR
variable {h h' h2 : DS} {t N d hh b c o : Nat} {p : Plc} {w w' : Arr} {dl : Option (Nat → Int32)} {LN : List Lin} {v x a2 : Int32} {lb lb' : Nat → Nat × Nat × Nat} {tru cg : Bool}
theorem RwH.grow {a n k z : Nat} {r : Nat → Nat} {f : Nat → Nat → Int32} {e : SE} {g : Nat → Int32} (R : RwH h a n k r z f) : RwH (grown h e g) a n k r z f := by
  obtain ⟨⟨rs, e1, -⟩, -⟩ := id R
  exact R.mv (gw_old (len_of e1)) (fun i hi e he => ⟨(gw_old (len_of he)).trans he, gw_mo (len_of he)⟩) (fun _ _ _ _ => rfl)
/-- one row more -/
theorem RwH.put {a n k i q : Nat} {r : Nat → Nat} {f : Nat → Nat → Int32} {rs2 : List (Option Nat)} (R : RwH h a n k r i f) (hi : i < n) (hn : n < 2 ^ 31) (ha : 123 ≤ a) (hq : h.2.1[q]? = some (100, k, rs2)) (hf : ∀ c, c < k → h.2.2 q c = f i c) :
    ∃ h1, sQ h 103 a (nI i) q = some h1 ∧ RwH h1 a n k (fun j => if j = i then q else r j) (i + 1) f ∧ h1.1 = h.1 ∧ h1.2.2 = h.2.2 ∧ h1.2.1.length = h.2.1.length ∧ (∀ c, c ≠ a → h1.2.1[c]? = h.2.1[c]?) ∧ (lk h → lk h1) ∧ ssz h1.2.1 = ssz h.2.1 := by
  obtain ⟨⟨rs, l1, l2, l3, l4⟩, l5⟩ := R
  have ez : (nI i).toNatClampNeg = i := nI_clamp (by omega)
  refine ⟨_, e_sQ (e1 := (100, k, rs2)) l1 hq rfl (inb_nI hi (by omega)) ha (by rw [ez]; omega), ?_, rfl, rfl, by dsimp only; rw [List.length_set], fun c hc => by dsimp only; rw [List.getElem?_set, if_neg (fun e => hc e.symm)], fun kl => lk_set kl ha (fun j q' hq' => by
    rcases getD_set_some hq' with z | z
    · cases z
      exact len_of hq
    · exact kl.2.2.1 _ _ l1 j q' z), ?_⟩
  · rw [ez]
    have al : a < h.2.1.length := len_of l1
    refine ⟨⟨rs.set i (some q), ?_, by rw [List.length_set]; exact l2, by omega, fun j hj => ?_⟩, fun j hj => ?_⟩
    · dsimp only
      rw [List.getElem?_set, if_pos rfl, if_pos al]
    · dsimp only
      by_cases e : j = i
      · subst e
        rw [if_pos rfl, List.getD_eq_getElem?_getD, List.getElem?_set, if_pos rfl, if_pos (by omega)]
        rfl
      · rw [if_neg e, List.getD_eq_getElem?_getD, List.getElem?_set, if_neg (fun z => e z.symm), ← List.getD_eq_getElem?_getD]
        exact l4 j (by omega)
    · dsimp only
      have st : ∀ {cc : Nat} {rr : List (Option Nat)}, h.2.1[cc]? = some (100, k, rr) → (h.2.1.set a (103, n, rs.set i (some q)))[cc]? = some (100, k, rr) := fun z => by
        rw [List.getElem?_set, if_neg (ne_of_tag l1 z (by decide))]
        exact z
      by_cases e : j = i
      · subst e
        rw [if_pos rfl]
        exact ⟨⟨rs2, st hq⟩, hf⟩
      · rw [if_neg e]
        obtain ⟨⟨rs3, q1⟩, q2⟩ := l5 j (by omega)
        exact ⟨⟨rs3, st q1⟩, q2⟩
  · dsimp only
    exact ssz_set _ _ (103, n, rs) _ l1 rfl
end COPYR
