/-! fields copied into a new House -/
section CPF
variable {h h' h2 : DS} {t N d hh b c o u a1 : Nat} {p : Plc} {w w' : Arr} {dl : Option (Nat → Int32)} {x a : Int32} {rs : List (Option Nat)} {lb : Nat → Nat × Nat × Nat} {Q : Int32 → DS → Prop}
/-- a number of the House t copied into the House u that is being made -/
theorem c_wI {j : Nat} {f : DS → DA} (H : HS lb h t p w dl) (hu : h.2.1[u]? = some (12, 25, rs)) (hut : u ≠ t) (hu0 : u ≠ 0) (h123 : 123 ≤ u) (hlu : (lb u).1 = u) (hj : j < 25) (hr : isR 12 j = false)
    (k : ∀ h1, HS lb h1 t p w dl → KpH lb u h h1 → h1.2.1 = h.2.1 → h1.1 = h.1 → (∀ c, c ≠ u → h1.2.2 c = h.2.2 c) → h1.2.2 u j = h.2.2 t j → (∀ i, i ≠ j → h1.2.2 u i = h.2.2 u i) → Wd (f h1) Q) :
    Wd (bo (dI h t 12 j) fun a => bo (wI h u 12 j a) f) Q := by
  refine wd_bo (hs_I H.1 hj hr) (wd_bo (e_wI hu hj hr h123) ?_)
  have K : KpH lb u h (h.1, h.2.1, mset h.2.2 u j (h.2.2 t j)) := ⟨rfl, Nat.le_refl _, fun c hc hn => ⟨rfl, mset_ne (fun e => hn (by rw [e]; exact hlu))⟩⟩
  exact k _ ⟨H.1.keep H.2.1 K hut hu0, H.2.1, lk_mset H.2.2.1 h123, H.2.2.2⟩ K rfl rfl (fun c hc => mset_ne hc) (mset_at _ _ _ _) (fun i hi => mset_j hi)
/-- a reference put into the House u that is being made -/
theorem c_wR {j : Nat} {f : DS → DA} {ro : Option Nat} (H : HS lb h t p w dl) (hu : h.2.1[u]? = some (12, 25, rs)) (hrs : rs.length = 25) (hut : u ≠ t) (hu0 : u ≠ 0) (h123 : 123 ≤ u) (hlu : (lb u).1 = u) (hj : j < 25) (hr : isR 12 j = true) (ho : ∀ q, ro = some q → q < h.2.1.length)
    (k : ∀ h1, HS lb h1 t p w dl → KpH lb u h h1 → h1.2.1[u]? = some (12, 25, rs.set j ro) → h1.1 = h.1 → (∀ c, c ≠ u → h1.2.1[c]? = h.2.1[c]?) → h1.2.2 = h.2.2 → h1.2.1.length = h.2.1.length → ssz h1.2.1 = ssz h.2.1 → Wd (f h1) Q) :
    Wd (bo (wR h u 12 j ro) f) Q := by
  refine wd_bo (e_wR hu hj hr h123 (by omega) ho) ?_
  have o : ∀ c, c ≠ u → (h.2.1.set u (12, 25, rs.set j ro))[c]? = h.2.1[c]? := fun c hc => by rw [List.getElem?_set, if_neg (fun e => hc e.symm)]
  have K : KpH lb u h (h.1, h.2.1.set u (12, 25, rs.set j ro), h.2.2) := ⟨rfl, by rw [List.length_set]; exact Nat.le_refl _, fun c hc hn => ⟨o c (fun e => hn (by rw [e]; exact hlu)), rfl⟩⟩
  refine k _ ⟨H.1.keep H.2.1 K hut hu0, H.2.1, lk_set H.2.2.1 h123 (fun k q hq => ?_), H.2.2.2⟩ K ?_ rfl o rfl (by dsimp only; rw [List.length_set]) ?_
  · rcases getD_set_some hq with z | z
    · exact ho q z
    · exact H.2.2.1.2.2.1 _ _ hu k q z
  · dsimp only
    rw [List.getElem?_set, if_pos rfl, if_pos (len_of hu)]
  · dsimp only
    exact ssz_set _ _ (12, 25, rs) (12, 25, rs.set j ro) hu rfl
end CPF
