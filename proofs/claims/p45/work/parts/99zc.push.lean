/-! one House more is kept, the oldest goes -/
section PUSHH
variable {h h' h2 h1 : DS} {t N d hh b c o u i k A n : Nat} {p pb : Plc} {w w' a w2 : Arr} {dl : Option (Nat → Int32)} {LN : List Lin} {v x : Int32} {lb lb' : Nat → Nat × Nat × Nat} {T : Nat → Nat} {Pp : Nat → Plc} {f : Nat → Arr} {Q : Int32 → DS → Prop} {K : DS → DA} {rs rs' : List (Option Nat)}
/-- the array of Houses alone changed -/
def SetA (A : Nat) (rs' : List (Option Nat)) (h h' : DS) : Prop := h'.1 = h.1 ∧ h'.2.2 = h.2.2 ∧ h'.2.1 = h.2.1.set A (104, 6, rs')
theorem SetA.at (S : SetA A rs' h h') (e : h.2.1[A]? = some (104, 6, rs)) : h'.2.1[A]? = some (104, 6, rs') := by
  rw [S.2.2, List.getElem?_set, if_pos rfl, if_pos (len_of e)]
theorem SetA.ot (S : SetA A rs' h h') (hc : c ≠ A) : h'.2.1[c]? = h.2.1[c]? := by
  rw [S.2.2, List.getElem?_set, if_neg (fun e => hc e.symm)]
theorem HouR.setA (H : HouR h t p w dl) (S : SetA A rs' h h') (e : h.2.1[A]? = some (104, 6, rs)) : HouR h' t p w dl := by
  obtain ⟨⟨a1, a2⟩, aI, am, ad, al, ah, ap, ⟨⟨rs, ab⟩, ab2⟩, aw⟩ := H
  have sh : ∀ {c n k : Nat} {r : List (Option Nat)}, h.2.1[c]? = some (n, k, r) → n ≠ 104 → h'.2.1[c]? = some (n, k, r) := fun q hn => (S.ot (ne_of_tag q e hn)).trans q
  have zR : ∀ {i n k : Nat} {r : Nat → Nat} {a zz : Nat} {f : Nat → Nat → Int32}, RwH h a n k r zz f → i < zz → ∀ e, h.2.1[r i]? = some e → h'.2.1[r i]? = some e ∧ h'.2.2 (r i) = h.2.2 (r i) := fun R hi e he => by
    obtain ⟨⟨rs, q⟩, -⟩ := R.2 _ hi
    rw [q] at he
    cases he
    exact ⟨sh q (by decide), by rw [S.2.1]⟩
  have zA : ∀ {n k : Nat} {r : Nat → Nat} {a zz : Nat} {f : Nat → Nat → Int32}, RwH h a n k r zz f → h'.2.1[a]? = h.2.1[a]? := fun R => by
    obtain ⟨⟨rs, q, -⟩, -⟩ := R
    exact (sh q (by decide)).trans q.symm
  refine ⟨⟨a1, sh a2 (by decide)⟩, ?_, ?_, ?_, ?_, ?_, ?_, ?_, ?_⟩
  · unfold HouI at aI ⊢
    rw [S.2.1]
    exact aI
  · exact am.mv (zA am) (fun i hi e he => zR am hi e he) (fun _ _ _ _ => rfl)
  · exact ad.mv (zA ad) (fun i hi e he => zR ad hi e he) (fun _ _ _ _ => rfl)
  · exact al.mv (zA al) (fun i hi e he => zR al hi e he) (fun _ _ _ _ => rfl)
  · exact ah.mv (zA ah) (fun i hi e he => zR ah hi e he) (fun _ _ _ _ => rfl)
  · exact ap.mv (zA ap) (fun i hi e he => zR ap hi e he) (fun _ _ _ _ => rfl)
  · exact ⟨⟨rs, sh ab (by decide)⟩, fun k hk => by rw [S.2.1]; exact ab2 k hk⟩
  · cases e : p.1.2.2.2.2.2.2 with
    | none =>
      rw [e] at aw
      cases dl with
      | none => trivial
      | some dv => exact aw.elim
    | some r =>
      rw [e] at aw
      cases dl with
      | none => exact aw.elim
      | some dv =>
        obtain ⟨⟨rs, l1⟩, l2⟩ := aw
        exact ⟨⟨rs, sh l1 (by decide)⟩, fun j hj => by rw [S.2.1]; exact l2 j hj⟩
theorem lk_setA (kl : lk h) (hA : 123 ≤ A) (S : SetA A rs' h h') (hr : ∀ (k q : Nat), rs'.getD k none = some q → q < h.2.1.length) : lk h' := by
  have e : h' = (h.1, h.2.1.set A (104, 6, rs'), h.2.2) := by
    obtain ⟨s1, s2, s3⟩ := S
    rw [← s1, ← s2, ← s3]
  rw [e]
  exact lk_set kl hA hr
theorem SetA.HS (H : HS lb h t p w dl) (S : SetA A rs' h h') (e : h.2.1[A]? = some (104, 6, rs)) (kl : lk h') : HS lb h' t p w dl := ⟨H.1.setA S e, H.2.1, kl, H.2.2.2⟩
def shB (A : Nat) (K : DS → DA) (X : Int32 → DS → DA) (s : Int32) (h : DS) : DA :=
  if (6 : Int32) ≤ s then (K h)
  else (bo (lQ h 104 A s) fun r =>
  bo (sQ h 104 A (s - (1 : Int32)) r) fun h1 =>
  X ((s + 1)) h1)
theorem p_shift (hN : 20000 ≤ N) (P : PsH lb h t A w dl 6 T Pp f) (kl : lk h) (hK : ∀ h' rs', SetA A rs' h h' → lk h' → rs'.length = 6 → (∀ i, i < 5 → rs'.getD i none = some (T (i + 1))) → Wd (K h') Q) : Wd (jt (fun Y a hz => shB A K Y a hz) N (1 : Int32) h) Q := by
  obtain ⟨⟨rs, e, l, q⟩, hA, lA, P⟩ := P
  refine wd_jt (fun n a h' => ∃ j rs', 1 ≤ j ∧ j ≤ 6 ∧ n = 6 - j ∧ a = nI j ∧ SetA A rs' h h' ∧ lk h' ∧ rs'.length = 6 ∧ (∀ i, i + 1 < j → rs'.getD i none = some (T (i + 1))) ∧ ∀ i, j - 1 ≤ i → i < 6 → rs'.getD i none = some (T i)) ?_ N 5 _ _ (by omega)
    ⟨1, rs, by omega, by omega, rfl, rfl, ⟨rfl, rfl, ?_⟩, kl, l, fun i hi => absurd hi (by omega), fun i _ hi => q i hi⟩
  · rintro n X a h1 ⟨j, rs', hj1, hj, rfl, rfl, S, k1, l1, q1, q2⟩ hX
    unfold shB
    refine wd_ite (fun z => hK h1 rs' S k1 l1 (fun i hi => q1 i (by
      have := (nI_leI (a := 6) (b := j) (by decide) (by omega)).mp z
      omega))) (fun z => ?_)
    have z : ¬ 6 ≤ j := fun y => z ((nI_leI (by decide) (by omega)).mpr y)
    have up : nI j + (1 : Int32) = nI (j + 1) := nI_up j
    have dn : nI j - (1 : Int32) = nI (j - 1) := by
      obtain ⟨i, rfl⟩ : ∃ i, j = i + 1 := ⟨j - 1, by omega⟩
      exact nI_dn i
    have eA := S.at e
    have hTj := P j (by omega)
    have tl := len_of hTj.1.1.ob
    have tne : T j ≠ A := ne_of_tag hTj.1.1.ob e (by decide)
    have e1 : h1.2.1[T j]? = some (12, 25, HSh (Pp j).1.1 (Pp j).1.2.1 (Pp j).1.2.2.1 (Pp j).1.2.2.2.1 (Pp j).1.2.2.2.2.1 (Pp j).1.2.2.2.2.2.1 (Pp j).1.2.2.2.2.2.2) := (S.ot tne).trans hTj.1.1.ob
    refine wd_bo (e_lQ eA (inb_nI (by omega) (by decide)) (by rw [nI_clamp (by omega)]; exact q2 j (by omega) (by omega))) ?_
    rw [dn]
    refine wd_bo (e_sQ eA e1 rfl (inb_nI (by omega) (by decide)) hA (by rw [nI_clamp (by omega)]; omega)) ?_
    rw [nI_clamp (by omega)]
    have S2 : SetA A (rs'.set (j - 1) (some (T j))) h (h1.1, h1.2.1.set A (104, 6, rs'.set (j - 1) (some (T j))), h1.2.2) := ⟨S.1, S.2.1, by rw [S.2.2, List.set_set]⟩
    have len1 : h1.2.1.length = h.2.1.length := by rw [S.2.2, List.length_set]
    refine hX (6 - (j + 1)) _ _ (by omega) ⟨j + 1, rs'.set (j - 1) (some (T j)), by omega, by omega, rfl, up, S2, ?_, by rw [List.length_set]; exact l1, fun i hi => ?_, fun i h1 h2 => ?_⟩
    · refine lk_set k1 hA (fun k q' hq => ?_)
      rcases getD_set_some hq with y | y
      · cases y
        rw [len1]
        exact tl
      · exact k1.2.2.1 _ _ eA k q' y
    · by_cases y : i = j - 1
      · rw [y, List.getD_eq_getElem?_getD, List.getElem?_set, if_pos rfl, if_pos (by omega)]
        show some (T j) = _
        rw [show j - 1 + 1 = j by omega]
      · rw [List.getD_eq_getElem?_getD, List.getElem?_set, if_neg (fun z => y z.symm), ← List.getD_eq_getElem?_getD]
        exact q1 i (by omega)
    · rw [List.getD_eq_getElem?_getD, List.getElem?_set, if_neg (by omega), ← List.getD_eq_getElem?_getD]
      exact q2 i (by omega) h2
  · refine List.ext_getElem? fun i => ?_
    by_cases y : A = i
    · subst y
      rw [List.getElem?_set, if_pos rfl, if_pos (len_of e)]
      exact e
    · rw [List.getElem?_set, if_neg y]
/-- behind the push -/
def nxg {α : Type} (k : Nat) (h : Nat → α) (x : α) (i : Nat) : α := if i + 1 = min 6 (k + 1) then x else h (i + (if k = 6 then 1 else 0))
theorem p_put (P : PsH lb h t A w dl k T Pp f) (kl : lk h) (hk : k ≤ 6) (S : SetA A rs h h1) (e1 : h1.2.1[A]? = some (104, 6, rs)) (k1 : lk h1) (l1 : rs.length = 6) (hq : ∀ i, i + 1 < min 6 (k + 1) → rs.getD i none = some (T (i + (if k = 6 then 1 else 0)))) (Hb : HouR h b pb w' dl) (Bb : HLb lb b pb w') (bb : PB pb) (xb : exH w' w) (hbt : b ≠ t) (hbT : ∀ i, i < k → b ≠ T i) (hx : ∀ i, i < k → exH (f i) w') {K : DS → DA}
    (hK : ∀ h' rs', SetA A rs' h h' → lk h' → PsH lb h' t A w dl (min 6 (k + 1)) (nxg k T b) (nxg k Pp pb) (nxt k f w') → Wd (K h') Q) : Wd (bo (sQ h1 104 A (nI (min 6 (k + 1) - 1)) b) K) Q := by
  obtain ⟨⟨rs0, e, l, q⟩, hA, lA, P⟩ := P
  have hb1 : h1.2.1[b]? = _ := (S.ot (ne_of_tag Hb.ob e (by decide))).trans Hb.ob
  refine wd_bo (e_sQ e1 hb1 rfl (inb_nI (by omega) (by decide)) hA (by rw [nI_clamp (by omega)]; omega)) ?_
  rw [nI_clamp (by omega)]
  have S2 : SetA A (rs.set (min 6 (k + 1) - 1) (some b)) h (h1.1, h1.2.1.set A (104, 6, rs.set (min 6 (k + 1) - 1) (some b)), h1.2.2) := ⟨S.1, S.2.1, by rw [S.2.2, List.set_set]⟩
  have len1 : h1.2.1.length = h.2.1.length := by rw [S.2.2, List.length_set]
  have k2 : lk (h1.1, h1.2.1.set A (104, 6, rs.set (min 6 (k + 1) - 1) (some b)), h1.2.2) := lk_set k1 hA (fun k' q' hq' => by
    rcases getD_set_some hq' with y | y
    · cases y
      rw [len1]
      exact len_of Hb.ob
    · exact k1.2.2.1 _ _ e1 k' q' y)
  refine hK _ _ S2 k2 ⟨⟨_, S2.at e, by rw [List.length_set]; exact l1, fun i hi => ?_⟩, hA, lA, fun i hi => ⟨?_, fun j hj => ?_⟩⟩
  · unfold nxg
    by_cases y : i + 1 = min 6 (k + 1)
    · rw [if_pos y, List.getD_eq_getElem?_getD, List.getElem?_set, if_pos (by omega), if_pos (by omega)]
      rfl
    · rw [if_neg y, List.getD_eq_getElem?_getD, List.getElem?_set, if_neg (by omega), ← List.getD_eq_getElem?_getD]
      exact hq i (by omega)
  · unfold nxg nxt
    by_cases y : i + 1 = min 6 (k + 1)
    · simp only [if_pos y]
      exact ⟨Hb.setA S2 e, Bb, bb, xb, hbt⟩
    · simp only [if_neg y]
      have hlt : i + (if k = 6 then 1 else 0) < k := by split <;> omega
      obtain ⟨⟨H, B, bp, ex, ne⟩, -⟩ := P _ hlt
      exact ⟨H.setA S2 e, B, bp, ex, ne⟩
  · unfold nxg nxt
    have y2 : ¬ j + 1 = min 6 (k + 1) := by omega
    simp only [if_neg y2]
    have hlj : j + (if k = 6 then 1 else 0) < k := by split <;> omega
    by_cases y : i + 1 = min 6 (k + 1)
    · simp only [if_pos y]
      exact ⟨fun z => hbT _ hlj z.symm, hx _ hlj⟩
    · simp only [if_neg y]
      have hlt : i + (if k = 6 then 1 else 0) < k := by split <;> omega
      exact (P _ hlt).2 _ (by omega)
end PUSHH
