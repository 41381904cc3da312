/-! a text is told about House t: what stays, what is new -/
section PHASE
variable {h h' h1 h2 h0 hb : DS} {N t A A2 n c k j i z q : Nat} {p : Plc} {w w' : Arr} {dl : Option (Nat → Int32)} {lb : Nat → Nat × Nat × Nat} {r : Nat → Nat} {f g : Nat → Nat → Int32} {T : List St3} {rs : List (Option Nat)}
/-- all but House t as it was -/
def FrT (t : Nat) (h h' : DS) : Prop := h.2.1.length ≤ h'.2.1.length ∧ ∀ c, c < h.2.1.length → c ≠ t → h'.2.1[c]? = h.2.1[c]? ∧ (123 ≤ c → h'.2.2 c = h.2.2 c)
theorem FrT.tr (a : FrT t h h') (q : FrT t h' h2) : FrT t h h2 := ⟨Nat.le_trans a.1 q.1, fun c hc hn => ⟨(q.2 c (Nat.lt_of_lt_of_le hc a.1) hn).1.trans (a.2 c hc hn).1, fun g => ((q.2 c (Nat.lt_of_lt_of_le hc a.1) hn).2 g).trans ((a.2 c hc hn).2 g)⟩⟩
theorem FrE.frt (a : FrE (fun c => c = t) h h') : FrT t h h' := ⟨a.2.1, fun c hc hn => ⟨(a.2.2 c hc hn).1, fun _ => (a.2.2 c hc hn).2⟩⟩
theorem FrL.frt (a : FrL h h') : FrT t h h' := ⟨a.1, fun c hc _ => a.2 c hc⟩
theorem HouR.frt (H : HouR h t p w dl) (B : HLb lb t p w) (b : PB p) (hl : lk h) (h0 : ∀ c, c < 123 → (lb c).1 = 0) (F : FrT t h h') :
    RwH h' p.1.1 12 6 p.2.1 (zh w) (heaV w) ∧ RwH h' p.1.2.1 8 5 p.2.2.1 (zd w) (deeV w) ∧ RwH h' p.1.2.2.1 150 4 p.2.2.2.1 (zb w) (fun i c => w (223 + 4 * i + c)) ∧
    RwH h' p.1.2.2.2.1 (hnL w).length 2 p.2.2.2.2.1 (hnL w).length (fun i c => w (105 + 3 * (hnL w).getD i 0 + 1 + c)) ∧ RwH h' p.1.2.2.2.2.1 (zp w) 2 p.2.2.2.2.2 (zp w) (fun i c => w (153 + 2 * i + c)) ∧
    ((∃ rs, h'.2.1[p.1.2.2.2.2.2.1]? = some (100, 12, rs)) ∧ ∀ k, k < 12 → h'.2.2 p.1.2.2.2.2.2.1 k = w (185 + k)) ∧ lwR h' p.1.2.2.2.2.2.2 dl := by
  obtain ⟨⟨a1, a2⟩, aI, am, ad, al, ah, ap, ⟨⟨rs, ab⟩, ab2⟩, aw⟩ := id H
  have sh : ∀ {c n k : Nat} {r : List (Option Nat)}, h.2.1[c]? = some (n, k, r) → n ≠ 12 → h'.2.1[c]? = some (n, k, r) := fun e hn => (F.2 _ (len_of e) (ne_of_tag e a2 hn)).1.trans e
  have me : ∀ {c n k : Nat} {r : List (Option Nat)}, h.2.1[c]? = some (n, k, r) → n ≠ 12 → 123 ≤ c → h'.2.2 c = h.2.2 c := fun e hn g => (F.2 _ (len_of e) (ne_of_tag e a2 hn)).2 g
  have ha : ∀ {a n k zz : Nat} {r : Nat → Nat} {f : Nat → Nat → Int32}, RwH h a n k r zz f → h'.2.1[a]? = h.2.1[a]? := fun R => by
    obtain ⟨⟨rs, q, -⟩, -⟩ := R
    exact (sh q (by decide)).trans q.symm
  have zR : ∀ {i n k : Nat} {r : Nat → Nat} {a zz : Nat} {f : Nat → Nat → Int32}, RwH h a n k r zz f → i < zz → 123 ≤ r i → ∀ e, h.2.1[r i]? = some e → h'.2.1[r i]? = some e ∧ h'.2.2 (r i) = h.2.2 (r i) := fun R hi hk e he => by
    obtain ⟨⟨rs, q⟩, -⟩ := R.2 _ hi
    rw [q] at he
    cases he
    exact ⟨sh q (by decide), me q (by decide) hk⟩
  have zG : ∀ {i n k : Nat} {r : Nat → Nat} {a zz : Nat} {f : Nat → Nat → Int32}, RwH h a n k r zz f → i < zz → (k = 4 ∨ k = 2 ∨ k = 6) → 123 ≤ r i := fun R hi hk => by
    obtain ⟨⟨rs, q⟩, -⟩ := R.2 _ hi
    exact ge_of hl q hk
  refine ⟨?_, ?_, ?_, ?_, ?_, ?_, ?_⟩
  · exact am.mv (ha am) (fun i hi e he => zR am hi (zG am hi (by decide)) e he) (fun _ _ _ _ => rfl)
  · exact ad.mv (ha ad) (fun i hi e he => zR ad hi (B.ge5 h0 a1 hi) e he) (fun _ _ _ _ => rfl)
  · exact al.mv (ha al) (fun i hi e he => zR al hi (zG al hi (by decide)) e he) (fun _ _ _ _ => rfl)
  · exact ah.mv (ha ah) (fun i hi e he => zR ah hi (zG ah hi (by decide)) e he) (fun _ _ _ _ => rfl)
  · exact ap.mv (ha ap) (fun i hi e he => zR ap hi (zG ap hi (by decide)) e he) (fun _ _ _ _ => rfl)
  · exact ⟨⟨rs, sh ab (by decide)⟩, fun k hk => by rw [me ab (by decide) b.1]; exact ab2 k hk⟩
  · cases e : p.1.2.2.2.2.2.2 with
    | none =>
      rw [e] at aw
      cases dl with
      | none => trivial
      | some dv => exact aw.elim
    | some r =>
      rw [e] at aw
      cases dl with
      | none => exact aw.elim
      | some dv =>
        obtain ⟨⟨rs, l1⟩, l2⟩ := aw
        exact ⟨⟨rs, sh l1 (by decide)⟩, fun j hj => by rw [me l1 (by decide) (b.2 r e)]; exact l2 j hj⟩
/-- one row more is put into an array of rows -/
theorem rw_put (kl : lk h) (R : RwH h A n k r z f) (hz : z < n) (hn : n < 2 ^ 31) (g : 123 ≤ A) (hq : h.2.1[q]? = some (100, k, rs)) (hf : ∀ c, c < k → h.2.2 q c = f z c) :
    ∃ h1, sQ h 103 A (nI z) q = some h1 ∧ RwH h1 A n k (fun i => if i = z then q else r i) (z + 1) f ∧ h1.1 = h.1 ∧ h1.2.2 = h.2.2 ∧ (∀ c, c ≠ A → h1.2.1[c]? = h.2.1[c]?) ∧ csz h1.2.1 = csz h.2.1 ∧ ssz h1.2.1 = ssz h.2.1 ∧ lk h1 := by
  obtain ⟨⟨rA, e1, e2, e3, e4⟩, R2⟩ := R
  have lA := len_of e1
  have hc : (nI z).toNatClampNeg = z := nI_clamp (by omega)
  have ne : q ≠ A := ne_of_tag hq e1 (by decide)
  refine ⟨_, e_sQ e1 hq rfl (inb_nI hz (by omega)) g (by rw [hc]; omega), ?_, rfl, rfl, fun c hc => ?_, ?_, ?_, ?_⟩
  · rw [hc]
    refine ⟨⟨rA.set z (some q), ?_, by rw [List.length_set]; exact e2, by omega, fun i hi => ?_⟩, fun i hi => ?_⟩
    · show (h.2.1.set A _)[A]? = _
      rw [List.getElem?_set, if_pos rfl, if_pos lA]
    · by_cases e : i = z
      · subst e
        show _ = some (if i = i then q else r i)
        rw [if_pos rfl, List.getD_eq_getElem?_getD, List.getElem?_set, if_pos rfl, if_pos (by omega)]
        rfl
      · show _ = some (if i = z then q else r i)
        rw [if_neg e, List.getD_eq_getElem?_getD, List.getElem?_set, if_neg (fun y => e y.symm), ← List.getD_eq_getElem?_getD]
        exact e4 i (by omega)
    · by_cases e : i = z
      · subst e
        dsimp only
        rw [if_pos rfl]
        refine ⟨⟨rs, ?_⟩, hf⟩
        show (h.2.1.set A _)[q]? = _
        rw [List.getElem?_set, if_neg (fun y => ne y.symm)]
        exact hq
      · dsimp only
        rw [if_neg e]
        obtain ⟨⟨rs2, q1⟩, q2⟩ := R2 i (by omega)
        refine ⟨⟨rs2, ?_⟩, q2⟩
        have ne2 : r i ≠ A := ne_of_tag q1 e1 (by decide)
        show (h.2.1.set A _)[r i]? = _
        rw [List.getElem?_set, if_neg (fun y => ne2 y.symm)]
        exact q1
  · show (h.2.1.set A _)[c]? = _
    rw [List.getElem?_set, if_neg (fun y => hc y.symm)]
  · exact List.length_set
  · exact ssz_set _ _ (103, n, rA) (103, n, rA.set (nI z).toNatClampNeg (some q)) e1 rfl
  · refine lk_set kl g (fun j q1 hj => ?_)
    dsimp only at hj
    rw [hc, List.getD_eq_getElem?_getD, List.getElem?_set] at hj
    by_cases e : z = j
    · subst e
      rw [if_pos rfl, if_pos (by omega)] at hj
      cases hj
      exact len_of hq
    · rw [if_neg e, ← List.getD_eq_getElem?_getD] at hj
      exact kl.2.2.1 A _ e1 j q1 hj
/-- an array of rows made -/
theorem rw_new (kl : lk h) (hn : csz h.2.1 + 1 < 1000000) (h9 : n ≤ 16) : ∃ h1, nQ h 103 (nI n) = some h1 ∧ (∀ k r f, RwH h1 h.2.1.length n k r 0 f) ∧ FrA h h1 ∧ lk h1 ∧ csz h1.2.1 = csz h.2.1 + 1 ∧ ssz h1.2.1 = ssz h.2.1 + n := by
  have hc : (nI n).toNatClampNeg = n := nI_clamp (by omega)
  have n1 : h.2.1.length + 1 < 1000000 := hn
  refine ⟨_, e_nQ (fun z => by
    have := (nI_ltI (a := n) (b := 0) (by omega) (by decide)).mp z
    omega) (by rw [hc]; omega) n1, ?_, ?_, ?_, ?_, ?_⟩
  · intro k r f
    rw [hc]
    exact ⟨⟨_, gw_new, List.length_replicate, Nat.zero_le _, fun i hi => absurd hi (by omega)⟩, fun i hi => absurd hi (by omega)⟩
  · exact ⟨rfl, by rw [gw_len]; omega, fun c hc => ⟨gw_old hc, gw_mo hc⟩⟩
  · refine lk_gr kl n1 (fun j q hq => ?_)
    dsimp only at hq
    rw [List.getD_eq_getElem?_getD, List.getElem?_replicate] at hq
    split at hq <;> cases hq
  · exact gw_len
  · rw [ssz_gr, hc]
end PHASE
