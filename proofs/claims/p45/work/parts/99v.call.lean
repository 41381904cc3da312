/-! a call of the class, the ghost going with it; what the law made stays -/
section CALLW
variable {h h' h2 : DS} {t N d hh b c o u a1 : Nat} {p : Plc} {w w' : Arr} {dl : Option (Nat → Int32)} {lb lb' : Nat → Nat × Nat × Nat} {Q : Int32 → DS → Prop} {m m1 m2 : Mem} {LN : List Lin}
theorem pat_gst {y : Mem → Ans} {v : Int32} (e : y m1 = some (v, m2)) (hA : Ag m1 m2) : gs y (pat h m1) = pat h m2 := by
  have e1 : gst y m1 = m2 := by
    funext k
    unfold gst
    rw [e]
    show (if k < 123 then m1 k else m2 k) = m2 k
    by_cases q : k < 123
    · rw [if_pos q]; exact (hA k q).symm
    · rw [if_neg q]
  show (gst y m1, h.2.1, fun k => if k < 123 then m1 k else h.2.2 k) = (m2, h.2.1, fun k => if k < 123 then m2 k else h.2.2 k)
  rw [e1]
  have : (fun k => if k < 123 then m1 k else h.2.2 k) = fun k => if k < 123 then m2 k else h.2.2 k := by
    funext k
    by_cases q : k < 123
    · rw [if_pos q, if_pos q]; exact (hA k q).symm
    · rw [if_neg q, if_neg q]
  rw [this]
theorem wd_call {x y : Mem → Ans} (P : Pr x y) (gx : PsG h.1 (x h.1)) (gy : ∀ m, PsA m (y m)) (hI : Inv h.1) {k : Int32 → DS → DA} (q : ∀ v m1 m2, Gh h.1 m1 → y m1 = some (v, m2) → Inv m2 → Wd (k v (pat h m2)) Q) : Wd (bdX (x h.1) h fun v hh => bnd (gs y hh) fun h' => k v h') Q := by
  obtain ⟨v, m1, e1, v2, m2, e2, e3, hI2⟩ := P h.1 hI
  subst e3
  rw [e1]
  show Wd (k v (gs y (pat h m1))) Q
  rw [pat_gst e2 (gy m1 _ _ e2)]
  exact q v m1 m2 (gx _ _ e1) e2 hI2
theorem lk_pm (hl : lk h) : lk (pat h m) := ⟨fun k hk => if_pos hk, hl.2.1, hl.2.2.1, hl.2.2.2⟩
/-- beside and the law's numbers lie behind the class -/
def PB (p : Plc) : Prop := 123 ≤ p.1.2.2.2.2.2.1 ∧ ∀ r, p.1.2.2.2.2.2.2 = some r → 123 ≤ r
theorem PB.of {p' : Plc} (b : PB p) (e : p'.1.2.2.2.2.2 = p.1.2.2.2.2.2) : PB p' := by
  unfold PB at b ⊢
  rw [e]
  exact b
theorem sg_none {k n : Nat} {r : List (Option Nat)} (hk : k < 123) (hn : n = 4 ∨ n = 2 ∨ n = 6) : SG[k]? ≠ some (100, n, r) := by
  intro e
  have h1 : ∀ k, k < 123 → ((SG[k]?).map fun e => decide (e.1 = 100 ∧ (e.2.1 = 4 ∨ e.2.1 = 2 ∨ e.2.1 = 6))).getD false = false := by decide +kernel
  have h2 := h1 k hk
  rw [e] at h2
  have h3 : decide ((100 : Nat) = 100 ∧ (n = 4 ∨ n = 2 ∨ n = 6)) = false := h2
  exact absurd (And.intro rfl hn) (of_decide_eq_false h3)
theorem ge_of {n : Nat} {r : List (Option Nat)} (hl : lk h) (e : h.2.1[c]? = some (100, n, r)) (hn : n = 4 ∨ n = 2 ∨ n = 6) : 123 ≤ c := by
  rcases Nat.lt_or_ge c 123 with z | z
  · have h1 := hl.2.1 _ z
    rw [e] at h1
    exact absurd h1.symm (sg_none z hn)
  · exact z
theorem HLb.ge5 (B : HLb lb t p w) (h0 : ∀ c, c < 123 → (lb c).1 = 0) (ht : 123 ≤ t) {i : Nat} (hi : i < zd w) : 123 ≤ p.2.2.1 i := by
  rcases Nat.lt_or_ge (p.2.2.1 i) 123 with z | z
  · have := h0 _ z
    rw [B.2.2.2.2.2.1 i hi] at this
    have : t = 0 := this
    omega
  · exact z
/-- the law's own cells as they were; the class's may be others -/
def FrL (h h' : DS) : Prop := h.2.1.length ≤ h'.2.1.length ∧ ∀ c, c < h.2.1.length → h'.2.1[c]? = h.2.1[c]? ∧ (123 ≤ c → h'.2.2 c = h.2.2 c)
theorem FrL.rf : FrL h h := ⟨Nat.le_refl _, fun _ _ => ⟨rfl, fun _ => rfl⟩⟩
theorem FrL.tr (a : FrL h h') (q : FrL h' h2) : FrL h h2 := ⟨Nat.le_trans a.1 q.1, fun c hc => ⟨(q.2 c (Nat.lt_of_lt_of_le hc a.1)).1.trans (a.2 c hc).1, fun g => ((q.2 c (Nat.lt_of_lt_of_le hc a.1)).2 g).trans ((a.2 c hc).2 g)⟩⟩
theorem FrA.frl (a : FrA h h') : FrL h h' := ⟨a.2.1, fun c hc => ⟨(a.2.2 c hc).1, fun _ => (a.2.2 c hc).2⟩⟩
theorem pat_hi (hc : 123 ≤ c) : (pat h m).2.2 c = h.2.2 c := if_neg (by omega)
theorem frl_pat : FrL h (pat h m) := ⟨Nat.le_refl _, fun c _ => ⟨rfl, fun g => pat_hi g⟩⟩
theorem HouR.frl (H : HouR h t p w dl) (B : HLb lb t p w) (b : PB p) (hl : lk h) (h0 : ∀ c, c < 123 → (lb c).1 = 0) (F : FrL h h') : HouR h' t p w dl := by
  obtain ⟨⟨a1, a2⟩, aI, am, ad, al, ah, ap, ⟨⟨rs, ab⟩, ab2⟩, aw⟩ := id H
  have sh : ∀ {c : Nat} {e : SE}, h.2.1[c]? = some e → h'.2.1[c]? = some e := fun e => (F.2 _ (len_of e)).1.trans e
  have me : ∀ {c : Nat} {e : SE}, h.2.1[c]? = some e → 123 ≤ c → h'.2.2 c = h.2.2 c := fun e g => (F.2 _ (len_of e)).2 g
  have ha : ∀ {a n k zz : Nat} {r : Nat → Nat} {f : Nat → Nat → Int32}, RwH h a n k r zz f → h'.2.1[a]? = h.2.1[a]? := fun R => (F.2 _ R.la).1
  have zR : ∀ {i n k : Nat} {r : Nat → Nat} {a zz : Nat} {f : Nat → Nat → Int32}, RwH h a n k r zz f → i < zz → (k = 4 ∨ k = 2 ∨ k = 6) → ∀ e, h.2.1[r i]? = some e → h'.2.1[r i]? = some e ∧ h'.2.2 (r i) = h.2.2 (r i) := fun R hi hk e he => by
    obtain ⟨⟨rs, q⟩, -⟩ := R.2 _ hi
    exact ⟨sh he, me he (ge_of hl q hk)⟩
  refine ⟨⟨a1, sh a2⟩, ?_, ?_, ?_, ?_, ?_, ?_, ?_, ?_⟩
  · unfold HouI at aI ⊢
    rw [me a2 a1]
    exact aI
  · exact am.mv (ha am) (fun i hi e he => zR am hi (by decide) e he) (fun _ _ _ _ => rfl)
  · exact ad.mv (ha ad) (fun i hi e he => ⟨sh he, me he (B.ge5 h0 a1 hi)⟩) (fun _ _ _ _ => rfl)
  · exact al.mv (ha al) (fun i hi e he => zR al hi (by decide) e he) (fun _ _ _ _ => rfl)
  · exact ah.mv (ha ah) (fun i hi e he => zR ah hi (by decide) e he) (fun _ _ _ _ => rfl)
  · exact ap.mv (ha ap) (fun i hi e he => zR ap hi (by decide) e he) (fun _ _ _ _ => rfl)
  · exact ⟨⟨rs, sh ab⟩, fun k hk => by rw [me ab b.1]; exact ab2 k hk⟩
  · cases e : p.1.2.2.2.2.2.2 with
    | none =>
      rw [e] at aw
      cases dl with
      | none => trivial
      | some dv => exact aw.elim
    | some r =>
      rw [e] at aw
      cases dl with
      | none => exact aw.elim
      | some dv =>
        obtain ⟨⟨rs, l1⟩, l2⟩ := aw
        exact ⟨⟨rs, sh l1⟩, fun j hj => by rw [me l1 (b.2 r e)]; exact l2 j hj⟩
theorem HS.pat (H : HS lb h t p w dl) (b : PB p) : HS lb (pat h m) t p w dl := ⟨H.1.frl H.2.1 b H.2.2.1 H.2.2.2 frl_pat, H.2.1, lk_pm H.2.2.1, H.2.2.2⟩
/-- the law's row of the state: where the class stands -/
def Lw (LN : List Lin) (w : Arr) : Prop := lawW w LN ∧ lawOk LN
theorem Inv.good (hI : Inv m) (L : Lw LN (m 124)) : Good LN (m 124) := by
  obtain ⟨LN0, H, G, -⟩ := hI
  exact ⟨G.1, G.2.1, L.1⟩
end CALLW
