/-! the statutes told, line after line -/
section STATH
variable {h h' h1 h2 h0 hb : DS} {N t B Bt At P n c k j i z q a b u e m C S C' S' : Nat} {p : Plc} {w w' : Arr} {T H : List St3} {s s' : List Nat} {Q : Int32 → DS → Prop} {x : St3} {v y s6 s7 s8 s9 a2 p3 : Int32} {p5 nn : Nat} {oo : Option SE} {K : Int32 → DS → DA} {X : (Int32 × Int32) → DS → DA}
def rwF (H : List St3) (i c : Nat) : Int32 := nI (if c = 0 then (H.getD i (0, 0, 0)).2.1 else (H.getD i (0, 0, 0)).2.2)
theorem rwF_sn (hi : i < H.length) : rwF (H ++ [x]) i c = rwF H i c := by
  unfold rwF
  rw [List.getD_eq_getElem?_getD, List.getElem?_append_left hi, ← List.getD_eq_getElem?_getD]
theorem rwF_at : rwF (H ++ [x]) H.length c = nI (if c = 0 then x.2.1 else x.2.2) := by
  unfold rwF
  rw [List.getD_eq_getElem?_getD, List.getElem?_append_right (Nat.le_refl _), Nat.sub_self]
  rfl
/-- what is told lies in the StringBuilder Bt (the text s) and in the array At (the rows H) -/
def StB (nn : Nat) (oo : Option SE) (h0 : DS) (t Bt At : Nat) (s : List Nat) (H : List St3) (C S : Nat) (h : DS) : Prop :=
  FrE (fun c => c = t) h0 h ∧ lk h ∧ h0.2.1.length ≤ Bt ∧ h0.2.1.length ≤ At ∧ (∃ V cap, SbV h Bt V cap s ∧ h0.2.1.length ≤ V) ∧
  (∃ r, RwH h At nn 2 r H.length (rwF H) ∧ ∀ i, i < H.length → h0.2.1.length ≤ r i) ∧ h.2.1[t]? = oo ∧ (∀ j, (j < 10 ∨ 14 ≤ j) → h.2.2 t j = h0.2.2 t j) ∧ csz h.2.1 ≤ csz h0.2.1 + C ∧ ssz h.2.1 ≤ ssz h0.2.1 + S
/-- the numbers of the House that the statutes make -/
def StF (t u : Nat) (T : List St3) (h : DS) : Prop := h.2.2 t 10 = nI (lasT 1 9 T) ∧ h.2.2 t 11 = nI (lasT 2 300 T) ∧ h.2.2 t 12 = nI (dblT T) ∧ h.2.2 t 13 = nI u
theorem StB.fra (I : StB nn oo h0 t Bt At s H C S h) (tl : t < h0.2.1.length) (F : FrA h h') (kl : lk h') (c1 : csz h'.2.1 ≤ csz h.2.1 + k) (s1 : ssz h'.2.1 ≤ ssz h.2.1 + m) : StB nn oo h0 t Bt At s H (C + k) (S + m) h' ∧ h'.2.2 t = h.2.2 t := by
  obtain ⟨i1, i2, i3, i4, ⟨V, cap, i5, i6⟩, ⟨r, i7, i8⟩, i9, i10, i11, i12⟩ := I
  have le := i1.2.1
  have ft := F.2.2 t (by omega)
  refine ⟨⟨i1.tr (F.fre (E := fun c => c = t)) (fun c _ hc => hc), kl, i3, i4, ⟨V, cap, i5.fre (F.fre (E := fun _ => False)) id id, i6⟩, ⟨r, ?_, i8⟩, ft.1.trans i9, fun j hj => (congrFun ft.2 j).trans (i10 j hj), by omega, by omega⟩, ft.2⟩
  refine i7.mv (F.2.2 At i7.la).1 (fun i hi e he => ?_) (fun _ _ _ _ => rfl)
  have := F.2.2 _ (len_of he)
  exact ⟨this.1.trans he, this.2⟩
theorem StB.set (I : StB nn oo h0 t Bt At s H C S h) (tl : t < h0.2.1.length) (t123 : 123 ≤ t) (hj : 10 ≤ j) (hj2 : j < 14) : StB nn oo h0 t Bt At s H C S (h.1, h.2.1, mset h.2.2 t j v) := by
  obtain ⟨i1, i2, i3, i4, ⟨V, cap, i5, i6⟩, ⟨r, i7, i8⟩, i9, i10, i11, i12⟩ := I
  have F : FrE (fun c => c = t) h (h.1, h.2.1, mset h.2.2 t j v) := ⟨rfl, Nat.le_refl _, fun c _ hc => ⟨rfl, mset_ne hc⟩⟩
  refine ⟨i1.tr F (fun c _ hc => hc), lk_mset i2 t123, i3, i4, ⟨V, cap, i5.fre F (by omega) (by omega), i6⟩, ⟨r, ?_, i8⟩, i9, fun j' hj' => (mset_j (by omega)).trans (i10 j' hj'), i11, i12⟩
  exact i7.mv rfl (fun i hi e he => ⟨he, mset_ne (by have := i8 i hi; omega)⟩) (fun _ _ _ _ => rfl)
theorem StB.put {rs : List (Option Nat)} (I : StB nn oo h0 t Bt At s H C S h) (tl : t < h0.2.1.length) (t123 : 123 ≤ t) (hq : h.2.1[q]? = some (100, 2, rs)) (gq : h0.2.1.length ≤ q) (v0 : h.2.2 q 0 = nI x.2.1) (v1 : h.2.2 q 1 = nI x.2.2) (hH : H.length < nn) (h9 : nn ≤ 16) :
    ∃ h', sQ h 103 At (nI H.length) q = some h' ∧ StB nn oo h0 t Bt At s (H ++ [x]) C S h' ∧ h'.2.2 = h.2.2 := by
  obtain ⟨i1, i2, i3, i4, ⟨V, cap, i5, i6⟩, ⟨r, i7, i8⟩, i9, i10, i11, i12⟩ := I
  have i7' : RwH h At nn 2 r H.length (rwF (H ++ [x])) := i7.mv rfl (fun i hi e he => ⟨he, rfl⟩) (fun i hi c _ => rwF_sn hi)
  obtain ⟨h1, e1, g1, g2, g3, g4, g5, g6, g7⟩ := rw_put i2 i7' hH (by omega) (by omega) hq (fun c hc => by
    rw [rwF_at]
    match c, hc with
    | 0, _ => exact v0
    | 1, _ => exact v1
    | c + 2, hc => exact absurd hc (by omega))
  have eA := i7.1
  obtain ⟨rA, eA, -⟩ := eA
  have nB : Bt ≠ At := ne_of_tag i5.2.1 eA (by decide)
  have nV : V ≠ At := by
    obtain ⟨rs, e⟩ := i5.2.2.2.2.1
    exact ne_of_tag e eA (by decide)
  have F : FrE (fun c => c = At) h h1 := ⟨g2, Nat.le_of_eq g5.symm, fun c _ hc => ⟨g4 c hc, by rw [g3]⟩⟩
  refine ⟨h1, e1, ⟨i1.tr F (fun c hc _ => by omega), g7, i3, i4, ⟨V, cap, i5.fre F nB nV, i6⟩, ⟨_, by rw [List.length_append]; exact g1, fun i hi => ?_⟩, (g4 t (by omega)).trans i9, fun j hj => by rw [g3]; exact i10 j hj, by omega, by omega⟩, g3⟩
  show _ ≤ (if i = H.length then q else r i)
  split
  · exact gq
  · rw [List.length_append, List.length_singleton] at hi
    exact i8 i (by omega)
/-- the line's text goes behind the others -/
theorem st_tail {F : Nat → DS → DA} (I : StB nn oo h0 t Bt At s H C S hb) (tl : t < h0.2.1.length) (b : Bld hb B s' k m h) (A : Asc s') (hC : C + csz h0.2.1 + k + 4 < 1000000) (hl : s.length + s'.length ≤ 400)
    (q : ∀ h', StB nn oo h0 t Bt At (s ++ s') H (C + (k + 3)) (S + (m + 1300)) h' → h'.2.2 t = hb.2.2 t → Wd (F Bt h') Q) :
    Wd (chk (isT h 13 B) <| bd3 (g_J4_toString_0e30d N B h) fun v h1 => chk (decide (v ≠ -1)) <| bnd v.toNatClampNeg fun r => chk (isT h1 13 Bt) <| bd3 (g_J4_append_15ec4 N Bt r h1) fun v2 h2 => chk (decide (v2 ≠ -1)) <| bnd v2.toNatClampNeg fun r2 => F r2 h2) Q := by
  have I' := id I
  obtain ⟨i1, i2, i3, i4, ⟨V, cap, i5, i6⟩, ⟨r, i7, i8⟩, i9, i10, i11, i12⟩ := I'
  refine bl_str b A (by omega) (fun S1 V1 h1 f1 k1 m1 l1 l2 c1 z1 => ?_)
  refine bl_out i5 f1 k1 m1 l1 l2 A (by omega) (by omega) (fun h2 V' cap' g1 g2 g3 g4 g5 g6 => ?_)
  obtain ⟨rA, eA, -⟩ := i7.1
  have le := i1.2.1
  have ne : ∀ {c n k : Nat} {r : List (Option Nat)}, hb.2.1[c]? = some (n, k, r) → n ≠ 13 → n ≠ 102 → ¬ (c = Bt ∨ c = V) := fun e n1 n2 y => by
    rcases y with y | y
    · exact ne_of_tag e i5.2.1 n1 y
    · obtain ⟨rs, e'⟩ := i5.2.2.2.2.1
      exact ne_of_tag e e' n2 y
  have ft := g3.2.2 t (by omega) (by omega)
  refine q h2 ⟨i1.tr g3 (fun c hc _ => by omega), g4, i3, i4, ⟨V', cap', g1, by omega⟩, ⟨r, ?_, i8⟩, ft.1.trans i9, fun j hj => (congrFun ft.2 j).trans (i10 j hj), by omega, by omega⟩ ft.2
  refine i7.mv (g3.2.2 At i7.la (ne eA (by decide) (by decide))).1 (fun i hi e he => ?_) (fun _ _ _ _ => rfl)
  obtain ⟨⟨rs, q1⟩, -⟩ := i7.2 i hi
  have := g3.2.2 _ (len_of q1) (ne q1 (by decide) (by decide))
  exact ⟨this.1.trans he, this.2⟩
end STATH
