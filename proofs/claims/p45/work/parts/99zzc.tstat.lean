/-! the first text, whole -/
section TSTAT
variable {h h' h1 h2 h3 h0 hb : DS} {N t B Bt At A2 P n c k j i z q a b u e m C S C' S' V cap : Nat} {p : Plc} {w w' : Arr} {dl : Option (Nat → Int32)} {LN : List Lin} {lb lb' : Nat → Nat × Nat × Nat} {T H : List St3} {s s' : List Nat} {Q : Int32 → DS → Prop} {r : Nat → Nat} {v y x a2 p3 : Int32} {p5 : Nat} {K : DS → DA} {X : Int32 → DS → DA} {rs : List (Option Nat)} {R : List Rw4} {m1 m0 m5 : Mem}
/-- a part of the texts is told -/
def TxP (LN : List Lin) (dl : Option (Nat → Int32)) (lb : Nat → Nat × Nat × Nat) (t : Nat) (w : Arr) (C S : Nat) (h h' : DS) : Prop := ∃ lb' p' w', TI LN dl lb' t p' w' h' ∧ h'.1 123 4 = nI 0 ∧ w' 1 = w 1 ∧ (∀ c, c < h.2.1.length → lb' c = lb c) ∧ KpL lb t h h' ∧ csz h'.2.1 ≤ csz h.2.1 + C ∧ ssz h'.2.1 ≤ ssz h.2.1 + S
theorem TxOk.one (h : TxOk 1 [] R m1 m5) : m5 123 4 = nI 0 ∧ m5 124 41 = nI R.length ∧ (∀ i, i ≠ 41 → (i < 105 ∨ 153 ≤ i) → m5 124 i = m1 124 i) ∧ ∀ i q, R[i]? = some q → m5 124 (105 + 3 * i) = nI (trK 1 q.1) ∧ m5 124 (105 + 3 * i + 1) = q.2.1 ∧ m5 124 (105 + 3 * i + 2) = q.2.2.1 := by
  rcases h with h | h | h | h
  · exact absurd h.1 (by decide)
  · exact h.2
  · exact absurd h.1 (by decide)
  · exact absurd h.1 (by decide)
theorem Inv.wf (hI : Inv m1) : WFc (m1 124) := by
  obtain ⟨LN0, -, G, -⟩ := hI
  exact G.1
theorem HSh_len {a b c d e f : Nat} {g : Option Nat} : (HSh a b c d e f g).length = 25 := rfl
theorem w_wR (kl : lk h) (et : h.2.1[t]? = some (12, 25, rs)) (hrs : rs.length = 25) (t123 : 123 ≤ t) (hj : j < 25) (hr : isR 12 j = true) (hq : q < h.2.1.length) :
    ∃ h', wR h t 12 j (some q) = some h' ∧ lk h' ∧ FrE (fun c => c = t) h h' ∧ h'.2.1[t]? = some (12, 25, rs.set j (some q)) ∧ h'.2.2 = h.2.2 ∧ csz h'.2.1 = csz h.2.1 ∧ ssz h'.2.1 = ssz h.2.1 := by
  have tl := len_of et
  refine ⟨_, e_wR et hj hr t123 (by omega) (fun q' hq' => by cases hq'; exact hq), ?_, ?_, ?_, rfl, List.length_set, ssz_set _ _ (12, 25, rs) (12, 25, _) et rfl⟩
  · refine lk_set kl t123 (fun i q' hi => ?_)
    dsimp only at hi
    rw [List.getD_eq_getElem?_getD, List.getElem?_set] at hi
    by_cases e : j = i
    · subst e
      rw [if_pos rfl, if_pos (by omega)] at hi
      cases hi
      exact hq
    · rw [if_neg e, ← List.getD_eq_getElem?_getD] at hi
      exact kl.2.2.1 t _ et i q' hi
  · exact ⟨rfl, Nat.le_of_eq List.length_set.symm, fun c _ hc => ⟨by
      show (h.2.1.set t _)[c]? = _
      rw [List.getElem?_set, if_neg (fun e => hc e.symm)], rfl⟩⟩
  · show (h.2.1.set t _)[t]? = _
    rw [List.getElem?_set, if_pos rfl, if_pos tl]
theorem t_stat (hN : 20000 ≤ N) (I : TI LN dl lb t p w h) (ev : evB 200 w) (hn : csz h.2.1 + 3000 < 1000000)
    (hX : ∀ h', TxP LN dl lb t w 200 17000 h h' → Wd (bo (dI h' t 12 8) fun a_448 => if a_448 = 0 then (g_L_texts_J467 N t x (0 : Int32) h') else (bd3 (g_L_between N (x >>> ((5 : Int32) &&& 31)) (0 : Int32) (7 : Int32) h') fun v_464 h_464 => g_L_texts_J467 N t x v_464 h_464)) Q) :
    Wd (g_L_texts N t x h) Q := by
  obtain ⟨HS0, bp, I0, ew, L, h16⟩ := I
  have W0 : WFc w := by rw [← ew]; exact I0.wf
  have lz := W0.lzh
  have kl := HS0.2.2.1
  have eT := HS0.1.ob
  have t123 := HS0.1.1.1
  have tl := len_of eT
  obtain ⟨e, e1, he⟩ := ev
  have hI := HS0.1.int
  have e2 : h.2.2 t 2 = nI e := hI.2.2.1.trans e1
  have e7 : h.2.2 t 7 = nI (zh w) := hI.2.2.2.2.2.2.2.1.trans W0.h37
  unfold g_L_texts
  refine wd_btw (lo := 0) (hi := 8) rfl rfl (by decide) (by decide) (fun u _ hu => ?_)
  refine bl_new kl (by omega) (fun v1 h1 b1 => ?_)
  obtain ⟨b1f, b1k, b1l, ⟨V1, cap1, b1s, b1v⟩, b1c, b1z⟩ := b1
  obtain ⟨h2, n2, r2, f2, k2, c2, z2⟩ := rw_new (n := 16) b1k (by omega) (by decide)
  refine wd_bo n2 ?_
  have F2 := b1f.tr f2
  have ft := F2.2.2 t tl
  have et2 := ft.1.trans eT
  have le1 := b1f.2.1
  have B2 : StB 16 (h.2.1[t]?) h t h.2.1.length h1.2.1.length [] [] 5 50 h2 := by
    refine ⟨F2.fre, k2, Nat.le_refl _, le1, ⟨V1, cap1, b1s.fre (f2.fre (E := fun _ => False)) id id, b1v⟩, ⟨fun _ => 0, r2 2 _ _, fun i hi => absurd hi (by simp)⟩, ft.1, fun j _ => congrFun ft.2 j, by omega, by omega⟩
  -- the four numbers
  have wi : ∀ {j : Nat} {v : Int32} {h' : DS} {f : DS → DA}, StB 16 (h.2.1[t]?) h t h.2.1.length h1.2.1.length [] [] 5 50 h' → 10 ≤ j → j < 14 → isR 12 j = false → (StB 16 (h.2.1[t]?) h t h.2.1.length h1.2.1.length [] [] 5 50 (h'.1, h'.2.1, mset h'.2.2 t j v) → Wd (f (h'.1, h'.2.1, mset h'.2.2 t j v)) Q) → Wd (bo (wI h' t 12 j v) f) Q := by
    intro j v h' f B h1 h2 h3 q
    exact wd_bo (e_wI (B.2.2.2.2.2.2.1.trans eT) (by omega) h3 t123) (q (B.set tl t123 h1 h2))
  refine wi B2 (by decide) (by decide) (by decide) (fun B3 => ?_)
  refine wi B3 (by decide) (by decide) (by decide) (fun B4 => ?_)
  refine wi B4 (by decide) (by decide) (by decide) (fun B5 => ?_)
  refine wi B5 (by decide) (by decide) (by decide) (fun B6 => ?_)
  have I6 : StI h t h.2.1.length h1.2.1.length u (zh w) [] (h2.1, h2.2.1, mset (mset (mset (mset h2.2.2 t 10 (9 : Int32)) t 11 (300 : Int32)) t 12 (0 : Int32)) t 13 (nI u)) := by
    refine ⟨B6, ⟨?_, ?_, ?_, mset_at _ _ _ _⟩, fun x hx => absurd hx (List.not_mem_nil), by decide⟩
    · exact (mset_j (by decide)).trans ((mset_j (by decide)).trans ((mset_j (by decide)).trans (mset_at _ _ _ _)))
    · exact (mset_j (by decide)).trans ((mset_j (by decide)).trans (mset_at _ _ _ _))
    · exact (mset_j (by decide)).trans (mset_at _ _ _ _)
  refine w_L55 hN lz e7 e2 he ⟨_, eT⟩ t123 (by omega) I6 hu (fun T h7 hT I7 => ?_)
  subst hT
  clear I6 B6 B5 B4 B3 wi
  have hHl : (hdT T).length ≤ 8 := by
    have := hdT_le (T := T)
    omega
  have I7' := id I7
  obtain ⟨⟨i1, i2, i3, i4, ⟨V7, cap7, i5, i5v⟩, ⟨r7, i6, i6l⟩, i7, i8, i9, i10⟩, iF, iO, i11⟩ := I7'
  have n7 : csz h7.2.1 = h7.2.1.length := rfl
  have le7 := i1.2.1
  obtain ⟨h8, n8, r8, f8, k8, c8, z8⟩ := rw_new (n := (hdT T).length) i2 (by omega) (by omega)
  refine wd_bo n8 ?_
  have ft8 := f8.2.2 t (by omega)
  have et8 := ft8.1.trans (i7.trans eT)
  have l8 : h7.2.1.length < h8.2.1.length := by
    have : csz h8.2.1 = h8.2.1.length := rfl
    omega
  refine wd_bo (e_wR (o := some h7.2.1.length) et8 (by decide) (by decide) t123 (show (18 : Nat) < 25 by decide) (fun q hq => by cases hq; exact l8)) ?_
  obtain ⟨h9, eh9⟩ : ∃ h9 : DS, h9 = (h8.1, h8.2.1.set t (12, 25, (HSh p.1.1 p.1.2.1 p.1.2.2.1 p.1.2.2.2.1 p.1.2.2.2.2.1 p.1.2.2.2.2.2.1 p.1.2.2.2.2.2.2).set 18 (some h7.2.1.length)), h8.2.2) := ⟨_, rfl⟩
  rw [← eh9]
  have k9 : lk h9 := by
    rw [eh9]
    refine lk_set k8 t123 (fun j q hj => ?_)
    dsimp only at hj
    rw [List.getD_eq_getElem?_getD, List.getElem?_set] at hj
    by_cases e : 18 = j
    · subst e
      rw [if_pos rfl, if_pos (Nat.lt_of_lt_of_eq (show (18 : Nat) < 25 by decide) HSh_len.symm)] at hj
      cases hj
      exact l8
    · rw [if_neg e, ← List.getD_eq_getElem?_getD] at hj
      exact k8.2.2.1 t _ et8 j q hj
  have F9 : FrE (fun c => c = t) h8 h9 := by
    rw [eh9]
    exact ⟨rfl, Nat.le_of_eq List.length_set.symm, fun c _ hc => ⟨by
      show (h8.2.1.set t _)[c]? = _
      rw [List.getElem?_set, if_neg (fun e => hc e.symm)], rfl⟩⟩
  have F79 : FrE (fun c => c = t) h7 h9 := (f8.fre (E := fun c => c = t)).tr F9 (fun c _ hc => hc)
  have rw9 : ∀ {A n : Nat} {r : Nat → Nat} {z : Nat} {f : Nat → Nat → Int32}, RwH h8 A n 2 r z f → RwH h9 A n 2 r z f := fun R => by
    obtain ⟨⟨rA, eA, -⟩, -⟩ := id R
    refine R.mv (F9.2.2 _ (len_of eA) (ne_of_tag eA et8 (by decide))).1 (fun i hi e he => ?_) (fun _ _ _ _ => rfl)
    obtain ⟨⟨rs3, q3⟩, -⟩ := R.2 i hi
    have := F9.2.2 _ (len_of q3) (ne_of_tag q3 et8 (by decide))
    exact ⟨this.1.trans he, this.2⟩
  have eA2 : h1.2.1.length ≠ h7.2.1.length := by
    have := i6.la
    omega
  have D9 : StD h t h.2.1.length h1.2.1.length h7.2.1.length (pTx (T.flatMap stP)) (hdT T) (HSh p.1.1 p.1.2.1 p.1.2.2.1 p.1.2.2.2.1 p.1.2.2.2.2.1 p.1.2.2.2.2.2.1 p.1.2.2.2.2.2.2) (h7.2.2 t) r7 0 (5 + 13 * T.length + 1) (50 + 2000 * T.length + 8) h9 := by
    refine ⟨i1.tr F79 (fun c _ hc => hc), k9, le7, ⟨V7, cap7, (i5.fre (f8.fre (E := fun _ => False)) id id).fre F9 (by omega) (by omega)⟩, rw9 (i6.mv (f8.2.2 _ i6.la).1 (fun i hi e he => ?_) (fun _ _ _ _ => rfl)), i6l, rw9 (r8 2 _ _), ?_, ?_, ?_, ?_⟩
    · have := f8.2.2 _ (len_of he)
      exact ⟨this.1.trans he, this.2⟩
    · rw [eh9]
      show (h8.2.1.set t _)[t]? = _
      rw [List.getElem?_set, if_pos rfl, if_pos (by omega)]
    · rw [eh9]
      exact ft8.2
    · have : csz h9.2.1 = csz h8.2.1 := by rw [eh9]; exact List.length_set
      omega
    · have : ssz h9.2.1 = ssz h8.2.1 := by rw [eh9]; exact ssz_set _ _ (12, 25, _) (12, 25, _) et8 rfl
      omega
  refine w_L402 hN D9 rfl tl t123 eA2 hHl (fun h10 D10 => ?_)
  obtain ⟨d1, d2, d3, ⟨V10, cap10, d4⟩, d5, d6, d7, d8, d9, d10, d11⟩ := D10
  have hg : ∀ x, x ∈ T → Tel 1 (zh w) (h.1 124 38 - nI 1) stP stR 22 x := fun x hx => tel_st lz (iO x hx)
  have hlen := I7.len lz
  refine ph_say (k := 1) (vv := nI T.length) (R := fun m5 => m5 123 16 = nI 0 ∧ ∃ m1 : Mem, m1 124 = h.1 124 ∧ TxOk 1 [] (T.map stR) m1 m5) hN d4 (asc_all fun x hx => (hg x hx).2.2.2) d2 (by rw [d1.1]; exact I0) (by rw [d1.1]; exact h16) (by omega) (by omega) (fun m1 y1 y2 y3 y4 => ?_) (fun h11 k11 I11 F11 R11 c11 z11 => ?_)
  · rw [d1.1] at y1
    refine wp_mono (tell (k := 1) (hD := h.1 124 38 - nI 1) hN (by decide) hg (by omega) (by omega) y3 y4 (by rw [y1, ew]; exact W0.h37) lz (by rw [y1])) ?_
    rintro v m5 ⟨rfl, r1, r2⟩
    exact ⟨rfl, r1, m1, y1, r2⟩
  · rw [if_pos rfl]
    obtain ⟨q16, m1, y1, ok⟩ := R11
    obtain ⟨o1, o2, o3, o4⟩ := ok.one
    rw [y1, ew] at o3
    rw [List.length_map] at o2
    have RT : RowT (h11.1 124) T := by
      refine ⟨o2, by omega, fun x hx => ?_, fun i x hx => ?_⟩
      · have := iO x hx
        unfold stO at this
        omega
      · obtain ⟨a1, a2, a3⟩ := o4 i (stR x) (by rw [List.getElem?_map, hx]; rfl)
        exact ⟨by rw [a1]; exact congrArg nI sqT_tr, a2, a3⟩
    have g10 := F11.2 t (by
      have := d1.2.1
      omega)
    have F : FrT t h h11 := d1.frt.tr F11.frt
    have ef : h11.2.2 t = h7.2.2 t := (g10.2 t123).trans d9
    obtain ⟨H11, P11⟩ := hs_stat (A2 := h7.2.1.length) (r := r7) (T := T) HS0 bp W0 F k11 (g10.1.trans (d8.trans rfl)) (fun j hj => by rw [ef]; exact i8 j hj) RT (by unfold StF; rw [ef]; exact iF) (d7.mv (F11.2 _ d7.la).1 (fun i hi e he => by
        have := F11.2 _ (len_of he)
        exact ⟨this.1.trans he, this.2 (by have := d6 i hi; omega)⟩) (fun _ _ _ _ => rfl)) d3 d6 o3
    refine hX h11 ⟨exL lb h.2.1.length, _, h11.1 124, ⟨H11, P11, I11, rfl, ⟨L.1.cg (fun i hi => o3 i (by omega) (by omega)), L.2⟩, q16⟩, o1, o3 1 (by decide) (by decide), fun c hc => exL_lt hc, ⟨F.1, fun c hc hne => F.2 c hc (fun e => hne (by rw [e, HS0.2.1.1]))⟩, by omega, by omega⟩
end TSTAT
