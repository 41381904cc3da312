/-! the hands of those who clap; draws that are not drawn -/
section SUMH
variable {h h' h2 : DS} {t N d hh b c o : Nat} {p : Plc} {w w' : Arr} {dl : Option (Nat → Int32)} {LN : List Lin} {v x a2 : Int32} {lb : Nat → Nat × Nat × Nat}
theorem dbl_lt : ∀ n, dblS w n < 2 ^ n
  | 0 => Nat.one_pos
  | n + 1 => by
    have := dbl_lt n
    unfold dblS
    rw [Nat.pow_succ]
    split <;> omega
theorem dbl_bit {i : Nat} : ∀ n, i < n → (dblS w n).testBit i = decide (cnt w i = 2)
  | 0, hi => absurd hi (by omega)
  | n + 1, hi => by
    have q := dbl_lt (w := w) n
    unfold dblS
    by_cases e : i = n
    · subst e
      by_cases z : cnt w i = 2
      · rw [if_pos z, Nat.add_comm, Nat.testBit_two_pow_add_eq, Nat.testBit_lt_two_pow q, decide_eq_true z]
        rfl
      · rw [if_neg z, Nat.add_zero, Nat.testBit_lt_two_pow q, decide_eq_false z]
    · have hin : i < n := by omega
      by_cases z : cnt w n = 2
      · rw [if_pos z, Nat.add_comm, Nat.testBit_two_pow_add_gt hin, dbl_bit n hin]
      · rw [if_neg z, Nat.add_zero, dbl_bit n hin]
theorem cnt_12 {i : Nat} : cnt w i = 2 ∨ cnt w i = 1 := by
  unfold cnt
  split
  · exact Or.inl rfl
  · exact Or.inr rfl
theorem h_sum {K : DS → DA} {Q : Int32 → DS → Prop} {set bs : Nat} (hN : 20000 ≤ N) (H : HS lb h t p w dl) (W0 : WFc w) (hset : set < 2 ^ zh w) (h22 : h.2.2 t 22 = nI set) (h24 : h.2.2 t 24 = nI bs)
    (hK : ∀ h', HS lb h' t p w dl → KpH lb t h h' → h'.2.1 = h.2.1 → (∀ c, c ≠ t → h'.2.2 c = h.2.2 c) → h'.2.2 t 22 = nI set → h'.2.2 t 23 = h.2.2 t 23 → h'.2.2 t 24 = nI (sumS w set (zh w) + bs) → Wd (K h') Q) :
    Wd (jt (fun Y a hz => g_X12_once_L301 N t (nI d) a2 K Y a hz) N (0 : Int32) h) Q := by
  have s := W0.lzh
  have hz := W0.lzs
  have p12 := W0.p12
  have db := dbl_lt (w := w) 12
  refine wd_jt (fun n a h' => ∃ i, i ≤ zh w ∧ n = zh w - i ∧ a = nI i ∧ HS lb h' t p w dl ∧ KpH lb t h h' ∧ h'.2.1 = h.2.1 ∧ (∀ c, c ≠ t → h'.2.2 c = h.2.2 c) ∧ h'.2.2 t 22 = nI set ∧ h'.2.2 t 23 = h.2.2 t 23 ∧ h'.2.2 t 24 = nI (sumS w set i + bs)) ?_ N (zh w) _ _ (by omega)
    ⟨0, by omega, rfl, rfl, H, KpH.rf, rfl, fun _ _ => rfl, h22, rfl, by rw [h24]; show _ = nI (0 + bs); rw [Nat.zero_add]⟩
  rintro n X a h1 ⟨i, hi, rfl, rfl, H1, K1, S1, M1, E22, E23, E24⟩ hX
  have HR := H1.1
  unfold g_X12_once_L301
  refine wd_bo (hs_I HR (by decide) (by decide)) ?_
  rw [HR.int.2.2.2.2.2.2.2.1, W0.h37]
  refine wd_ite (fun q => ?_) (fun q => ?_)
  · have q := (nI_leI (by omega) (by omega)).mp q
    have : i = zh w := by omega
    subst this
    exact hK h1 H1 K1 S1 M1 E22 E23 E24
  · have q : ¬ zh w ≤ i := fun z => q ((nI_leI (by omega) (by omega)).mpr z)
    have hlt : i < zh w := by omega
    have up : nI i + (1 : Int32) = nI (i + 1) := nI_up i
    refine wd_bo (hs_I HR (by decide) (by decide)) ?_
    rw [E22]
    refine wd_ite (fun q2 => ?_) (fun q2 => ?_)
    · have q2 := (nz_bit (k := set) (h := i) (by omega) (by omega)).mp q2
      have e' : sumS w set (i + 1) = sumS w set i + nv (w (45 + i)) * cnt w i := by
        show _ + (if _ then _ else _) = _
        rw [if_pos q2]
      have fin : ∀ y, y = nI (sumS w set (i + 1) + bs) → Wd (bo (wI h1 t 12 24 y) fun h_365 => X (nI i + 1) h_365) Q := by
        rintro y rfl
        obtain ⟨g1, g2, g3⟩ := h_wS (j := 24) (x := nI (sumS w set (i + 1) + bs)) H1 (by decide) (by decide) (by decide) hz
        refine wd_bo g1 ?_
        exact hX (zh w - (i + 1)) _ _ (by omega) ⟨i + 1, by omega, rfl, up, g2, K1.tr (fun _ _ => rfl) g3, S1, fun c hc => (mset_ne hc).trans (M1 c hc), (mset_j (by decide)).trans E22, (mset_j (by decide)).trans E23, mset_at _ _ _ _⟩
      refine wd_bo (hs_I HR (by decide) (by decide)) (wd_bo (hs_I HR (by decide) (by decide)) ?_)
      rw [HR.int.2.2.2.2.2.2.2.2.2.2.2.2.1, E24]
      have cv : heaV w i 0 = nI (nv (w (45 + i))) := (W0.hea hlt).1.eq (by decide)
      have bt := dbl_bit (w := w) (i := i) 12 (by omega)
      refine wd_ite (fun q3 => ?_) (fun q3 => ?_)
      · have q3 := (nz_bit (k := dblS w 12) (h := i) (by omega) (by omega)).mp q3
        have c2 : cnt w i = 2 := by rw [q3] at bt; exact of_decide_eq_true bt.symm
        refine wd_bo (hs_man HR) (wd_bo (rw_Q HR.man hlt (by decide)) (wd_bo (rw_A (c := 0) HR.man hlt (by decide) (by decide)) (fin _ ?_)))
        rw [cv, show (2 : Int32) = nI 2 from rfl, pk_mul, nI_add, e', c2]
        congr 1
        omega
      · have c1 : cnt w i = 1 := by
          refine cnt_12.resolve_left (fun z => q3 ?_)
          rw [decide_eq_true z] at bt
          exact (nz_bit (k := dblS w 12) (h := i) (by omega) (by omega)).mpr bt
        refine wd_bo (hs_man HR) (wd_bo (rw_Q HR.man hlt (by decide)) (wd_bo (rw_A (c := 0) HR.man hlt (by decide) (by decide)) (fin _ ?_)))
        rw [cv, nI_add, e', c1]
        congr 1
        omega
    · have q2 : set.testBit i = false := by
        cases z : set.testBit i with
        | false => rfl
        | true => exact absurd ((nz_bit (k := set) (h := i) (by omega) (by omega)).mpr z) q2
      have e' : sumS w set (i + 1) = sumS w set i := by
        show _ + (if _ then _ else _) = _
        rw [q2]
        rfl
      exact hX (zh w - (i + 1)) _ _ (by omega) ⟨i + 1, by omega, rfl, up, H1, K1, S1, M1, E22, E23, by rw [e']; exact E24⟩
/-- in thought each draw is 500 -/
theorem h_draws0 {K : DS → DA} {Q : Int32 → DS → Prop} (hN : 20000 ≤ N) (H : HS lb h t p w dl) (W0 : WFc w) (ho : lb o = (t, 6, 0)) (hge : 123 ≤ o) (ho2 : h.2.1[o]? = some (100, 12, []))
    (hK : ∀ h', HS lb h' t p w dl → KpH lb t h h' → h'.2.1 = h.2.1 → (∀ i, i < zh w → (zt w).testBit i = true → h'.2.2 o i = nI 500) → Wd (K h') Q) :
    Wd (jt (fun Y a hz => g_X12_once_L95 N t (nI d) 0 o K Y a hz) N (0 : Int32) h) Q := by
  have s := W0.lzh
  refine wd_jt (fun n a h' => ∃ i, i ≤ zh w ∧ n = zh w - i ∧ a = nI i ∧ HS lb h' t p w dl ∧ KpH lb t h h' ∧ h'.2.1 = h.2.1 ∧ ∀ j, j < i → (zt w).testBit j = true → h'.2.2 o j = nI 500) ?_ N (zh w) _ _ (by omega) ⟨0, by omega, rfl, rfl, H, KpH.rf, rfl, fun j hj => absurd hj (by omega)⟩
  rintro n X a h1 ⟨i, hi, rfl, rfl, H1, K1, S1, D1⟩ hX
  have HR := H1.1
  have up : nI i + (1 : Int32) = nI (i + 1) := nI_up i
  unfold g_X12_once_L95
  refine wd_bo (hs_I HR (by decide) (by decide)) ?_
  rw [HR.int.2.2.2.2.2.2.2.1, W0.h37]
  refine wd_ite (fun q => ?_) (fun q => ?_)
  · have q := (nI_leI (by omega) (by omega)).mp q
    have : i = zh w := by omega
    subst this
    exact hK h1 H1 K1 S1 D1
  · have q : ¬ zh w ≤ i := fun z => q ((nI_leI (by omega) (by omega)).mpr z)
    have hlt : i < zh w := by omega
    refine wd_bo (hs_man HR) (wd_bo (rw_Q HR.man hlt (by decide)) (wd_bo (rw_A (c := 3) HR.man hlt (by decide) (by decide)) ?_))
    rw [show heaV w i 3 = b2i ((zt w).testBit i) from rfl]
    cases hb : (zt w).testBit i with
    | true =>
      refine wd_ite (fun _ => ?_) (fun z => absurd rfl z)
      refine wd_ite (fun _ => ?_) (fun z => absurd rfl z)
      have so : h1.2.1[o]? = some (100, 12, []) := by rw [S1]; exact ho2
      refine wd_bo (e_sA so (inb_nI (by omega) (by decide)) hge) ?_
      rw [nI_clamp (by omega)]
      refine hX (zh w - (i + 1)) _ _ (by omega) ⟨i + 1, by omega, rfl, up, ⟨H1.1.mem1 H1.2.1 ho, H1.2.1, lk_mset H1.2.2.1 hge, H1.2.2.2⟩, K1.tr (fun _ _ => rfl) (kp_oth (by rw [ho])), S1, fun j hj hbj => ?_⟩
      show mset h1.2.2 o i (500 : Int32) o j = _
      by_cases e : j = i
      · subst e
        exact mset_at _ _ _ _
      · rw [mset_j e]
        exact D1 j (by omega) hbj
    | false =>
      refine wd_ite (fun z => absurd z (by decide)) (fun _ => ?_)
      refine hX (zh w - (i + 1)) _ _ (by omega) ⟨i + 1, by omega, rfl, up, H1, K1, S1, fun j hj hbj => ?_⟩
      by_cases e : j = i
      · rw [e, hb] at hbj
        cases hbj
      · exact D1 j (by omega) hbj
end SUMH
