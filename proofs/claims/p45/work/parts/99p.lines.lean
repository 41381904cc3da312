/-! the book's rows shared with a new House -/
section COPYB
variable {h h' h2 : DS} {t N d hh b c o u a1 : Nat} {p : Plc} {w w' : Arr} {dl : Option (Nat → Int32)} {LN : List Lin} {v x a2 : Int32} {lb lb' : Nat → Nat × Nat × Nat} {tru cg : Bool} {rsu : List (Option Nat)}
theorem h_cpB (hN : 20000 ≤ N) (H : HS lb h t p w dl) (W0 : WFc w) (hut : u ≠ t) (hu0 : u ≠ 0) (hu : h.2.1[u]? = some (12, 25, rsu)) (hr : rsu.getD 17 none = some a1) (ha : 123 ≤ a1) (hla : (lb a1).1 = u) (R : RwH h a1 150 4 p.2.2.2.1 0 (fun i c => w (223 + 4 * i + c))) (hn : h.2.1.length < 1000000) :
    Wd (jt (fun Y a hz => g_X12_copy_L230 N t u Y a hz) N (0 : Int32) h) (fun v h' => v = nI u ∧ HS lb h' t p w dl ∧ KpH lb u h h' ∧ RwH h' a1 150 4 p.2.2.2.1 (zb w) (fun i c => w (223 + 4 * i + c)) ∧ (∀ c, c < h.2.1.length → c ≠ a1 → h'.2.1[c]? = h.2.1[c]? ∧ h'.2.2 c = h.2.2 c) ∧ h'.2.1.length = h.2.1.length ∧ ssz h'.2.1 = ssz h.2.1) := by
  have s := W0.lzb
  obtain ⟨rsa, q1, -⟩ := id R.1
  have hua : u ≠ a1 := ne_of_tag hu q1 (by decide)
  have hul := len_of hu
  refine wd_jt (fun n a h' => ∃ i, i ≤ zb w ∧ n = zb w - i ∧ a = nI i ∧ HS lb h' t p w dl ∧ KpH lb u h h' ∧ RwH h' a1 150 4 p.2.2.2.1 i (fun i c => w (223 + 4 * i + c)) ∧ (∀ c, c < h.2.1.length → c ≠ a1 → h'.2.1[c]? = h.2.1[c]? ∧ h'.2.2 c = h.2.2 c) ∧ h'.2.1.length = h.2.1.length ∧ ssz h'.2.1 = ssz h.2.1) ?_ N (zb w) _ _ (by omega)
    ⟨0, by omega, rfl, rfl, H, KpH.rf, R, fun _ _ _ => ⟨rfl, rfl⟩, rfl, rfl⟩
  rintro n X a h4 ⟨i, hi, rfl, rfl, H4, K4, R4, F4, L4, T4⟩ hX
  unfold g_X12_copy_L230
  refine wd_bo (hs_I H4.1 (by decide) (by decide)) ?_
  rw [H4.1.int.2.2.2.2.2.2.2.2.2.1, W0.h6]
  refine wd_ite (fun q => ?_) (fun q => ?_)
  · have q := (nI_leI (by omega) (by omega)).mp q
    have : i = zb w := by omega
    subst this
    exact wd_chk (decide_eq_true (by omega)) (wd_ret ⟨rfl, H4, K4, R4, F4, L4, T4⟩)
  · have q : ¬ zb w ≤ i := fun z => q ((nI_leI (by omega) (by omega)).mpr z)
    have hlt : i < zb w := by omega
    have up : nI i + (1 : Int32) = nI (i + 1) := nI_up i
    have hu4 : h4.2.1[u]? = some (12, 25, rsu) := (F4 u (len_of hu) hua).1.trans hu
    obtain ⟨⟨rs2, m1⟩, m2⟩ := H4.1.lin.2 i hlt
    obtain ⟨h6, e6, R6, c6, m6, l6, o6, k6, s6⟩ := R4.put (by omega) (by decide) ha m1 m2
    have fr : ∀ c, c < h4.2.1.length → c ≠ a1 → h6.2.1[c]? = h4.2.1[c]? ∧ h6.2.2 c = h4.2.2 c := fun c hc hne => ⟨o6 c hne, by rw [m6]⟩
    have K : KpH lb u h4 h6 := ⟨c6, by rw [l6]; exact Nat.le_refl _, fun c hc hn => fr c hc (fun e => hn (by rw [e]; exact hla))⟩
    have er : (fun j => if j = i then p.2.2.2.1 i else p.2.2.2.1 j) = p.2.2.2.1 := by
      funext j
      by_cases e : j = i
      · rw [if_pos e, e]
      · rw [if_neg e]
    rw [er] at R6
    refine wd_bo (e_nn ((e_dR hu4 (by decide) (by decide)).trans (congrArg some hr))) (wd_bo (hs_lin H4.1) (wd_bo (rw_Q H4.1.lin hlt (by decide)) (wd_bo e6 ?_)))
    exact hX (zb w - (i + 1)) _ _ (by omega) ⟨i + 1, by omega, rfl, up, ⟨H4.1.keep H4.2.1 K hut hu0, H4.2.1, k6 H4.2.2.1, H4.2.2.2⟩, K4.tr (fun _ _ => rfl) K, R6, fun c hc hne => ⟨(fr c (by omega) hne).1.trans (F4 c hc hne).1, (fr c (by omega) hne).2.trans (F4 c hc hne).2⟩, by omega, by omega⟩
end COPYB
