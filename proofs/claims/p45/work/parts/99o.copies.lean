/-! hearers and deeds copied into a new House -/
section COPYL
variable {h h' h2 : DS} {t N d hh b c o u a1 : Nat} {p : Plc} {w w' : Arr} {dl : Option (Nat → Int32)} {LN : List Lin} {v x a2 : Int32} {lb lb' : Nat → Nat × Nat × Nat} {tru cg : Bool} {rsu : List (Option Nat)}
/-- a copied row put into the new House -/
theorem cp_step {i n k : Nat} {h4 : DS} {q : Nat} {f : Nat → Nat → Int32} {rs2 : List (Option Nat)} (H : HS lb h4 t p w dl) (hut : u ≠ t) (hu0 : u ≠ 0) (ha : 123 ≤ a1) (hla : (lb a1).1 = u) (hnew : ∀ c, h4.2.1.length ≤ c → (lb c).1 = u) (hn : h4.2.1.length + 1 < 1000000)
    (R : RwH h4 a1 n k (fun j => b + j) i f) (hb : h4.2.1.length = b + i) (hi : i < n) (hn2 : n < 2 ^ 31) (hq : h4.2.1[q]? = some (100, k, rs2)) (hf : ∀ c, c < k → h4.2.2 q c = f i c) :
    ∃ h5 h6, cA h4 100 q = some h5 ∧ sQ h5 103 a1 (nI i) h4.2.1.length = some h6 ∧ HS lb h6 t p w dl ∧ KpH lb u h4 h6 ∧ RwH h6 a1 n k (fun j => b + j) (i + 1) f ∧ (∀ c, c < h4.2.1.length → c ≠ a1 → h6.2.1[c]? = h4.2.1[c]? ∧ h6.2.2 c = h4.2.2 c) ∧ h6.2.1.length = h4.2.1.length + 1 ∧ ssz h6.2.1 = ssz h4.2.1 + k := by
  obtain ⟨h6, e6, R6, c6, m6, l6, o6, k6, s6⟩ := (R.grow (e := (100, k, [])) (g := h4.2.2 q)).put (q := h4.2.1.length) (rs2 := []) hi hn2 ha gw_new (fun c hc => by rw [gw_mn]; exact hf c hc)
  have fr : ∀ c, c < h4.2.1.length → c ≠ a1 → h6.2.1[c]? = h4.2.1[c]? ∧ h6.2.2 c = h4.2.2 c := fun c hc hne => ⟨(o6 c hne).trans (gw_old hc), by rw [m6]; exact gw_mo hc⟩
  have K : KpH lb u h4 h6 := ⟨c6, by rw [l6, gw_len]; exact Nat.le_succ _, fun c hc hn => fr c hc (fun e => hn (by rw [e]; exact hla))⟩
  have er : (fun j => if j = i then h4.2.1.length else b + j) = fun j => b + j := by
    funext j
    by_cases e : j = i
    · rw [if_pos e, hb, e]
    · rw [if_neg e]
  rw [er] at R6
  exact ⟨_, h6, e_cA hq hn, e6, ⟨H.1.keep H.2.1 K hut hu0, H.2.1, k6 (lk_gr H.2.2.1 hn (fun j q hq => by simp at hq)), H.2.2.2⟩, K, R6, fr, l6.trans gw_len, s6.trans ssz_gr⟩
theorem h_cpM {K : DS → DA} {Q : Int32 → DS → Prop} (hN : 20000 ≤ N) (H : HS lb h t p w dl) (W0 : WFc w) (hut : u ≠ t) (hu0 : u ≠ 0) (hu : h.2.1[u]? = some (12, 25, rsu)) (hr : rsu.getD 15 none = some a1) (ha : 123 ≤ a1) (hla : (lb a1).1 = u) (hnew : ∀ c, h.2.1.length ≤ c → (lb c).1 = u)
    (R : RwH h a1 12 6 (fun j => h.2.1.length + j) 0 (heaV w)) (hn : h.2.1.length + 20 < 1000000)
    (hK : ∀ h', HS lb h' t p w dl → KpH lb u h h' → RwH h' a1 12 6 (fun j => h.2.1.length + j) (zh w) (heaV w) → (∀ c, c < h.2.1.length → c ≠ a1 → h'.2.1[c]? = h.2.1[c]? ∧ h'.2.2 c = h.2.2 c) → h'.2.1.length = h.2.1.length + zh w → ssz h'.2.1 = ssz h.2.1 + 6 * zh w → Wd (K h') Q) :
    Wd (jt (fun Y a hz => g_X12_copy_L162 N t u K Y a hz) N (0 : Int32) h) Q := by
  have s := W0.lzh
  obtain ⟨rsa, q1, -⟩ := id R.1
  have hua : u ≠ a1 := ne_of_tag hu q1 (by decide)
  refine wd_jt (fun n a h' => ∃ i, i ≤ zh w ∧ n = zh w - i ∧ a = nI i ∧ HS lb h' t p w dl ∧ KpH lb u h h' ∧ RwH h' a1 12 6 (fun j => h.2.1.length + j) i (heaV w) ∧ (∀ c, c < h.2.1.length → c ≠ a1 → h'.2.1[c]? = h.2.1[c]? ∧ h'.2.2 c = h.2.2 c) ∧ h'.2.1.length = h.2.1.length + i ∧ ssz h'.2.1 = ssz h.2.1 + 6 * i) ?_ N (zh w) _ _ (by omega)
    ⟨0, by omega, rfl, rfl, H, KpH.rf, R, fun _ _ _ => ⟨rfl, rfl⟩, rfl, rfl⟩
  rintro n X a h4 ⟨i, hi, rfl, rfl, H4, K4, R4, F4, L4, T4⟩ hX
  unfold g_X12_copy_L162
  refine wd_bo (hs_I H4.1 (by decide) (by decide)) ?_
  rw [H4.1.int.2.2.2.2.2.2.2.1, W0.h37]
  refine wd_ite (fun q => ?_) (fun q => ?_)
  · have q := (nI_leI (by omega) (by omega)).mp q
    have : i = zh w := by omega
    subst this
    exact hK h4 H4 K4 R4 F4 L4 T4
  · have q : ¬ zh w ≤ i := fun z => q ((nI_leI (by omega) (by omega)).mpr z)
    have hlt : i < zh w := by omega
    have up : nI i + (1 : Int32) = nI (i + 1) := nI_up i
    have hu4 : h4.2.1[u]? = some (12, 25, rsu) := (F4 u (len_of hu) hua).1.trans hu
    obtain ⟨⟨rs2, m1⟩, m2⟩ := H4.1.man.2 i hlt
    obtain ⟨h5, h6, e5, e6, H6, K6, R6, F6, L6, T6⟩ := cp_step (b := h.2.1.length) H4 hut hu0 ha hla (fun c hc => hnew c (by omega)) (by omega) R4 L4 (by omega) (by decide) m1 m2
    refine wd_bo (e_nn ((e_dR hu4 (by decide) (by decide)).trans (congrArg some hr))) (wd_bo (hs_man H4.1) (wd_bo (rw_Q H4.1.man hlt (by decide)) (wd_bo e5 (wd_bo e6 ?_))))
    exact hX (zh w - (i + 1)) _ _ (by omega) ⟨i + 1, by omega, rfl, up, H6, K4.tr (fun _ _ => rfl) K6, R6, fun c hc hne => ⟨(F6 c (by omega) hne).1.trans (F4 c hc hne).1, (F6 c (by omega) hne).2.trans (F4 c hc hne).2⟩, by omega, by omega⟩
theorem h_cpD {K : DS → DA} {Q : Int32 → DS → Prop} (hN : 20000 ≤ N) (H : HS lb h t p w dl) (W0 : WFc w) (hut : u ≠ t) (hu0 : u ≠ 0) (hu : h.2.1[u]? = some (12, 25, rsu)) (hr : rsu.getD 16 none = some a1) (ha : 123 ≤ a1) (hla : (lb a1).1 = u) (hnew : ∀ c, h.2.1.length ≤ c → (lb c).1 = u)
    (R : RwH h a1 8 5 (fun j => h.2.1.length + j) 0 (deeV w)) (hn : h.2.1.length + 20 < 1000000)
    (hK : ∀ h', HS lb h' t p w dl → KpH lb u h h' → RwH h' a1 8 5 (fun j => h.2.1.length + j) (zd w) (deeV w) → (∀ c, c < h.2.1.length → c ≠ a1 → h'.2.1[c]? = h.2.1[c]? ∧ h'.2.2 c = h.2.2 c) → h'.2.1.length = h.2.1.length + zd w → ssz h'.2.1 = ssz h.2.1 + 5 * zd w → Wd (K h') Q) :
    Wd (jt (fun Y a hz => g_X12_copy_L196 N t u K Y a hz) N (0 : Int32) h) Q := by
  have s := W0.lzd
  obtain ⟨rsa, q1, -⟩ := id R.1
  have hua : u ≠ a1 := ne_of_tag hu q1 (by decide)
  refine wd_jt (fun n a h' => ∃ i, i ≤ zd w ∧ n = zd w - i ∧ a = nI i ∧ HS lb h' t p w dl ∧ KpH lb u h h' ∧ RwH h' a1 8 5 (fun j => h.2.1.length + j) i (deeV w) ∧ (∀ c, c < h.2.1.length → c ≠ a1 → h'.2.1[c]? = h.2.1[c]? ∧ h'.2.2 c = h.2.2 c) ∧ h'.2.1.length = h.2.1.length + i ∧ ssz h'.2.1 = ssz h.2.1 + 5 * i) ?_ N (zd w) _ _ (by omega)
    ⟨0, by omega, rfl, rfl, H, KpH.rf, R, fun _ _ _ => ⟨rfl, rfl⟩, rfl, rfl⟩
  rintro n X a h4 ⟨i, hi, rfl, rfl, H4, K4, R4, F4, L4, T4⟩ hX
  unfold g_X12_copy_L196
  refine wd_bo (hs_I H4.1 (by decide) (by decide)) ?_
  rw [H4.1.int.2.2.2.2.2.2.2.2.1, W0.h38]
  refine wd_ite (fun q => ?_) (fun q => ?_)
  · have q := (nI_leI (by omega) (by omega)).mp q
    have : i = zd w := by omega
    subst this
    exact hK h4 H4 K4 R4 F4 L4 T4
  · have q : ¬ zd w ≤ i := fun z => q ((nI_leI (by omega) (by omega)).mpr z)
    have hlt : i < zd w := by omega
    have up : nI i + (1 : Int32) = nI (i + 1) := nI_up i
    have hu4 : h4.2.1[u]? = some (12, 25, rsu) := (F4 u (len_of hu) hua).1.trans hu
    obtain ⟨⟨rs2, m1⟩, m2⟩ := H4.1.dee.2 i hlt
    obtain ⟨h5, h6, e5, e6, H6, K6, R6, F6, L6, T6⟩ := cp_step (b := h.2.1.length) H4 hut hu0 ha hla (fun c hc => hnew c (by omega)) (by omega) R4 L4 (by omega) (by decide) m1 m2
    refine wd_bo (e_nn ((e_dR hu4 (by decide) (by decide)).trans (congrArg some hr))) (wd_bo (hs_dee H4.1) (wd_bo (rw_Q H4.1.dee hlt (by decide)) (wd_bo e5 (wd_bo e6 ?_))))
    exact hX (zd w - (i + 1)) _ _ (by omega) ⟨i + 1, by omega, rfl, up, H6, K4.tr (fun _ _ => rfl) K6, R6, fun c hc hne => ⟨(F6 c (by omega) hne).1.trans (F4 c hc hne).1, (F6 c (by omega) hne).2.trans (F4 c hc hne).2⟩, by omega, by omega⟩
end COPYL
