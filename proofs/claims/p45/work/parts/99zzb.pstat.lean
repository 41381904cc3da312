/-! the first text: the statutes -/
section PSTAT
variable {h h' h1 h2 h3 h0 hb : DS} {N t B Bt At A2 P n c k j i z q a b u e m C S C' S' V cap : Nat} {p : Plc} {w w' : Arr} {dl : Option (Nat → Int32)} {LN : List Lin} {lb lb' : Nat → Nat × Nat × Nat} {T H : List St3} {s s' : List Nat} {Q : Int32 → DS → Prop} {r : Nat → Nat} {v y x a2 p3 : Int32} {p5 : Nat} {K : DS → DA} {X : Int32 → DS → DA} {rs : List (Option Nat)}
def exL (lb : Nat → Nat × Nat × Nat) (n : Nat) (c : Nat) : Nat × Nat × Nat := if c < n then lb c else (0, 0, 0)
theorem exL_lt (hc : c < n) : exL lb n c = lb c := if_pos hc
theorem exL_ge (hc : n ≤ c) : (exL lb n c).1 = 0 := by unfold exL; rw [if_neg (by omega)]
theorem heaV_cg (hw : ∀ i, i ≠ 41 → (i < 105 ∨ 153 ≤ i) → w' i = w i) (hi : i < 12) (hc : c < 6) : heaV w' i c = heaV w i c := by
  match c, hc with
  | 0, _ => exact hw _ (by omega) (by omega)
  | 1, _ => exact hw _ (by omega) (by omega)
  | 2, _ => exact hw _ (by omega) (by omega)
  | 3, _ =>
    show b2i ((zt w').testBit i) = b2i ((zt w).testBit i)
    unfold zt
    rw [hw 7 (by decide) (by decide)]
  | 4, _ =>
    show b2i ((zv w').testBit i) = b2i ((zv w).testBit i)
    unfold zv
    rw [hw 8 (by decide) (by decide)]
  | 5, _ => exact hw _ (by omega) (by omega)
  | c + 6, hc => exact absurd hc (by omega)
theorem hs_stat (HS0 : HS lb h0 t p w dl) (b : PB p) (W0 : WFc w) (F : FrT t h0 h') (kl' : lk h')
    (et : h'.2.1[t]? = some (12, 25, HSh p.1.1 p.1.2.1 p.1.2.2.1 A2 p.1.2.2.2.2.1 p.1.2.2.2.2.2.1 p.1.2.2.2.2.2.2)) (ef : ∀ j, (j < 10 ∨ 14 ≤ j) → h'.2.2 t j = h0.2.2 t j)
    (RT : RowT w' T) (SF : StF t T.length T h') (RH : RwH h' A2 (hdT T).length 2 r (hdT T).length (rwF (hdT T))) (lA : h0.2.1.length ≤ A2) (lr : ∀ i, i < (hdT T).length → h0.2.1.length ≤ r i)
    (ew : ∀ i, i ≠ 41 → (i < 105 ∨ 153 ≤ i) → w' i = w i) :
    HS (exL lb h0.2.1.length) h' t ((p.1.1, p.1.2.1, p.1.2.2.1, A2, p.1.2.2.2.2), p.2.1, p.2.2.1, p.2.2.2.1, r, p.2.2.2.2.2) w' dl ∧ PB ((p.1.1, p.1.2.1, p.1.2.2.1, A2, p.1.2.2.2.2), p.2.1, p.2.2.1, p.2.2.2.1, r, p.2.2.2.2.2) := by
  have HE := HS0.re (lb' := exL lb h0.2.1.length) (fun c hc => exL_lt hc)
  obtain ⟨g1, g2, g3, -, g5, g6, g7⟩ := HE.1.frt HE.2.1 b HE.2.2.1 HE.2.2.2 F
  have t123 := HS0.1.1.1
  have lz := W0.lzh
  have l8 := W0.lzd
  have e37 : zh w' = zh w := by unfold zh; rw [ew 37 (by decide) (by decide)]
  have e38 : zd w' = zd w := by unfold zd; rw [ew 38 (by decide) (by decide)]
  have e6 : zb w' = zb w := by unfold zb; rw [ew 6 (by decide) (by decide)]
  have e42 : zp w' = zp w := by unfold zp; rw [ew 42 (by decide) (by decide)]
  have eh := hnL_len RT
  refine ⟨⟨⟨⟨t123, et⟩, ?_, ?_, ?_, ?_, ?_, ?_, ?_, g7⟩, ?_, kl', HE.2.2.2⟩, b⟩
  · have hI := HS0.1.int
    unfold HouI at hI ⊢
    obtain ⟨q0, q1, q2, q3, q4, q5, q6, q7, q8, q9, -, -, -, -, q14⟩ := hI
    obtain ⟨f1, f2, f3, f4⟩ := SF
    refine ⟨?_, ?_, ?_, ?_, ?_, ?_, ?_, ?_, ?_, ?_, ?_, ?_, ?_, ?_, ?_⟩
    · rw [ef 0 (by decide), q0]; exact (ew _ (by decide) (by decide)).symm
    · rw [ef 1 (by decide), q1]; exact (ew _ (by decide) (by decide)).symm
    · rw [ef 2 (by decide), q2]; exact (ew _ (by decide) (by decide)).symm
    · rw [ef 3 (by decide), q3]; exact (ew _ (by decide) (by decide)).symm
    · rw [ef 4 (by decide), q4]; exact (ew _ (by decide) (by decide)).symm
    · rw [ef 5 (by decide), q5]; exact (ew _ (by decide) (by decide)).symm
    · rw [ef 6 (by decide), q6]; exact (ew _ (by decide) (by decide)).symm
    · rw [ef 7 (by decide), q7]; exact (ew _ (by decide) (by decide)).symm
    · rw [ef 8 (by decide), q8]; exact (ew _ (by decide) (by decide)).symm
    · rw [ef 9 (by decide), q9]; exact (ew _ (by decide) (by decide)).symm
    · exact f1.trans (lst_all (k := 1) (wo := 9) RT (by decide)).symm
    · exact f2.trans (lst_all (k := 2) (wo := 300) RT (by decide)).symm
    · rw [f3, dbl_T RT]
    · exact f4.trans RT.1.symm
    · rw [ef 14 (by decide), q14]; exact (ew _ (by decide) (by decide)).symm
  · rw [e37]
    exact g1.mv rfl (fun i hi e he => ⟨he, rfl⟩) (fun i hi c hc => heaV_cg ew (by omega) hc)
  · rw [e38]
    refine g2.mv rfl (fun i hi e he => ⟨he, rfl⟩) (fun i hi c hc => ?_)
    unfold deeV
    rw [ew (81 + i) (by omega) (by omega), ew (89 + i) (by omega) (by omega), ew (97 + i) (by omega) (by omega), ew (21 + i) (by omega) (by omega), ew (29 + i) (by omega) (by omega)]
  · rw [e6]
    exact g3.mv rfl (fun i hi e he => ⟨he, rfl⟩) (fun i hi c hc => ew _ (by omega) (by omega))
  · rw [eh]
    refine RH.mv rfl (fun i hi e he => ⟨he, rfl⟩) (fun i hi c hc => ?_)
    obtain ⟨a1, a2⟩ := hnL_at RT hi
    match c, hc with
    | 0, _ => exact a1
    | 1, _ => exact a2
    | c + 2, hc => exact absurd hc (by omega)
  · rw [e42]
    exact g5.mv rfl (fun i hi e he => ⟨he, rfl⟩) (fun i hi c hc => ew _ (by omega) (by omega))
  · exact ⟨g6.1, fun k hk => (g6.2 k hk).trans (ew _ (by omega) (by omega)).symm⟩
  · obtain ⟨b0, b1, b2, b3, b4, b5, b6, b7, b8, b9, b10, b11, b12⟩ := HE.2.1
    unfold HLb
    rw [e37, e38, e6, e42, eh]
    exact ⟨b0, b1, b2, b3, b4, b5, b6, fun i hi => exL_ge (lr i hi), b8, exL_ge lA, b10, b11, b12⟩
/-- the rows of the array At are put into the array A2 -/
def StD (h0 : DS) (t Bt At A2 : Nat) (s : List Nat) (H : List St3) (rs : List (Option Nat)) (f : Nat → Int32) (r : Nat → Nat) (j C S : Nat) (h : DS) : Prop :=
  FrE (fun c => c = t) h0 h ∧ lk h ∧ h0.2.1.length ≤ A2 ∧ (∃ V cap, SbV h Bt V cap s) ∧ RwH h At 16 2 r H.length (rwF H) ∧ (∀ i, i < H.length → h0.2.1.length ≤ r i) ∧
  RwH h A2 H.length 2 r j (rwF H) ∧ h.2.1[t]? = some (12, 25, rs.set 18 (some A2)) ∧ h.2.2 t = f ∧ csz h.2.1 ≤ csz h0.2.1 + C ∧ ssz h.2.1 ≤ ssz h0.2.1 + S
theorem w_L402 {f : Nat → Int32} (hN : 20000 ≤ N) (I : StD h0 t Bt At A2 s H rs f r 0 C S h) (hrs : rs.length = 25) (tl : t < h0.2.1.length) (t123 : 123 ≤ t) (hA : At ≠ A2) (hB : H.length ≤ 8)
    (hK : ∀ h', StD h0 t Bt At A2 s H rs f r H.length C S h' → Wd (K h') Q) : Wd (jt (fun Y a hz => g_L_texts_L402 N t a2 p3 Bt At (nI H.length) K Y a hz) N (0 : Int32) h) Q := by
  refine wd_jt (fun q a h' => ∃ j, j ≤ H.length ∧ q = H.length - j ∧ a = nI j ∧ StD h0 t Bt At A2 s H rs f r j C S h') ?_ N H.length _ _ (by omega) ⟨0, by omega, rfl, rfl, I⟩
  rintro q X a h1 ⟨j, hj, rfl, rfl, I1⟩ hX
  have I1' := id I1
  obtain ⟨i1, i2, i3, ⟨V, cap, i4⟩, i5, i6, i7, i8, i9, i10, i11⟩ := I1'
  unfold g_L_texts_L402
  refine wd_ite (fun z1 => ?_) (fun z1 => ?_)
  · have z1 := (nI_leI (by omega) (by omega)).mp z1
    have : j = H.length := by omega
    subst this
    exact hK h1 I1
  · have z1 : ¬ H.length ≤ j := fun y => z1 ((nI_leI (by omega) (by omega)).mpr y)
    have hlt : j < H.length := by omega
    have rR : nn (dR h1 t 12 18) = some A2 := e_nn ((e_dR i8 (by decide) (by decide)).trans (by
      rw [List.getD_eq_getElem?_getD, List.getElem?_set, if_pos rfl, if_pos (by omega)]
      rfl))
    refine wd_bo rR (wd_bo (rw_Q i5 hlt (by decide)) ?_)
    obtain ⟨⟨rs2, q1⟩, q2⟩ := i5.2 j hlt
    obtain ⟨h2, e2, g1, g2, g3, g4, g5, g6, g7⟩ := rw_put i2 i7 hlt (by omega) (by omega) q1 q2
    refine wd_bo e2 ?_
    have up : nI j + (1 : Int32) = nI (j + 1) := nI_up j
    rw [up]
    have er : (fun i => if i = j then r j else r i) = r := by
      funext i
      split
      · rename_i e; rw [e]
      · rfl
    rw [er] at g1
    obtain ⟨rA, eA, -⟩ := i7.1
    have F : FrE (fun c => c = A2) h1 h2 := ⟨g2, Nat.le_of_eq g5.symm, fun c _ hc => ⟨g4 c hc, by rw [g3]⟩⟩
    have nB : Bt ≠ A2 := ne_of_tag i4.2.1 eA (by decide)
    have nV : V ≠ A2 := by
      obtain ⟨rs, e⟩ := i4.2.2.2.2.1
      exact ne_of_tag e eA (by decide)
    refine hX (H.length - (j + 1)) _ _ (by omega) ⟨j + 1, by omega, rfl, rfl, i1.tr F (fun c hc _ => by omega), g7, i3, ⟨V, cap, i4.fre F nB nV⟩, ?_, i6, g1, (g4 t (by omega)).trans i8, by rw [g3]; exact i9, by omega, by omega⟩
    refine i5.mv (g4 At hA) (fun i hi e he => ?_) (fun _ _ _ _ => rfl)
    obtain ⟨⟨rs3, q3⟩, -⟩ := i5.2 i hi
    exact ⟨(g4 _ (ne_of_tag q3 eA (by decide))).trans he, by rw [g3]⟩
end PSTAT
