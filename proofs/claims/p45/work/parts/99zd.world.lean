/-! the law's world between its rounds; the end of a round -/
section WORLD
variable {h h' h2 h1 : DS} {t N d hh b c o u i k A n Lc : Nat} {xs : Nat → Int32} {p pb : Plc} {w w' a w2 : Arr} {dl : Option (Nat → Int32)} {LN : List Lin} {v x s5 : Int32} {lb lb' : Nat → Nat × Nat × Nat} {T : Nat → Nat} {Pp : Nat → Plc} {f : Nat → Arr} {Q : Int32 → DS → Prop} {K : DS → DA} {K994 : Nat → DS → DA} {X : (Nat × Int32 × Int32) → DS → DA} {m m1 m2 : Mem} {c0 s0 B : Nat}
/-- EVENING is at most B, now and at what is kept -/
def evB (B : Nat) (w : Arr) : Prop := ∃ e, w 1 = nI e ∧ e ≤ B
def EvB (B k : Nat) (f : Nat → Arr) (w : Arr) : Prop := evB B w ∧ ∀ i, i < k → evB B (f i)
theorem evB.cg (e : evB B w) (h1 : w' 1 = w 1) : evB B w' := by
  obtain ⟨x, a, b⟩ := e
  exact ⟨x, h1.trans a, b⟩
theorem evB.up {B' : Nat} (e : evB B w) (h1 : B ≤ B') : evB B' w := by
  obtain ⟨x, a, b⟩ := e
  exact ⟨x, a, by omega⟩
theorem EvB.next (e : EvB B k f w) (e' : evB B w') : EvB B (min 6 (k + 1)) (nxt k f w) w' := ⟨e', fun i hi => by
  unfold nxt
  split
  · exact e.1
  · exact e.2 _ (by split <;> omega)⟩
theorem EvB.up {B' : Nat} (e : EvB B k f w) (h1 : B ≤ B') : EvB B' k f w := ⟨e.1.up h1, fun i hi => (e.2 i hi).up h1⟩
def QG (m m2 : Mem) : Prop := ∀ k, 123 ≤ k → k ≠ 132 → k ≠ 133 → m2 k = m k
/-- the class where the House t stands; what can be undone -/
def WI (LN : List Lin) (dl : Option (Nat → Int32)) (B A : Nat) (lb : Nat → Nat × Nat × Nat) (t : Nat) (p : Plc) (w : Arr) (k : Nat) (T : Nat → Nat) (Pp : Nat → Plc) (f : Nat → Arr) (h : DS) : Prop :=
  HS lb h t p w dl ∧ PB p ∧ Inv h.1 ∧ h.1 124 = w ∧ Lw LN w ∧ PaM k f h.1 ∧ Hok k f w ∧ h.1 123 16 = nI 0 ∧ PsH lb h t A w dl k T Pp f ∧ EvB B k f w
theorem WI.quiet (I : WI LN dl B A lb t p w k T Pp f h) (kl : lk h') (hI : Inv h'.1) (q : QG h.1 h'.1) (F : FrL h h') : WI LN dl B A lb t p w k T Pp f h' := by
  obtain ⟨H, b, -, i2, L, P, O, tp, Ps, ev⟩ := I
  exact ⟨⟨H.1.frl H.2.1 b H.2.2.1 H.2.2.2 F, H.2.1, kl, H.2.2.2⟩, b, hI, (q 124 (by decide) (by decide) (by decide)).trans i2, L, P.cg (by rw [q 123 (by decide) (by decide) (by decide)]) (q 126 (by decide) (by decide) (by decide)), O, by rw [q 123 (by decide) (by decide) (by decide)]; exact tp, Ps.frl H.2.2.1 H.2.2.2 F, ev⟩
theorem WI.good (I : WI LN dl B A lb t p w k T Pp f h) : Good LN w := by
  obtain ⟨H, b, hI, i2, L, -⟩ := I
  obtain ⟨LN0, -, G, -⟩ := hI
  rw [i2] at G
  exact ⟨G.1, G.2.1, L.1⟩
theorem WI.le6 (I : WI LN dl B A lb t p w k T Pp f h) : k ≤ 6 := I.2.2.2.2.2.2.1.1
theorem wd_qt {x y : Mem → Ans} {kk : Int32 → DS → DA} (kl : lk h) (P : Pr x y) (gx : PsG h.1 (x h.1)) (gy : ∀ m, PsA m (y m)) (hI : Inv h.1) (e : ∀ m1 : Mem, Gh h.1 m1 → Wp (y m1) (fun v' m2 => v' = v ∧ Fr [(132, 133)] m1 m2)) (q : ∀ m2, Inv m2 → QG h.1 m2 → Wd (kk v (pat h m2)) Q) :
    Wd (chk (isT h 11 0) (bdX (x h.1) h fun v hh => bnd (gs y hh) fun h' => kk v h')) Q := by
  refine wd_chk (is11 kl) (wd_call P gx gy hI (fun v1 m1 m2 g e1 i2 => ?_))
  obtain ⟨v2, m3, e2, rfl, f⟩ := e m1 g
  rw [e1] at e2
  cases e2
  refine q _ i2 (fun k h1 h2 h3 => ?_)
  refine (f k (fun p hp => ?_)).trans (g k h1)
  have : p = (132, 133) := by simpa using hp
  subst this
  show k < 132 ∨ 133 < k
  omega
theorem e_look16 : f_X12_look N 16 m = some (m 123 4, m) := by
  unfold f_X12_look
  rw [swt_at 16 (by decide) rfl]
theorem e_look17 : f_X12_look N 17 m = some (-100000, m) := by
  unfold f_X12_look
  rw [swt_no (Or.inr (by show ((17 : Nat) : Int) ≤ Int32.toInt 17 - 0; decide))]
/-- what a round ends with -/
def RE (LN : List Lin) (dl : Option (Nat → Int32)) (B A c0 s0 : Nat) (t k : Nat) (h : DS) : Prop := ∃ lb p w T Pp f, WI LN dl B A lb t p w k T Pp f h ∧ csz h.2.1 ≤ c0 ∧ ssz h.2.1 ≤ s0
theorem r_967 (hN : 20000 ≤ N) (hD : LawD LN dl) (I : WI LN dl B A lb t p w k T Pp f h) (hn : csz h.2.1 + 2 < 1000000) (hc : csz h.2.1 + 1 ≤ c0) (hs : ssz h.2.1 + 11 ≤ s0) (hX : ∀ t' k' h', RE LN dl B A c0 s0 t' k' h' → Wd (X (t', nI k', s5 + 1) h') Q) :
    Wd (g_L_law_J967_41 N Lc xs A K994 X t (nI k) s5 h) Q := by
  unfold g_L_law_J967_41
  refine wd_qt (v := nI k) I.1.2.2.1 (pr_look hN) (pg_f_X11_look (Gh.rf _)) (fun m => ps_f_X12_look (Ag.rf m)) I.2.2.1 (fun m1 g => wp_eq e_look16 (wp_ret ⟨by rw [g 123 (by decide)]; exact I.2.2.2.2.2.1.1, Fr.rf⟩)) (fun m2 i2 q2 => ?_)
  have I2 : WI LN dl B A lb t p w k T Pp f (pat h m2) := I.quiet (lk_pm I.1.2.2.1) i2 q2 frl_pat
  refine wd_yes rfl (wd_chk (e_isT I2.1.1.ob) (wd_bd3 (h_same hN I2.1 I2.2.2.1 I2.2.2.2.1 I2.2.2.2.2.1 hD I2.2.1 hn) ?_))
  rintro v3 h3 ⟨rfl, k3, i3, q3, F3, c3, s3⟩
  rw [if_neg (show ¬ (1 : Int32) = 0 by decide)]
  refine hX t k h3 ⟨lb, p, w, T, Pp, f, I2.quiet k3 i3 q3 F3, ?_, ?_⟩
  · rw [c3]; exact hc
  · rw [s3]; exact hs
/-- a deed is done on both sides; the House from before lies at b -/
def Mid (LN : List Lin) (dl : Option (Nat → Int32)) (B A : Nat) (lb : Nat → Nat × Nat × Nat) (t : Nat) (p : Plc) (w w' : Arr) (k : Nat) (T : Nat → Nat) (Pp : Nat → Plc) (f : Nat → Arr) (b : Nat) (pb : Plc) (h : DS) : Prop :=
  HS lb h t p w' dl ∧ PB p ∧ Inv h.1 ∧ h.1 124 = w' ∧ Lw LN w' ∧ PaM (min 6 (k + 1)) (nxt k f w) h.1 ∧ Hok (min 6 (k + 1)) (nxt k f w) w' ∧ h.1 123 16 = nI 0 ∧ PsH lb h t A w' dl k T Pp f ∧
  k ≤ 6 ∧ HouR h b pb w dl ∧ HLb lb b pb w ∧ PB pb ∧ exH w w' ∧ b ≠ t ∧ (∀ i, i < k → b ≠ T i) ∧ (∀ i, i < k → exH (f i) w) ∧ EvB B k f w ∧ evB B w'
theorem r_917 (hN : 20000 ≤ N) (hD : LawD LN dl) (I : Mid LN dl B A lb t p w w' k T Pp f b pb h) (hn : csz h.2.1 + 2 < 1000000) (hc : csz h.2.1 + 1 ≤ c0) (hs : ssz h.2.1 + 11 ≤ s0) (hX : ∀ t' k' h', RE LN dl B A c0 s0 t' k' h' → Wd (X (t', nI k', s5 + 1) h') Q) :
    Wd (g_L_law_J917_41 N Lc xs A K994 X t (nI k) s5 b 1 h) Q := by
  obtain ⟨H, bp, hI, i2, L, P, O, tp, Ps, hk, Hb, Bb, bb, xb, hbt, hbT, hx, ev1, ev2⟩ := I
  obtain ⟨⟨rs, e, l, q⟩, hA, lA, Pq⟩ := id Ps
  have fin : ∀ h' rs', SetA A rs' h h' → lk h' → PsH lb h' t A w' dl (min 6 (k + 1)) (nxg k T b) (nxg k Pp pb) (nxt k f w) → Wd (g_L_law_J967_41 N Lc xs A K994 X t (nI (min 6 (k + 1))) s5 h') Q := by
    intro h' rs' S kl P'
    have cz : csz h'.2.1 = csz h.2.1 := by
      show h'.2.1.length = h.2.1.length
      rw [S.2.2, List.length_set]
    have sz : ssz h'.2.1 = ssz h.2.1 := by rw [S.2.2]; exact ssz_set _ _ (104, 6, rs) _ e rfl
    exact r_967 hN hD ⟨SetA.HS H S e kl, bp, by rw [S.1]; exact hI, by rw [S.1]; exact i2, L, by rw [S.1]; exact P, O, by rw [S.1]; exact tp, P', ev1.next ev2⟩ (by omega) (by omega) (by omega) hX
  unfold g_L_law_J917_41
  rw [if_neg (show ¬ (1 : Int32) = 0 by decide)]
  by_cases h6 : k = 6
  · subst h6
    rw [if_pos (show nI 6 = (6 : Int32) from rfl)]
    refine p_shift hN Ps H.2.2.1 (fun h1 rs1 S1 k1 l1 q1 => ?_)
    show Wd (g_L_law_J958_41 N Lc xs A K994 X t (nI 6 + (-1)) s5 b h1) Q
    unfold g_L_law_J958_41
    exact p_put Ps H.2.2.1 hk S1 (S1.at e) k1 l1 (fun i hi => q1 i (by omega)) Hb Bb bb xb hbt hbT hx fin
  · rw [if_neg (show ¬ nI k = (6 : Int32) from nI_ne h6 (by omega) (by decide))]
    unfold g_L_law_J958_41
    have e1 : min 6 (k + 1) - 1 = k := by omega
    have e2 : nI k + (1 : Int32) = nI (min 6 (k + 1)) := by
      rw [show min 6 (k + 1) = k + 1 by omega]
      exact nI_up k
    have S1 : SetA A rs h h := ⟨rfl, rfl, by
      refine List.ext_getElem? fun i => ?_
      by_cases y : A = i
      · subst y
        rw [List.getElem?_set, if_pos rfl, if_pos (len_of e)]
        exact e
      · rw [List.getElem?_set, if_neg y]⟩
    rw [e2]
    have := p_put (K := fun h_966 => g_L_law_J967_41 N Lc xs A K994 X t (nI (min 6 (k + 1))) s5 h_966) Ps H.2.2.1 hk S1 e H.2.2.1 l (fun i hi => by
      rw [if_neg h6]
      exact q i (by omega)) Hb Bb bb xb hbt hbT hx fin
    rw [e1] at this
    exact this
/-- nothing was done -/
theorem r_917n (hN : 20000 ≤ N) (hD : LawD LN dl) (I : WI LN dl B A lb t p w k T Pp f h) (hn : csz h.2.1 + 2 < 1000000) (hc : csz h.2.1 + 1 ≤ c0) (hs : ssz h.2.1 + 11 ≤ s0) (hX : ∀ t' k' h', RE LN dl B A c0 s0 t' k' h' → Wd (X (t', nI k', s5 + 1) h') Q) :
    Wd (g_L_law_J917_41 N Lc xs A K994 X t (nI k) s5 b 0 h) Q := by
  unfold g_L_law_J917_41
  rw [if_pos rfl]
  exact r_967 hN hD I hn hc hs hX
end WORLD
