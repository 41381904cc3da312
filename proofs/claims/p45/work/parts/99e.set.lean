/-! clapping until none joins -/
section SETTLE
variable {h h' h2 : DS} {t N d hh b c o : Nat} {p : Plc} {w w' : Arr} {dl : Option (Nat → Int32)} {LN : List Lin} {v x a2 : Int32} {lb : Nat → Nat × Nat × Nat}
theorem h_set {K : DS → DA} {Q : Int32 → DS → Prop} {dr : Nat → Int32} (hN : 20000 ≤ N) (H : HS lb h t p w dl) (W0 : WFc w) (hD : LawD LN dl) (hd : d < zd w) (ho2 : h.2.1[o]? = some (100, 12, []))
    (hdr : ∀ i, i < zh w → (zt w).testBit i = true → h.2.2 o i = dr i) (h22 : h.2.2 t 22 = nI 0) (h23 : h.2.2 t 23 = nI 0)
    (hK : ∀ h', HS lb h' t p w dl → KpH lb t h h' → h'.2.1 = h.2.1 → (∀ c, c ≠ t → h'.2.2 c = h.2.2 c) → (setS LN w d (rdyS w) dr 13 0 0).1 < 2 ^ zh w → h'.2.2 t 22 = nI (setS LN w d (rdyS w) dr 13 0 0).1 → h'.2.2 t 23 = nI (setS LN w d (rdyS w) dr 13 0 0).2 → Wd (K h') Q) :
    Wd (jt (fun Y a hz => g_X12_once_L158 N t (nI d) a2 o K Y a hz) N (1 : Int32) h) Q := by
  have s := W0.lzh
  have hz := W0.lzs
  refine wd_jt (fun n a h' => ∃ k cl r, HS lb h' t p w dl ∧ KpH lb t h h' ∧ h'.2.1 = h.2.1 ∧ (∀ c, c ≠ t → h'.2.2 c = h.2.2 c) ∧ cl < 2 ^ zh w ∧ h'.2.2 t 22 = nI cl ∧ h'.2.2 t 23 = nI r ∧
    ((n = k + 1 ∧ a = 1 ∧ setS LN w d (rdyS w) dr 13 0 0 = setS LN w d (rdyS w) dr k cl r ∧ 13 ≤ k + pc cl) ∨ (n = 0 ∧ a = 0 ∧ setS LN w d (rdyS w) dr 13 0 0 = (cl, r)))) ?_ N 14 _ _ (by omega)
    ⟨13, 0, 0, H, KpH.rf, rfl, fun _ _ => rfl, Nat.pow_pos (by decide), h22, h23, Or.inl ⟨rfl, rfl, rfl, by omega⟩⟩
  rintro n X a h1 ⟨k, cl, r, H1, K1, S1, M1, C1, E22, E23, E⟩ hX
  have oT : o ≠ t := ne_of_tag (h := h1) (by rw [S1]; exact ho2) H1.1.ob (by decide)
  unfold g_X12_once_L158
  rcases E with ⟨rfl, rfl, E, F⟩ | ⟨rfl, rfl, E⟩
  · refine wd_ite (fun z => absurd z (by decide)) (fun _ => ?_)
    have hp := pc_le cl
    obtain ⟨k', rfl⟩ : ∃ k', k = k' + 1 := ⟨k - 1, by omega⟩
    refine h_round (dr := dr) (cl := cl) hN H1 W0 hD hd (by rw [S1]; exact ho2) (fun i hi hb => by rw [M1 o oT]; exact hdr i hi hb) E22 C1 ?_
    intro h3 H3 K3 S3 M3 F22 F23
    by_cases q : rndS LN w d (rdyS w) dr cl (zh w) = cl
    · rw [decide_eq_false (fun z => z q)]
      refine wd_ite (fun _ => ?_) (fun z => absurd rfl z)
      refine hX 0 _ _ (by omega) ⟨0, cl, r, H3, K1.tr (fun _ _ => rfl) K3, S3.trans S1, fun c hc => (M3 c hc).trans (M1 c hc), C1, by rw [F22, q], F23.trans E23, Or.inr ⟨rfl, rfl, ?_⟩⟩
      rw [E]
      unfold setS
      rw [if_pos q]
    · rw [decide_eq_true q]
      refine wd_ite (fun z => absurd z (by decide)) (fun _ => ?_)
      refine wd_bo (hs_I H3.1 (by decide) (by decide)) ?_
      rw [F23, E23, show nI r + (1 : Int32) = nI (r + 1) from nI_up r]
      obtain ⟨g1, g2, g3⟩ := h_wS (j := 23) (x := nI (r + 1)) H3 (by decide) (by decide) (by decide) hz
      refine wd_bo g1 ?_
      refine hX (k' + 1) _ _ (by omega) ⟨k', _, r + 1, g2, (K1.tr (fun _ _ => rfl) K3).tr (fun _ _ => rfl) g3, S3.trans S1, fun c hc => (mset_ne hc).trans ((M3 c hc).trans (M1 c hc)), rndS_lt C1 _ (Nat.le_refl _), (mset_j (by decide)).trans F22, mset_at _ _ _ _, Or.inl ⟨rfl, rfl, ?_, ?_⟩⟩
      · rw [E]
        show (if _ = cl then _ else _) = _
        rw [if_neg q]
      · have := (rndS_pc (LN := LN) (w := w) (d := d) (rdy := rdyS w) (dr := dr) (cl := cl) (zh w) s).resolve_left q
        omega
  · refine wd_ite (fun _ => ?_) (fun z => absurd rfl z)
    exact hK h1 H1 K1 S1 M1 (by rw [E]; exact C1) (by rw [E]; exact E22) (by rw [E]; exact E23)
end SETTLE
