/-! a deed done with all its agains -/
section DOS
variable {h h' h2 : DS} {t N d hh b c o : Nat} {p : Plc} {w w' : Arr} {dl : Option (Nat → Int32)} {LN : List Lin} {v x a2 : Int32} {lb lb' : Nat → Nat × Nat × Nat} {tru cg : Bool}
theorem h_does {B : Nat} (hN : 20000 ≤ N) (H : HS lb h t p w dl) (W0 : WFc w) (hm : WFm B w) (hB : B < 90000) (hD : LawD LN dl) (hd : d < zd w) (hn : csz h.2.1 + 70 < 1000000) :
    Wd (g_X12_does N t (nI d) (b2i tru) h) (fun v h' => v = nI (dosS LN tru d 21 w 0).2 ∧ OpR lb t h p dl 63 420 (dosS LN tru d 21 w 0).1 h') := by
  have l := W0.lzd
  unfold g_X12_does
  generalize hT : dosS LN tru d 21 w 0 = T
  refine wd_jt (fun q a h2 => ∃ k w1 n', k ≤ 21 ∧ q = k + 1 ∧ a = nI (n' + 1) ∧ dosS LN tru d k w1 n' = T ∧ OpR lb t h p dl (3 * (21 - k)) (20 * (21 - k)) w1 h2 ∧ WFc w1 ∧ WFm (B + 60 * (21 - k)) w1 ∧ zd w1 = zd w ∧ (k = 21 ∨ ∃ b, w1 4 = nI b ∧ 21 - k ≤ b + 1 ∧ b < 20 ∧ w1 3 = nI d)) ?_ N 22 _ _ (by omega)
    ⟨21, w, 0, Nat.le_refl _, rfl, rfl, hT, OpR.rf H, W0, by simpa using hm, rfl, Or.inl rfl⟩
  rintro q X a h2 ⟨k, w1, n', hk, rfl, rfl, hs, ⟨p1, lb1, H1, L1, K1, C1, T1, P1⟩, W1, hm1, hz, hag⟩ hX
  have hz3 := zd_one (LN := LN) (tru := tru) (w := w1) (d := d) (by omega)
  have hd1 : d < zd w1 := by rw [hz]; exact hd
  unfold g_X12_does_L2
  refine wd_chk (e_isT H1.1.ob) (wd_bd3 (h_once (N := N) (tru := tru) (B := B + 60 * (21 - k)) hN H1 W1 hm1 (by omega) hD hd1 (by omega)) ?_)
  rintro v3 h3 ⟨rfl, O3⟩
  match k, hk, hs, hm1, hag, hX, C1, T1 with
  | 0, _, _, _, hag, _, _, _ =>
    rcases hag with q | ⟨b, -, h1, h2, -⟩ <;> omega
  | k + 1, hk, hs, hm1, hag, hX, C1, T1 =>
    have O4 : OpR lb t h p dl (3 * (21 - k)) (20 * (21 - k)) (oneS LN tru w1 d) h3 := (OpR.tr H1 L1 K1 C1 T1 P1 O3).up (by omega) (by omega)
    unfold dosS at hs
    cases hg : gonS LN tru w1 d with
    | true =>
      rw [if_pos hg] at hs
      refine wd_ite (fun z => absurd z (by decide)) (fun _ => ?_)
      refine hX (k + 1) _ _ (by omega) ⟨k, oneS LN tru w1 d, n' + 1, by omega, rfl, nI_up _, hs, O4, W1.one hd1, ?_, hz3.trans hz, Or.inr ?_⟩
      · have := hm1.one (LN := LN) (tru := tru) (by omega) W1 hd1
        rw [show B + 60 * (21 - k) = B + 60 * (21 - (k + 1)) + 60 by omega]
        exact this
      · have e4 : oneS LN tru w1 d 4 = againS w1 d := (oneS_o (by decide) (by decide) (by decide)).trans begS_4
        have e3' : oneS LN tru w1 d 3 = nI d := (oneS_o (by decide) (by decide) (by decide)).trans begS_3
        have W3 := W1.w3 (LN := LN) (tru := tru) hd1
        have hmay : mayS (w3S LN tru w1 d) = true := by
          unfold gonS at hg
          rw [Bool.and_eq_true] at hg
          exact hg.2
        unfold mayS at hmay
        rw [Bool.and_eq_true, decide_eq_true_iff] at hmay
        have e43 : w3S LN tru w1 d 4 = againS w1 d := (w3S_o (by decide)).trans begS_4
        obtain ⟨q, hq, eq⟩ := lst8_le W3 (zs (w3S LN tru w1 d)) (Nat.le_refl _)
        have hlt := hmay.1
        rw [e43, eq] at hlt
        obtain ⟨b, hb1, hb2, hb3⟩ : ∃ b, againS w1 d = nI b ∧ 21 - k ≤ b + 1 ∧ b < 100000 := by
          obtain ⟨a0, b0, h0, h40, hba, haB⟩ := hm1
          unfold againS
          rcases hag with q | ⟨b, h1, h2, h3, h5⟩
          · split
            · exact ⟨b0 + 1, by rw [h40, nI_up], by omega, by omega⟩
            · exact ⟨0, rfl, by omega, by omega⟩
          · rw [if_pos h5, h1, nI_up]
            exact ⟨b + 1, rfl, by omega, by omega⟩
        rw [hb1, nI_ltI (by omega) (by omega)] at hlt
        exact ⟨b, by rw [e4, hb1], hb2, by omega, e3'⟩
    | false =>
      rw [if_neg (by rw [hg]; decide)] at hs
      refine wd_ite (fun _ => ?_) (fun z => absurd rfl z)
      exact wd_ret ⟨by rw [← hs], by rw [← hs]; exact O4.up (by omega) (by omega)⟩
end DOS
