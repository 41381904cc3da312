/-! the end of a deed done once: the book, and whether it is done again -/
section TAIL
variable {h h' h2 : DS} {t N d hh b c o : Nat} {p : Plc} {w w' : Arr} {dl : Option (Nat → Int32)} {LN : List Lin} {v x a2 : Int32} {lb : Nat → Nat × Nat × Nat} {tru cg : Bool}
/-- the note of a true evening -/
theorem h_noteT {a c0 c1 : Int32} (H : HS lb h t p w dl) (W0 : WFc w) (hn : csz h.2.1 + 1 < 1000000) : Wd (g_X12_notes N t a c0 c1 (b2i tru) h) (fun _ h' => OpR lb t h p dl 1 4 (if tru = true then nteS w a c0 c1 else w) h' ∧ ∀ j, j ≠ 9 → h'.2.2 t j = h.2.2 t j) := by
  cases tru with
  | true => exact h_notes H W0 hn
  | false =>
    unfold g_X12_notes
    refine wd_ite (fun _ => ?_) (fun z => absurd rfl z)
    exact wd_ret ⟨(OpR.rf H).up (by decide) (by decide), fun _ _ => rfl⟩
theorem h_end {a han : Int32} (hN : 20000 ≤ N) (H : HS lb h t p w dl) (W0 : WFc w) (hn : csz h.2.1 + 1 < 1000000) (h24 : h.2.2 t 24 = han) :
    Wd (g_X12_once_J437 N t (nI d) (b2i tru) (b2i cg) a t h) (fun v h' => v = b2i (!cg && decide (hndS w ≤ han) && mayS w) ∧ OpR lb t h p dl 1 4 (if tru = true then nteS w a (nI d) han else w) h') := by
  have W1 : WFc (if tru = true then nteS w a (nI d) han else w) := by
    split
    · exact W0.nte
    · exact W0
  have o1 : ∀ i, i ≠ 6 → i < 223 → (if tru = true then nteS w a (nI d) han else w) i = w i := by
    intro i h1 h2
    split
    · exact nteS_o h1 h2
    · rfl
  unfold g_X12_once_J437
  refine wd_bo (hs_I H.1 (by decide) (by decide)) ?_
  rw [h24]
  refine wd_chk (e_isT H.1.ob) (wd_bd3 (h_noteT (N := N) H W0 hn) ?_)
  rintro v1 h1 ⟨O1, J1⟩
  generalize ew : (if tru = true then nteS w a (nI d) han else w) = w1 at W1 o1 O1 ⊢
  obtain ⟨p1, lb1, H1, O2⟩ := id O1
  cases cg with
  | true =>
    refine wd_ite (fun z => absurd z (by decide)) (fun _ => ?_)
    exact wd_ret ⟨rfl, O1⟩
  | false =>
    refine wd_ite (fun _ => ?_) (fun z => absurd rfl z)
    refine wd_bo (hs_I H1.1 (by decide) (by decide)) ?_
    rw [J1 24 (by decide), h24]
    refine wd_chk (e_isT H1.1.ob) (wd_bd3 (h_asks (N := N) hN H1.1 W1) ?_)
    rintro v2 h2 ⟨rfl, rfl⟩
    have eh : hndS w1 = hndS w := hndS_cg W0 (fun i hi => by
      rcases hi with rfl | rfl | hi
      · exact o1 _ (by decide) (by decide)
      · exact o1 _ (by decide) (by decide)
      · exact o1 _ (by omega) (by omega))
    have em : mayS w1 = mayS w := mayS_cg W0 (fun i hi => by
      rcases hi with rfl | rfl | rfl | hi
      · exact o1 _ (by decide) (by decide)
      · exact o1 _ (by decide) (by decide)
      · exact o1 _ (by decide) (by decide)
      · exact o1 _ (by omega) (by omega))
    rw [eh, ← em]
    have hI := H1.1.int
    refine wd_ite (fun q => ?_) (fun q => ?_)
    · rw [decide_eq_false (fun z => absurd (Int32.lt_of_lt_of_le q z) (Int32.lt_irrefl)), Bool.and_false]
      exact wd_ret ⟨rfl, O1⟩
    · rw [decide_eq_true (Int32.not_lt.mp q)]
      refine wd_bo (hs_I H1.1 (by decide) (by decide)) (wd_bo (hs_I H1.1 (by decide) (by decide)) ?_)
      rw [hI.2.2.2.2.2.1, hI.2.2.2.2.2.2.2.2.2.2.1]
      unfold mayS
      refine wd_ite (fun q2 => ?_) (fun q2 => ?_)
      · rw [decide_eq_false (p := w1 4 < _) (fun z => absurd (Int32.lt_of_lt_of_le z q2) (Int32.lt_irrefl))]
        exact wd_ret ⟨rfl, O1⟩
      · rw [decide_eq_true (p := w1 4 < _) (Int32.not_le.mp q2)]
        refine wd_bo (hs_I H1.1 (by decide) (by decide)) (wd_bo (hs_I H1.1 (by decide) (by decide)) ?_)
        rw [hI.2.1, hI.2.2.2.2.2.2.2.2.2.2.2.1]
        refine wd_ite (fun q3 => ?_) (fun q3 => ?_)
        · rw [decide_eq_false (p := w1 0 < _) (fun z => absurd (Int32.lt_of_lt_of_le z q3) (Int32.lt_irrefl))]
          exact wd_ret ⟨rfl, O1⟩
        · rw [decide_eq_true (p := w1 0 < _) (Int32.not_le.mp q3)]
          exact wd_ret ⟨rfl, O1⟩
end TAIL
