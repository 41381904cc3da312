/-! a deed done, as often as it is done again -/
section DOESH
variable {h h' h2 : DS} {t N d hh b c o : Nat} {p : Plc} {w w' : Arr} {dl : Option (Nat → Int32)} {LN : List Lin} {v x a2 : Int32} {lb lb' : Nat → Nat × Nat × Nat} {tru cg : Bool}
theorem h_once {B : Nat} (hN : 20000 ≤ N) (H : HS lb h t p w dl) (W0 : WFc w) (hm : WFm B w) (hB : B < 100000) (hD : LawD LN dl) (hd : d < zd w) (hn : csz h.2.1 + 4 < 1000000) :
    Wd (g_X12_once N t (nI d) (b2i tru) h) (fun v h' => v = b2i (gonS LN tru w d) ∧ OpR lb t h p dl 3 20 (oneS LN tru w d) h') := by
  obtain ⟨a, b, m0, m4, hba, haB⟩ := hm
  have h4 : ∃ k, k < 2 ^ 31 ∧ againS w d = nI k := by
    unfold againS
    split
    · exact ⟨b + 1, by omega, by rw [m4]; exact nI_up b⟩
    · exact ⟨0, by decide, rfl⟩
  have key := h_J26 (tru := tru) hN H W0 hD hd hn h4
  unfold g_X12_once
  refine wd_bo (hs_dee H.1) (wd_bo (rw_Q H.1.dee hd (by decide)) (wd_bo (hs_I H.1 (by decide) (by decide)) ?_))
  rw [H.1.int.2.2.2.2.1]
  refine wd_ite (fun q => ?_) (fun q => ?_)
  · refine wd_bo (hs_I H.1 (by decide) (by decide)) ?_
    rw [H.1.int.2.2.2.2.2.1, show w 4 + (1 : Int32) = againS w d from (if_pos q).symm]
    exact key
  · have e : againS w d = 0 := if_neg q
    rw [e] at key
    exact key
end DOESH
