/-! coughs, and the end -/
section FIN
variable {h h' h2 : DS} {t N d hh b c o : Nat} {p : Plc} {w w' : Arr} {dl : Option (Nat → Int32)} {LN : List Lin} {v x a2 : Int32} {lb : Nat → Nat × Nat × Nat} {tru cg : Bool}
theorem h_424 {han : Int32} (hN : 20000 ≤ N) (H : HS lb h t p w dl) (W0 : WFc w) (hn : csz h.2.1 + 1 < 1000000) (h24 : h.2.2 t 24 = han) (hw4 : ∃ k, k < 2 ^ 31 ∧ w 4 = nI k) :
    Wd (g_X12_once_J424 N t (nI d) (b2i tru) (b2i cg) h) (fun v h' => v = b2i (!cg && decide (hndS w ≤ han) && mayS w) ∧ OpR lb t h p dl 1 4 (if tru = true then nteS w (if w 4 = nI 0 then nI 0 else nI 1) (nI d) han else w) h') := by
  obtain ⟨k, k1, k2⟩ := hw4
  unfold g_X12_once_J424
  refine wd_bo (hs_I H.1 (by decide) (by decide)) ?_
  rw [H.1.int.2.2.2.2.2.1, k2]
  refine wd_ite (fun q => ?_) (fun q => ?_)
  · have q := (nI_leI (a := k) (b := 0) k1 (by decide)).mp q
    have : k = 0 := by omega
    subst this
    rw [if_pos rfl]
    exact h_end hN H W0 hn h24
  · have q : ¬ k ≤ 0 := fun z => q ((nI_leI (a := k) (b := 0) k1 (by decide)).mpr z)
    rw [if_neg (nI_ne (by omega) k1 (by decide))]
    exact h_end hN H W0 hn h24
theorem hs_drw {h3 : DS} {k : Nat} (H : HS lb h t p w dl) (W0 : WFc w) (hk : k < 6) (H3 : HouR h3 t p (upd w k x) dl) (K3 : KpH lb t h h3) (S3 : h3.2.1 = h.2.1) : HS lb h3 t p (upd w k x) dl := by
  refine ⟨H3, H.2.1.low (fun i hi => ud_n (by omega)) W0.lzs, ⟨fun k hk => ?_, by rw [S3]; exact H.2.2.1.2.1, by rw [S3]; exact H.2.2.1.2.2.1, by rw [S3]; exact H.2.2.1.2.2.2⟩, H.2.2.2⟩
  have hk2 : k < h.2.1.length := Nat.lt_of_lt_of_le hk (lk_len H.2.2.1)
  have hk3 : (lb k).1 ≠ t := by
    rw [H.2.2.2 k hk]
    have := H.1.1.1
    omega
  rw [(K3.2.2 k hk2 hk3).2, K3.1]
  exact H.2.2.1.1 k hk
theorem h_fin {raw : Nat} (hN : 20000 ≤ N) (H : HS lb h t p w dl) (W0 : WFc w) (hn : csz h.2.1 + 2 < 1000000) (h24 : h.2.2 t 24 = nI raw) (hw4 : ∃ k, k < 2 ^ 31 ∧ w 4 = nI k) :
    Wd (if b2i tru = 0 then (g_X12_once_J403 N t (nI d) (b2i tru) h)
else (bo (dI h t 12 6) fun a_379 =>
if a_379 ≤ 0 then (g_X12_once_J403 N t (nI d) (b2i tru) h)
else (chk (isT h 12 t) <| bd3 (g_X12_draw N t (1000 : Int32) h) fun v_389 h_389 =>
bo (dI h_389 t 12 6) fun a_393 =>
if a_393 ≤ v_389 then (g_X12_once_J403 N t (nI d) (b2i tru) h_389)
else (g_X12_once_J404 N t (nI d) (b2i tru) (1 : Int32) h_389))))
      (fun v h' => v = b2i (!cghB tru w && decide (hndS (cghW tru w) ≤ (if cghB tru w = true then nI 0 else nI raw)) && mayS (cghW tru w)) ∧
        OpR lb t h p dl 2 8 (if tru = true then nteS (if cghB tru w = true then nteS (cghW tru w) (nI 2) (nI d) (nI 0) else cghW tru w) (if (if cghB tru w = true then nteS (cghW tru w) (nI 2) (nI d) (nI 0) else cghW tru w) 4 = nI 0 then nI 0 else nI 1) (nI d) (if cghB tru w = true then nI 0 else nI raw) else (if cghB tru w = true then nteS (cghW tru w) (nI 2) (nI d) (nI 0) else cghW tru w)) h') := by
  have no : ∀ h1, HS lb h1 t p (cghW tru w) dl → KpH lb t h h1 → h1.2.1 = h.2.1 → h1.2.2 t 24 = nI raw → cghB tru w = false → Wd (g_X12_once_J403 N t (nI d) (b2i tru) h1) (fun v h' => v = b2i (!false && decide (hndS (cghW tru w) ≤ nI raw) && mayS (cghW tru w)) ∧ OpR lb t h p dl 2 8 (if tru = true then nteS (cghW tru w) (if (cghW tru w) 4 = nI 0 then nI 0 else nI 1) (nI d) (nI raw) else cghW tru w) h') := by
    intro h1 H1 K1 S1 E1 C1
    unfold g_X12_once_J403 g_X12_once_J404
    refine wd_ite (fun _ => ?_) (fun z => absurd rfl z)
    refine wd_mono (h_424 (cg := false) hN H1 W0.cgh (by rw [S1]; omega) E1 (by rw [cghW_o (by decide)]; exact hw4)) ?_
    rintro v h2 ⟨e, O⟩
    exact ⟨e, (OpR.tr H1 (fun _ _ => rfl) K1 (C := 0) (S := 0) (by rw [S1]; exact Nat.le_refl _) (by rw [S1]; exact Nat.le_refl _) ⟨rfl, rfl, rfl, rfl⟩ O).up (by decide) (by decide)⟩
  cases tru with
  | false =>
    refine wd_ite (fun _ => ?_) (fun z => absurd rfl z)
    exact no h H KpH.rf rfl h24 rfl
  | true =>
    refine wd_ite (fun z => absurd z (by decide)) (fun _ => ?_)
    refine wd_bo (hs_I H.1 (by decide) (by decide)) ?_
    rw [H.1.int.2.2.2.2.2.2.1]
    refine wd_ite (fun q => ?_) (fun q => ?_)
    · have q' : decide (nI 0 < w 39) = false := decide_eq_false (fun z => absurd (Int32.lt_of_lt_of_le z q) Int32.lt_irrefl)
      have e1 : cghB true w = false := by
        unfold cghB
        rw [q']
        rfl
      have e2 : cghW true w = w := by
        unfold cghW
        rw [q']
        rfl
      have := no h (by rw [e2]; exact H) KpH.rf rfl h24 e1
      rw [e1]
      exact this
    · have q' : decide (nI 0 < w 39) = true := decide_eq_true (Int32.not_le.mp q)
      have e2 : cghW true w = upd w 5 (drwS (w 5)) := by
        unfold cghW
        rw [q']
        rfl
      refine wd_chk (e_isT H.1.ob) (wd_bd3 (h_draw (N := N) H.1 H.2.1.1 W0.lzs) ?_)
      rintro v2 h3 ⟨rfl, H3, K3, S3, M3, J3⟩
      have G3 := hs_drw H W0 (by decide) H3 K3 S3
      have hT : h3.2.2 t 24 = h.2.2 t 24 := J3 24 (by decide)
      refine wd_bo (hs_I H3 (by decide) (by decide)) ?_
      rw [H3.int.2.2.2.2.2.2.1, ud_n (by decide)]
      refine wd_ite (fun q2 => ?_) (fun q2 => ?_)
      · have e1 : cghB true w = false := by
          unfold cghB
          rw [q', decide_eq_false (fun z => absurd (Int32.lt_of_lt_of_le z q2) Int32.lt_irrefl)]
          rfl
        have := no h3 (by rw [e2]; exact G3) K3 S3 (hT.trans h24) e1
        rw [e1]
        exact this
      · have e1 : cghB true w = true := by
          unfold cghB
          rw [q', decide_eq_true (Int32.not_le.mp q2)]
          rfl
        have W3 : WFc (upd w 5 (drwS (w 5))) := W0.up (by decide)
        rw [e1, e2]
        simp only [if_true]
        unfold g_X12_once_J404
        refine wd_ite (fun z => absurd z (by decide)) (fun _ => ?_)
        obtain ⟨g1, g2, g3⟩ := h_wS (j := 24) (x := 0) G3 (by decide) (by decide) (by decide) (by rw [show zs (upd w 5 (drwS (w 5))) = zs w from by unfold zs; rw [ud_n (by decide)]]; exact W0.lzs)
        refine wd_bo g1 (wd_chk (e_isT g2.1.ob) (wd_bd3 (h_notes (N := N) (a := 2) (c0 := nI d) (c1 := 0) g2 W3 (by show csz h3.2.1 + 1 < _; rw [S3]; omega)) ?_))
        rintro v5 h5 ⟨⟨p5, lb5, H5, L5, K5, C5, T5, P5⟩, J5⟩
        refine wd_mono (h_424 (tru := true) (cg := true) (han := nI 0) hN H5 W3.nte (by have : csz h5.2.1 ≤ csz h3.2.1 + 1 := C5; rw [S3] at this; omega) (by rw [J5 24 (by decide)]; exact mset_at _ _ _ _) (by rw [nteS_o (by decide) (by decide), ud_n (by decide)]; exact hw4)) ?_
        rintro v6 h6 ⟨e, O⟩
        have z0 : ∀ A B : Bool, (!true && A && B) = false := fun _ _ => rfl
        refine ⟨by rw [e, z0, z0], OpR.tr (C := 1) (S := 4) H5 (fun c hc => L5 c (by show c < h3.2.1.length; rw [S3]; exact hc)) ((K3.tr (fun _ _ => rfl) g3).tr (fun _ _ => rfl) K5) (by have : csz h5.2.1 ≤ csz h3.2.1 + 1 := C5; rw [S3] at this; exact this) (by have : ssz h5.2.1 ≤ ssz h3.2.1 + 4 := T5; rw [S3] at this; exact this) P5 O⟩
end FIN
