/-! THE LAW: its frame, its rounds, its end -/
section LAWW
variable {h h' : DS} {N t Lc : Nat} {xs : Nat → Int32} {p : Plc} {w : Arr} {dl : Option (Nat → Int32)} {LN : List Lin} {lb : Nat → Nat × Nat × Nat} {Q : Int32 → DS → Prop} {m : Mem} {c0 s0 : Nat}
theorem m_hearX1 : f_X12_hearer N 10 0 0 m = some (mo1, m) := by
  unfold f_X12_hearer
  rw [e_isIn, bd_s, show decide ((0 : Int32) ≤ 10 ∧ (10 : Int32) ≤ 9) = false from by decide, if_pos (by decide)]
  rfl
theorem m_hearX2 : f_X12_hearer N 0 0 (-1) m = some (mo1, m) := by
  unfold f_X12_hearer
  rw [e_isIn, bd_s, show decide ((0 : Int32) ≤ 0 ∧ (0 : Int32) ≤ 9) = true from by decide, if_neg (by decide), e_isIn, bd_s, show decide ((0 : Int32) ≤ 0 ∧ (0 : Int32) ≤ 9) = true from by decide, if_neg (by decide), e_isIn, bd_s, show decide ((0 : Int32) ≤ -1 ∧ (-1 : Int32) ≤ 9) = false from by decide, if_pos (by decide)]
  rfl
theorem m_deedX1 : f_X12_deed N 10 1 0 m = some (mo1, m) := by
  unfold f_X12_deed
  rw [e_isIn, bd_s, show decide ((0 : Int32) ≤ 10 ∧ (10 : Int32) ≤ 9) = false from by decide, if_pos (by decide)]
  rfl
theorem m_deedX2 : f_X12_deed N 0 0 0 m = some (mo1, m) := by
  unfold f_X12_deed
  rw [e_isIn, bd_s, show decide ((0 : Int32) ≤ 0 ∧ (0 : Int32) ≤ 9) = true from by decide, if_neg (by decide), e_isIn, bd_s, show decide ((1 : Int32) ≤ 0 ∧ (0 : Int32) ≤ 60) = false from by decide, if_pos (by decide)]
  rfl
theorem m_deedX3 : f_X12_deed N 0 61 0 m = some (mo1, m) := by
  unfold f_X12_deed
  rw [e_isIn, bd_s, show decide ((0 : Int32) ≤ 0 ∧ (0 : Int32) ≤ 9) = true from by decide, if_neg (by decide), e_isIn, bd_s, show decide ((1 : Int32) ≤ 61 ∧ (61 : Int32) ≤ 60) = false from by decide, if_pos (by decide)]
  rfl
theorem m_deedX4 : f_X12_deed N 0 1 100 m = some (mo1, m) := by
  unfold f_X12_deed
  rw [e_isIn, bd_s, show decide ((0 : Int32) ≤ 0 ∧ (0 : Int32) ≤ 9) = true from by decide, if_neg (by decide), e_isIn, bd_s, show decide ((1 : Int32) ≤ 1 ∧ (1 : Int32) ≤ 60) = true from by decide, if_neg (by decide), e_isIn, bd_s, show decide ((0 : Int32) ≤ 100 ∧ (100 : Int32) ≤ 99) = false from by decide, if_pos (by decide)]
  rfl
theorem TI.wf (I : TI LN dl lb t p w h) : WFc w := by
  obtain ⟨-, -, hI, e, -⟩ := I
  obtain ⟨LN0, -, G, -⟩ := hI
  rw [e] at G
  exact G.1
theorem inb_m1 {n : Nat} (hn : n < 2 ^ 31) : inb (-1) n = false := inb_no (Or.inl (by decide)) hn
def g_law_end (N : Nat) (k2_994 : Nat) (hk994 : DS) : DA :=
chk (isT hk994 11 0) <| bdX (f_X11_evenings N (0 : Int32) hk994.1) hk994 fun v_996 hh_996 => bnd (gs (f_X12_evenings N (0 : Int32)) hh_996) fun h_996 =>
if v_996 = (-1 : Int32) then (chk (isT h_996 11 0) <| bdX (f_X11_evenings N (21 : Int32) h_996.1) h_996 fun v_1006 hh_1006 => bnd (gs (f_X12_evenings N (21 : Int32)) hh_1006) fun h_1006 =>
if v_1006 = (-1 : Int32) then (chk (isT h_1006 11 0) <| bdX (f_X11_hearer N (10 : Int32) (0 : Int32) (0 : Int32) h_1006.1) h_1006 fun v_1018 hh_1018 => bnd (gs (f_X12_hearer N (10 : Int32) (0 : Int32) (0 : Int32)) hh_1018) fun h_1018 =>
if v_1018 = (-1 : Int32) then (chk (isT h_1018 11 0) <| bdX (f_X11_hearer N (0 : Int32) (0 : Int32) (-1 : Int32) h_1018.1) h_1018 fun v_1029 hh_1029 => bnd (gs (f_X12_hearer N (0 : Int32) (0 : Int32) (-1 : Int32)) hh_1029) fun h_1029 =>
if v_1029 = (-1 : Int32) then (chk (isT h_1029 11 0) <| bdX (f_X11_deed N (10 : Int32) (1 : Int32) (0 : Int32) h_1029.1) h_1029 fun v_1041 hh_1041 => bnd (gs (f_X12_deed N (10 : Int32) (1 : Int32) (0 : Int32)) hh_1041) fun h_1041 =>
if v_1041 = (-1 : Int32) then (chk (isT h_1041 11 0) <| bdX (f_X11_deed N (0 : Int32) (0 : Int32) (0 : Int32) h_1041.1) h_1041 fun v_1052 hh_1052 => bnd (gs (f_X12_deed N (0 : Int32) (0 : Int32) (0 : Int32)) hh_1052) fun h_1052 =>
if v_1052 = (-1 : Int32) then (chk (isT h_1052 11 0) <| bdX (f_X11_deed N (0 : Int32) (61 : Int32) (0 : Int32) h_1052.1) h_1052 fun v_1064 hh_1064 => bnd (gs (f_X12_deed N (0 : Int32) (61 : Int32) (0 : Int32)) hh_1064) fun h_1064 =>
if v_1064 = (-1 : Int32) then (chk (isT h_1064 11 0) <| bdX (f_X11_deed N (0 : Int32) (1 : Int32) (100 : Int32) h_1064.1) h_1064 fun v_1076 hh_1076 => bnd (gs (f_X12_deed N (0 : Int32) (1 : Int32) (100 : Int32)) hh_1076) fun h_1076 =>
if v_1076 = (-1 : Int32) then (chk (isT h_1076 11 0) <| bdX (f_X11_set N (6 : Int32) (0 : Int32) (0 : Int32) h_1076.1) h_1076 fun v_1088 hh_1088 => bnd (gs (f_X12_set N (6 : Int32) (0 : Int32) (0 : Int32)) hh_1088) fun h_1088 =>
if v_1088 = 0 then (chk (isT h_1088 11 0) <| bdX (f_X11_perform N (-1 : Int32) h_1088.1) h_1088 fun v_1096 hh_1096 => bnd (gs (f_X12_perform N (-1 : Int32)) hh_1096) fun h_1096 =>
if v_1096 = (-1 : Int32) then (chk (isT h_1096 11 0) <| bdX (f_X11_pay N (-1 : Int32) (1 : Int32) h_1096.1) h_1096 fun v_1106 hh_1106 => bnd (gs (f_X12_pay N (-1 : Int32) (1 : Int32)) hh_1106) fun h_1106 =>
if v_1106 = 0 then (bo (dI h_1106 k2_994 12 7) fun a_1114 =>
chk (isT h_1106 11 0) <| bdX (f_X11_glove N a_1114 (1 : Int32) h_1106.1) h_1106 fun v_1118 hh_1118 => bnd (gs (f_X12_glove N a_1114 (1 : Int32)) hh_1118) fun h_1118 =>
if v_1118 = 0 then (chk (isT h_1118 11 0) <| bdX (f_X11_let N (-1 : Int32) (0 : Int32) h_1118.1) h_1118 fun v_1127 hh_1127 => bnd (gs (f_X12_let N (-1 : Int32) (0 : Int32)) hh_1127) fun h_1127 =>
if v_1127 = 0 then (chk (isT h_1127 11 0) <| bdX (f_X11_book N (0 : Int32) (4 : Int32) h_1127.1) h_1127 fun v_1136 hh_1136 => bnd (gs (f_X12_book N (0 : Int32) (4 : Int32)) hh_1136) fun h_1136 =>
if v_1136 = (-1 : Int32) then (chk (isT h_1136 11 0) <| bdX (f_X11_look N (17 : Int32) h_1136.1) h_1136 fun v_1146 hh_1146 => bnd (gs (f_X12_look N (17 : Int32)) hh_1146) fun h_1146 =>
if v_1146 = (-100000 : Int32) then (chk (isT h_1146 12 k2_994) <| bd3 (g_X12_isSame N k2_994 h_1146) fun v_1156 h_1156 =>
if v_1156 = 0 then (some ((0 : Int32), h_1156))
else (some ((1 : Int32), h_1156)))
else (some ((0 : Int32), h_1146)))
else (some ((0 : Int32), h_1136)))
else (some ((0 : Int32), h_1127)))
else (some ((0 : Int32), h_1118)))
else (some ((0 : Int32), h_1106)))
else (some ((0 : Int32), h_1096)))
else (some ((0 : Int32), h_1088)))
else (some ((0 : Int32), h_1076)))
else (some ((0 : Int32), h_1064)))
else (some ((0 : Int32), h_1052)))
else (some ((0 : Int32), h_1041)))
else (some ((0 : Int32), h_1029)))
else (some ((0 : Int32), h_1018)))
else (some ((0 : Int32), h_1006)))
else (some ((0 : Int32), h_996))
theorem g_law_eq : g_L_law N Lc xs h = (bd3 (g_L_house N Lc xs (0 : Int32) h) fun v_11 h_11 =>
bnd (ov v_11) fun o_11 =>
onn o_11 (some ((0 : Int32), h_11)) fun r_16 =>
(chk (isT h_11 12 r_16) <| bd3 (g_X12_isSame N r_16 h_11) fun v_21 h_21 =>
if v_21 = 0 then (some ((0 : Int32), h_21))
else (bo (nQ h_21 104 (6 : Int32)) fun h_31 =>
jt (fun Y a hz => g_L_law_L41 N Lc xs h_21.2.1.length (fun k2_994 hk994 => g_law_end N k2_994 hk994) Y a.1 a.2.1 a.2.2 hz) N (r_16, 0, 0) h_31))) := rfl
theorem w_lawend (hN : 20000 ≤ N) (hD : LawD LN dl) (I : TI LN dl lb t p w h) (hn : csz h.2.1 + 2 < 1000000) : Wd (g_law_end N t h) (fun v h' => v = 1 ∧ csz h'.2.1 = csz h.2.1 + 1 ∧ ssz h'.2.1 = ssz h.2.1 + 11) := by
  have W0 := I.wf
  have lh := W0.lzh
  have ld := W0.lzd
  have lz := W0.lzb
  unfold g_law_end
  refine wd_ref I (pr_evenings hN) (pg_f_X11_evenings (Gh.rf _)) (fun m => ps_f_X12_evenings (Ag.rf m)) (v := mo1) (fun m1 _ => m_evsX (by decide)) (fun h1 I1 E1 _ => wd_yes rfl ?_)
  refine wd_ref I1 (pr_evenings hN) (pg_f_X11_evenings (Gh.rf _)) (fun m => ps_f_X12_evenings (Ag.rf m)) (v := mo1) (fun m1 _ => m_evsX (by decide)) (fun h2 I2 E2 _ => wd_yes rfl ?_)
  refine wd_ref I2 (pr_hearer hN) (pg_f_X11_hearer (Gh.rf _)) (fun m => ps_f_X12_hearer (Ag.rf m)) (v := mo1) (fun m1 _ => m_hearX1) (fun h3 I3 E3 _ => wd_yes rfl ?_)
  refine wd_ref I3 (pr_hearer hN) (pg_f_X11_hearer (Gh.rf _)) (fun m => ps_f_X12_hearer (Ag.rf m)) (v := mo1) (fun m1 _ => m_hearX2) (fun h4 I4 E4 _ => wd_yes rfl ?_)
  refine wd_ref I4 (pr_deed hN) (pg_f_X11_deed (Gh.rf _)) (fun m => ps_f_X12_deed (Ag.rf m)) (v := mo1) (fun m1 _ => m_deedX1) (fun h5 I5 E5 _ => wd_yes rfl ?_)
  refine wd_ref I5 (pr_deed hN) (pg_f_X11_deed (Gh.rf _)) (fun m => ps_f_X12_deed (Ag.rf m)) (v := mo1) (fun m1 _ => m_deedX2) (fun h6 I6 E6 _ => wd_yes rfl ?_)
  refine wd_ref I6 (pr_deed hN) (pg_f_X11_deed (Gh.rf _)) (fun m => ps_f_X12_deed (Ag.rf m)) (v := mo1) (fun m1 _ => m_deedX3) (fun h7 I7 E7 _ => wd_yes rfl ?_)
  refine wd_ref I7 (pr_deed hN) (pg_f_X11_deed (Gh.rf _)) (fun m => ps_f_X12_deed (Ag.rf m)) (v := mo1) (fun m1 _ => m_deedX4) (fun h8 I8 E8 _ => wd_yes rfl ?_)
  refine wd_ref I8 (pr_set hN) (pg_f_X11_set (Gh.rf _)) (fun m => ps_f_X12_set (Ag.rf m)) (v := 0) (fun m1 e => m_setN (j := 6) (i := 0) (v := 0) e W0 (by decide) (by decide) (by decide) rfl) (fun h9 I9 E9 _ => wd_yes rfl ?_)
  refine wd_ref I9 (pr_perform hN) (pg_f_X11_perform (Gh.rf _)) (fun m => ps_f_X12_perform (Ag.rf m)) (v := mo1) (fun m1 e => m_perfX e W0 (inb_m1 (by omega))) (fun ha Ia Ea _ => wd_yes rfl ?_)
  refine wd_ref Ia (pr_pay hN) (pg_f_X11_pay (Gh.rf _)) (fun m => ps_f_X12_pay (Ag.rf m)) (v := 0) (fun m1 e => m_payX e W0 (inb_m1 (by omega))) (fun hb Ib Eb _ => wd_yes rfl ?_)
  refine wd_bo (hs_I Ib.1.1 (by decide) (by decide)) ?_
  rw [Ib.1.1.int.2.2.2.2.2.2.2.1, W0.h37]
  refine wd_ref Ib (pr_glove (b := true) hN) (pg_f_X11_glove (Gh.rf _)) (fun m => ps_f_X12_glove (Ag.rf m)) (v := 0) (fun m1 e => m_gloveX e W0 (inb_no (Or.inr (nI_le (Nat.le_refl _) (by omega))) (by omega))) (fun hc Ic Ec _ => wd_yes rfl ?_)
  refine wd_ref Ic (pr_let (b := false) hN) (pg_f_X11_let (Gh.rf _)) (fun m => ps_f_X12_let (Ag.rf m)) (v := 0) (fun m1 e => m_letX e W0 (inb_m1 (by omega))) (fun hd Id Ed _ => wd_yes rfl ?_)
  refine wd_ref Id pr_book (pg_f_X11_book (Gh.rf _)) (fun m => ps_f_X12_book (Ag.rf m)) (v := mo1) (fun m1 e => by
    have W1 : WFc (m1 124) := by rw [e]; exact W0
    rw [e_bookM W1, if_neg (fun z => absurd z.2 (by decide))]) (fun he Ie Ee _ => wd_yes rfl ?_)
  refine wd_ref Ie (pr_look hN) (pg_f_X11_look (Gh.rf _)) (fun m => ps_f_X12_look (Ag.rf m)) (v := -100000) (fun m1 e => e_look17) (fun hf If Ef _ => wd_yes rfl ?_)
  have ez : hf.2.1 = h.2.1 := by rw [Ef, Ee, Ed, Ec, Eb, Ea, E9, E8, E7, E6, E5, E4, E3, E2, E1]
  obtain ⟨H, bp, i1, ew, L, -⟩ := If
  refine wd_chk (e_isT H.1.ob) (wd_bd3 (h_same hN H i1 ew L hD bp (by rw [ez]; exact hn)) ?_)
  rintro v3 hg ⟨rfl, -, -, -, -, c3, s3⟩
  rw [if_neg (show ¬ (1 : Int32) = 0 by decide)]
  exact wd_ret ⟨rfl, by rw [c3, ez], by rw [s3, ez]⟩
end LAWW
