/-! THE LAW is told -/
section LAWTOLD
variable {h h' h1 h2 hb : DS} {N t u B V cap k m z i j c : Nat} {n : Nat → Nat} {p : Plc} {w w' : Arr} {dl : Option (Nat → Int32)} {lb : Nat → Nat × Nat × Nat} {s : List Nat} {Q : Int32 → DS → Prop} {x : Int32} {LN : List Lin}
theorem blw_lit {F : Nat → DS → DA} {S : Nat} (b : Bld hb B s k m h) (e : S = 1000200 + i) (hi : i < lwN) (hn : csz hb.2.1 + k + 1 < 1000000) (hlen : s.length + (litL i).length ≤ 320) (q : ∀ h', Bld hb B (s ++ litL i) (k + 1) (m + 640) h' → Wd (F B h') Q) :
    Wd (chk (isT h 13 B) <| bd3 (g_J4_append_15ec4 N B S h) fun v h1 => chk (decide (v ≠ -1)) <| bnd v.toNatClampNeg fun r => F r h1) Q := by
  subst e
  obtain ⟨b1, b2, b3, ⟨V, cap, b4, b5⟩, b6, b7⟩ := b
  have lB := (b4.lb b2).1
  refine wd_chk (e_isT b4.2.1) (wd_bd3 (jb_app b4 b2 (sts_lit hi) (lit_at hi).2.2 (by omega) (by omega)) ?_)
  rintro v h2 ⟨rfl, V', cap', g1, g2, g3, g4, g5, g6⟩
  refine wd_chk (decide_eq_true (nI_ne_m1 (by omega))) ?_
  rw [nI_clamp (by omega)]
  refine q h2 ⟨b1.fre2 g3 (fun c hc => by omega), g4, b3, ⟨V', cap', g1, ?_⟩, by omega, by omega⟩
  have := b1.2.1
  omega
theorem blw_num {F : Nat → DS → DA} (hN : 20000 ≤ N) (b : Bld hb B s k m h) (e : x = nI z) (hz : z < 10000) (hn : csz hb.2.1 + k + 1 < 1000000) (hlen : s.length + 4 ≤ 320) (q : ∀ h', Bld hb B (s ++ dgs z) (k + 1) (m + 640) h' → Wd (F B h') Q) :
    Wd (chk (isT h 13 B) <| bd3 (g_J4_append_bf812 N B x h) fun v h1 => chk (decide (v ≠ -1)) <| bnd v.toNatClampNeg fun r => F r h1) Q := by
  subst e
  obtain ⟨b1, b2, b3, ⟨V, cap, b4, b5⟩, b6, b7⟩ := b
  have lB := (b4.lb b2).1
  have d4 := dgs_le hz
  refine wd_chk (e_isT b4.2.1) (wd_bd3 (jb_num hN b4 b2 hz (by omega) (by omega)) ?_)
  rintro v h2 ⟨rfl, V', cap', g1, g2, g3, g4, g5, g6⟩
  refine wd_chk (decide_eq_true (nI_ne_m1 (by omega))) ?_
  rw [nI_clamp (by omega)]
  refine q h2 ⟨b1.fre2 g3 (fun c hc => by omega), g4, b3, ⟨V', cap', g1, ?_⟩, by omega, by omega⟩
  have := b1.2.1
  omega
theorem heaV_c4 (hw : ∀ i, i ≠ 40 → i < 823 → w' i = w i) (hi : i < 12) (hc : c < 6) : heaV w' i c = heaV w i c := by
  match c, hc with
  | 0, _ => exact hw _ (by omega) (by omega)
  | 1, _ => exact hw _ (by omega) (by omega)
  | 2, _ => exact hw _ (by omega) (by omega)
  | 3, _ =>
    show b2i ((zt w').testBit i) = b2i ((zt w).testBit i)
    unfold zt
    rw [hw 7 (by decide) (by decide)]
  | 4, _ =>
    show b2i ((zv w').testBit i) = b2i ((zv w).testBit i)
    unfold zv
    rw [hw 8 (by decide) (by decide)]
  | 5, _ => exact hw _ (by omega) (by omega)
  | c + 6, hc => exact absurd hc (by omega)
theorem HS.c40 (H : HS lb h t p w dl) (W0 : WFc w) (ew : ∀ i, i ≠ 40 → i < 823 → w' i = w i) : HS lb h t p w' dl := by
  obtain ⟨⟨⟨a1, a2⟩, aI, g1, g2, g3, g4, g5, g6, g7⟩, B, kl, h0⟩ := H
  have lz := W0.lzh
  have l8 := W0.lzd
  have ls := W0.lzs
  have lp := W0.lzp
  have lb' := W0.lzb
  have e37 : zh w' = zh w := by unfold zh; rw [ew 37 (by decide) (by decide)]
  have e38 : zd w' = zd w := by unfold zd; rw [ew 38 (by decide) (by decide)]
  have e6 : zb w' = zb w := by unfold zb; rw [ew 6 (by decide) (by decide)]
  have ep : zp w' = zp w := by unfold zp; rw [ew 42 (by decide) (by decide)]
  have ez : zs w' = zs w := by unfold zs; rw [ew 41 (by decide) (by decide)]
  have eh : hnL w' = hnL w := hnL_cg (ew 41 (by decide) (by decide)) (fun i h1 h2 => ew i (by omega) (by omega)) ls
  have hr : ∀ i, 105 ≤ i → i < 153 → w' i = w i := fun i h1 h2 => ew i (by omega) (by omega)
  refine ⟨⟨⟨a1, a2⟩, ?_, ?_, ?_, ?_, ?_, ?_, ⟨g6.1, fun k hk => (g6.2 k hk).trans (ew _ (by omega) (by omega)).symm⟩, g7⟩, ?_, kl, h0⟩
  · unfold HouI at aI ⊢
    rw [ez, lst_cg ls hr, lst_cg ls hr, dbl_cg ls (fun i hi => ew i (by omega) (by omega)), ew 5 (by decide) (by decide), ew 0 (by decide) (by decide), ew 1 (by decide) (by decide), ew 2 (by decide) (by decide), ew 3 (by decide) (by decide), ew 4 (by decide) (by decide), ew 39 (by decide) (by decide), ew 37 (by decide) (by decide), ew 38 (by decide) (by decide), ew 6 (by decide) (by decide), ew 41 (by decide) (by decide), ew 43 (by decide) (by decide)]
    exact aI
  · rw [e37]
    exact g1.mv rfl (fun i hi e he => ⟨he, rfl⟩) (fun i hi c hc => heaV_c4 ew (by omega) hc)
  · rw [e38]
    refine g2.mv rfl (fun i hi e he => ⟨he, rfl⟩) (fun i hi c hc => ?_)
    unfold deeV
    rw [ew (81 + i) (by omega) (by omega), ew (89 + i) (by omega) (by omega), ew (97 + i) (by omega) (by omega), ew (21 + i) (by omega) (by omega), ew (29 + i) (by omega) (by omega)]
  · rw [e6]
    exact g3.mv rfl (fun i hi e he => ⟨he, rfl⟩) (fun i hi c hc => ew _ (by omega) (by omega))
  · rw [eh]
    refine g4.mv rfl (fun i hi e he => ⟨he, rfl⟩) (fun i hi c hc => ?_)
    have := hnL_mem hi
    exact ew _ (by omega) (by omega)
  · rw [ep]
    exact g5.mv rfl (fun i hi e he => ⟨he, rfl⟩) (fun i hi c hc => ew _ (by omega) (by omega))
  · unfold HLb at B ⊢
    rw [e37, e38, e6, ep, eh]
    exact B
def plcL (p : Plc) (u : Nat) : Plc := ((p.1.1, p.1.2.1, p.1.2.2.1, p.1.2.2.2.1, p.1.2.2.2.2.1, p.1.2.2.2.2.2.1, some u), p.2)
theorem h_lawt {F : Int32 → DS → DA} (hN : 20000 ≤ N) (H : HS lb h t p w dl) (b : PB p) (hI : Inv h.1) (ew : h.1 124 = w) (h16 : h.1 123 16 = nI 0) (h4 : h.1 123 4 = nI 0) (hu : h.2.1[u]? = some (100, 7, [])) (u123 : 123 ≤ u) (lu : (lb u).1 = 0) (vn : ∀ j, j < 7 → h.2.2 u j = nI (n j)) (hn : ∀ j, j < 7 → n j < 10000) (hc : csz h.2.1 + 200 < 1000000)
    (q : ∀ LN h', LawD LN (some fun j => nI (n j)) → TI LN (some fun j => nI (n j)) lb t (plcL p u) (h'.1 124) h' → h'.1 123 4 = nI 0 → (∀ i, i ≠ 40 → i < 823 → h'.1 124 i = w i) → FrT t h h' → csz h'.2.1 ≤ csz h.2.1 + 40 → ssz h'.2.1 ≤ ssz h.2.1 + 10200 → Wd (F (nI 6) h') Q) :
    Wd (bo (wR h t 12 21 (some u)) fun h_139 => bo (nO h_139 13 4) fun h_143 => bd3 (g_J4_init_da8c8 N h_139.2.1.length h_143) fun v_147 h_147 => chk (isT h_147 13 h_139.2.1.length) <| bd3 (g_J4_append_15ec4 N h_139.2.1.length 1000210 h_147) fun v_152 h_152 => chk (decide (v_152 ≠ -1)) <| bnd v_152.toNatClampNeg fun r_152 => bo (lA h_152 100 u (0 : Int32)) fun a_158 => chk (isT h_152 13 r_152) <| bd3 (g_J4_append_bf812 N r_152 a_158 h_152) fun v_159 h_159 => chk (decide (v_159 ≠ -1)) <| bnd v_159.toNatClampNeg fun r_159 => chk (isT h_159 13 r_159) <| bd3 (g_J4_append_15ec4 N r_159 1000211 h_159) fun v_164 h_164 => chk (decide (v_164 ≠ -1)) <| bnd v_164.toNatClampNeg fun r_164 => bo (lA h_164 100 u (5 : Int32)) fun a_170 => chk (isT h_164 13 r_164) <| bd3 (g_J4_append_bf812 N r_164 a_170 h_164) fun v_171 h_171 => chk (decide (v_171 ≠ -1)) <| bnd v_171.toNatClampNeg fun r_171 => chk (isT h_171 13 r_171) <| bd3 (g_J4_append_15ec4 N r_171 1000212 h_171) fun v_176 h_176 => chk (decide (v_176 ≠ -1)) <| bnd v_176.toNatClampNeg fun r_176 => bo (lA h_176 100 u (3 : Int32)) fun a_182 => chk (isT h_176 13 r_176) <| bd3 (g_J4_append_bf812 N r_176 a_182 h_176) fun v_183 h_183 => chk (decide (v_183 ≠ -1)) <| bnd v_183.toNatClampNeg fun r_183 => chk (isT h_183 13 r_183) <| bd3 (g_J4_append_15ec4 N r_183 1000213 h_183) fun v_188 h_188 => chk (decide (v_188 ≠ -1)) <| bnd v_188.toNatClampNeg fun r_188 => bo (lA h_188 100 u (4 : Int32)) fun a_194 => chk (isT h_188 13 r_188) <| bd3 (g_J4_append_bf812 N r_188 a_194 h_188) fun v_195 h_195 => chk (decide (v_195 ≠ -1)) <| bnd v_195.toNatClampNeg fun r_195 => chk (isT h_195 13 r_195) <| bd3 (g_J4_append_15ec4 N r_195 1000214 h_195) fun v_200 h_200 => chk (decide (v_200 ≠ -1)) <| bnd v_200.toNatClampNeg fun r_200 => bo (lA h_200 100 u (6 : Int32)) fun a_207 => chk (isT h_200 13 r_200) <| bd3 (g_J4_append_bf812 N r_200 a_207 h_200) fun v_208 h_208 => chk (decide (v_208 ≠ -1)) <| bnd v_208.toNatClampNeg fun r_208 => chk (isT h_208 13 r_208) <| bd3 (g_J4_append_15ec4 N r_208 1000215 h_208) fun v_213 h_213 => chk (decide (v_213 ≠ -1)) <| bnd v_213.toNatClampNeg fun r_213 => bo (lA h_213 100 u (1 : Int32)) fun a_219 => chk (isT h_213 13 r_213) <| bd3 (g_J4_append_bf812 N r_213 a_219 h_213) fun v_220 h_220 => chk (decide (v_220 ≠ -1)) <| bnd v_220.toNatClampNeg fun r_220 => chk (isT h_220 13 r_220) <| bd3 (g_J4_append_15ec4 N r_220 1000216 h_220) fun v_225 h_225 => chk (decide (v_225 ≠ -1)) <| bnd v_225.toNatClampNeg fun r_225 => bo (lA h_225 100 u (2 : Int32)) fun a_231 => chk (isT h_225 13 r_225) <| bd3 (g_J4_append_bf812 N r_225 a_231 h_225) fun v_232 h_232 => chk (decide (v_232 ≠ -1)) <| bnd v_232.toNatClampNeg fun r_232 => chk (isT h_232 13 r_232) <| bd3 (g_J4_append_15ec4 N r_232 1000217 h_232) fun v_237 h_237 => chk (decide (v_237 ≠ -1)) <| bnd v_237.toNatClampNeg fun r_237 => chk (isT h_237 13 r_237) <| bd3 (g_J4_toString_0e30d N r_237 h_237) fun v_240 h_240 => chk (decide (v_240 ≠ -1)) <| bnd v_240.toNatClampNeg fun r_240 => bd3 (g_L_say N r_240 h_240) fun v_243 h_243 => chk (isT h_243 11 0) <| bdX (f_X11_text N (0 : Int32) h_243.1) h_243 fun v_248 hh_248 => bnd (gs (f_X12_text N (0 : Int32)) hh_248) fun h_248 => F v_248 h_248) Q := by
  have W0 : WFc w := by rw [← ew]; exact hI.wf
  have lz := W0.lzh
  have kl := H.2.2.1
  have eT := H.1.ob
  have t123 := H.1.1.1
  have tl := len_of eT
  have ul := len_of hu
  have ntu : u ≠ t := ne_of_tag hu eT (by decide)
  obtain ⟨h1, n1, k1, F1, et1, m1, c1, z1⟩ := w_wR (j := 21) kl eT rfl t123 (by decide) (by decide) ul
  refine wd_bo n1 ?_
  have fu := F1.2.2 u ul ntu
  have hu1 := fu.1.trans hu
  have H1 : HS lb h1 t (plcL p u) w (some fun j => nI (n j)) := by
    obtain ⟨g1, g2, g3, g4, g5, g6, -⟩ := H.1.frt H.2.1 b kl H.2.2.2 F1.frt
    obtain ⟨b0, b1, b2, b3, b4, b5, b6, b7, b8, b9, b10, b11, b12⟩ := H.2.1
    refine ⟨⟨⟨t123, et1⟩, ?_, g1, g2, g3, g4, g5, g6, ⟨⟨_, hu1⟩, fun j hj => (congrFun fu.2 j).trans (vn j hj)⟩⟩, ⟨b0, b1, b2, b3, b4, b5, b6, b7, b8, b9, b10, b11, fun r hr => by cases hr; exact lu⟩, k1, H.2.2.2⟩
    have := H.1.int
    unfold HouI at this ⊢
    rw [m1]
    exact this
  have P1 : PB (plcL p u) := ⟨b.1, fun r hr => by cases hr; exact u123⟩
  have l1 := len_of hu1
  have rd : ∀ {B : Nat} {s : List Nat} {k m : Nat} {h' : DS} {j : Nat} {x : Int32} {f : Int32 → DA}, Bld h1 B s k m h' → j < 7 → x = nI j → Wd (f (nI (n j))) Q → Wd (bo (lA h' 100 u x) f) Q := by
    rintro B s k m h' j x f b hj rfl q
    have := b.1.2.2 u l1
    refine wd_bo (e_lA (this.1.trans hu1) (inb_nI hj (by decide))) ?_
    rw [nI_clamp (by omega), this.2, fu.2, vn j hj]
    exact q
  have dl : ∀ j, j < 7 → (dgs (n j)).length ≤ 4 := fun j hj => dgs_le (hn j hj)
  have d0 := dl 0 (by decide)
  have d1 := dl 1 (by decide)
  have d2 := dl 2 (by decide)
  have d3 := dl 3 (by decide)
  have d4 := dl 4 (by decide)
  have d5 := dl 5 (by decide)
  have d6 := dl 6 (by decide)
  have ls : (litL 10).length + (litL 11).length + (litL 12).length + (litL 13).length + (litL 14).length + (litL 15).length + (litL 16).length + (litL 17).length ≤ 260 := by decide +kernel
  have lw := law_len hn
  refine bl_new k1 (by omega) (fun v1 i1 b1 => ?_)
  refine blw_lit (i := 10) b1 rfl (by decide) (by omega) (by simp only [List.length_append, List.length_nil]; omega) (fun i2 b2 => ?_)
  refine rd (j := 0) b2 (by decide) rfl ?_
  refine blw_num hN b2 rfl (hn 0 (by decide)) (by omega) (by simp only [List.length_append, List.length_nil]; omega) (fun i3 b3 => ?_)
  refine blw_lit (i := 11) b3 rfl (by decide) (by omega) (by simp only [List.length_append, List.length_nil]; omega) (fun i4 b4 => ?_)
  refine rd (j := 5) b4 (by decide) rfl ?_
  refine blw_num hN b4 rfl (hn 5 (by decide)) (by omega) (by simp only [List.length_append, List.length_nil]; omega) (fun i5 b5 => ?_)
  refine blw_lit (i := 12) b5 rfl (by decide) (by omega) (by simp only [List.length_append, List.length_nil]; omega) (fun i6 b6 => ?_)
  refine rd (j := 3) b6 (by decide) rfl ?_
  refine blw_num hN b6 rfl (hn 3 (by decide)) (by omega) (by simp only [List.length_append, List.length_nil]; omega) (fun i7 b7 => ?_)
  refine blw_lit (i := 13) b7 rfl (by decide) (by omega) (by simp only [List.length_append, List.length_nil]; omega) (fun i8 b8 => ?_)
  refine rd (j := 4) b8 (by decide) rfl ?_
  refine blw_num hN b8 rfl (hn 4 (by decide)) (by omega) (by simp only [List.length_append, List.length_nil]; omega) (fun i9 b9 => ?_)
  refine blw_lit (i := 14) b9 rfl (by decide) (by omega) (by simp only [List.length_append, List.length_nil]; omega) (fun i10 b10 => ?_)
  refine rd (j := 6) b10 (by decide) rfl ?_
  refine blw_num hN b10 rfl (hn 6 (by decide)) (by omega) (by simp only [List.length_append, List.length_nil]; omega) (fun i11 b11 => ?_)
  refine blw_lit (i := 15) b11 rfl (by decide) (by omega) (by simp only [List.length_append, List.length_nil]; omega) (fun i12 b12 => ?_)
  refine rd (j := 1) b12 (by decide) rfl ?_
  refine blw_num hN b12 rfl (hn 1 (by decide)) (by omega) (by simp only [List.length_append, List.length_nil]; omega) (fun i13 b13 => ?_)
  refine blw_lit (i := 16) b13 rfl (by decide) (by omega) (by simp only [List.length_append, List.length_nil]; omega) (fun i14 b14 => ?_)
  refine rd (j := 2) b14 (by decide) rfl ?_
  refine blw_num hN b14 rfl (hn 2 (by decide)) (by omega) (by simp only [List.length_append, List.length_nil]; omega) (fun i15 b15 => ?_)
  refine blw_lit (i := 17) b15 rfl (by decide) (by omega) (by simp only [List.length_append, List.length_nil]; omega) (fun i16 b16 => ?_)
  rw [law_tx] at b16
  obtain ⟨f1, f2, f3, ⟨V, cap, f4, f5⟩, f6, f7⟩ := b16
  have eI : i16.1 = h.1 := f1.1.trans F1.1
  refine ph_say (k := 0) (vv := nI 6) (R := fun m5 => m5 123 16 = nI 0 ∧ m5 123 4 = nI 0 ∧ ∃ LN, lawW (m5 124) LN ∧ lawOk LN ∧ LawD LN (some fun j => nI (n j)) ∧ ∀ i, i ≠ 40 → i < 823 → m5 124 i = w i) hN f4 lw.2 f2 (by rw [eI]; exact hI) (by rw [eI]; exact h16) (by omega) (by omega) (fun m1 y1 y2 y3 y4 => ?_) (fun h11 k11 I11 F11 R11 c11 z11 => ?_)
  · rw [eI, ew] at y1
    refine wp_mono (tell_law hN hn y3 y4 (by rw [y1]; exact W0.h37) lz) ?_
    rintro v m5 ⟨rfl, r1, r2, LN, r3, r4, r5, r6⟩
    exact ⟨rfl, r1, by rw [r2, y2 4 (by decide), eI]; exact h4, LN, r3, r4, r5, fun i h1 h2 => by rw [r6 i h1 h2, y1]⟩
  · obtain ⟨q16, q4, LN, r3, r4, r5, r6⟩ := R11
    have FL : FrL h1 h11 := f1.frl.tr F11
    have H11 : HS lb h11 t (plcL p u) w (some fun j => nI (n j)) := ⟨H1.1.frl H1.2.1 P1 k1 H1.2.2.2 FL, H1.2.1, k11, H1.2.2.2⟩
    exact q LN h11 r5 ⟨H11.c40 W0 r6, P1, I11, rfl, ⟨r3, r4⟩, q16⟩ q4 r6 (F1.frt.tr FL.frt) (by omega) (by omega)
end LAWTOLD
