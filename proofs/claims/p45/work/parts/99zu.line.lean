/-! a line of a text built -/
section LINEH
variable {h h' h1 h2 h0 hb : DS} {N S V V0 A B P n c k j i L m z cap cap0 : Nat} {s s0 s1 : List Nat} {Q : Int32 → DS → Prop} {x : Int32} {E : Nat → Prop}
theorem StM.stB (H : StM h S V s) (l1 : S < 1000000) (l2 : V < 1000000) : StA h S s := by
  obtain ⟨e1, e2, ⟨rs, e3⟩, e4⟩ := H
  refine ⟨?_, ?_, V, ?_, ?_, fun j hj => ?_⟩
  · unfold strB
    rw [if_pos (by omega)]
    exact e_isT e1
  · unfold bC
    rw [if_pos (by omega), e_dI e1 (by decide) (by decide), e2]
  · unfold bV
    rw [if_pos (by omega)]
    exact e_nn (e_dR e1 (by decide) (by decide))
  · unfold bN
    rw [if_pos (by omega)]
    exact e_aN e3
  · unfold bF
    rw [if_pos (by omega)]
    exact e4 j hj
theorem StM.sts (H : StM h S V s) (kl : lk h) (hS : S ≠ B) (hV : V ≠ B) : StS h B S s := by
  have l1 := len_of H.1
  have l2 : V < h.2.1.length := by
    obtain ⟨rs, e⟩ := H.2.2.1
    exact len_of e
  have l3 : h.2.1.length < 1000000 := kl.2.2.2
  exact fun h' F => (H.fre F hS hV).stB (by omega) (by omega)
theorem FrA.fre2 (F : FrA hb h) (G : FrE E h h') (hE : ∀ c, c < hb.2.1.length → ¬ E c) : FrA hb h' := ⟨G.1.trans F.1, Nat.le_trans F.2.1 G.2.1, fun c hc => ⟨(G.2.2 c (Nat.lt_of_lt_of_le hc F.2.1) (hE c hc)).1.trans (F.2.2 c hc).1, (G.2.2 c (Nat.lt_of_lt_of_le hc F.2.1) (hE c hc)).2.trans (F.2.2 c hc).2⟩⟩
theorem SbV.lb (H : SbV h B V cap s) (kl : lk h) : B < 1000000 ∧ B < h.2.1.length ∧ V < h.2.1.length := by
  have l1 := len_of H.2.1
  have l3 : h.2.1.length < 1000000 := kl.2.2.2
  obtain ⟨rs, e⟩ := H.2.2.2.2.1
  exact ⟨by omega, l1, len_of e⟩
theorem jb_app (H : SbV h B V cap s) (kl : lk h) (HS : StS h B S s1) (A1 : Asc s1) (hn : csz h.2.1 + 1 < 1000000) (hlen : s.length + s1.length ≤ 900) :
    Wd (g_J4_append_15ec4 N B S h) (fun v h' => v = nI B ∧ ∃ V' cap', SbV h' B V' cap' (s ++ s1) ∧ (V' = V ∨ h.2.1.length ≤ V') ∧ FrE (fun c => c = B ∨ c = V) h h' ∧ lk h' ∧ csz h'.2.1 ≤ csz h.2.1 + 1 ∧ ssz h'.2.1 ≤ ssz h.2.1 + 2 * (s.length + s1.length)) := by
  have lB := (H.lb kl).1
  unfold g_J4_append_15ec4
  refine wd_chk (e_isT H.2.1) (wd_bd3 (sb_app H kl HS A1 hn hlen) ?_)
  intro vx hx hvx
  rw [hvx.1]
  refine wd_chk (decide_eq_true (nI_ne_m1 (by omega))) ?_
  refine wd_chk (decide_eq_true (by omega)) (wd_ret ⟨rfl, hvx.2⟩)
theorem jb_num (hN : 20000 ≤ N) (H : SbV h B V cap s) (kl : lk h) (hz : z < 10000) (hn : csz h.2.1 + 1 < 1000000) (hlen : s.length + 4 ≤ 900) :
    Wd (g_J4_append_bf812 N B (nI z) h) (fun v h' => v = nI B ∧ ∃ V' cap', SbV h' B V' cap' (s ++ dgs z) ∧ (V' = V ∨ h.2.1.length ≤ V') ∧ FrE (fun c => c = B ∨ c = V) h h' ∧ lk h' ∧ csz h'.2.1 ≤ csz h.2.1 + 1 ∧ ssz h'.2.1 ≤ ssz h.2.1 + 2 * (s.length + (dgs z).length)) := by
  have lB := (H.lb kl).1
  unfold g_J4_append_bf812
  refine wd_chk (e_isT H.2.1) (wd_bd3 (sb_num hN H kl hz hn hlen) ?_)
  intro vx hx hvx
  rw [hvx.1]
  refine wd_chk (decide_eq_true (nI_ne_m1 (by omega))) ?_
  refine wd_chk (decide_eq_true (by omega)) (wd_ret ⟨rfl, hvx.2⟩)
/-- a StringBuilder made since hb reads s -/
def Bld (hb : DS) (B : Nat) (s : List Nat) (k m : Nat) (h : DS) : Prop := FrA hb h ∧ lk h ∧ hb.2.1.length ≤ B ∧ (∃ V cap, SbV h B V cap s ∧ hb.2.1.length ≤ V) ∧ csz h.2.1 ≤ csz hb.2.1 + k ∧ ssz h.2.1 ≤ ssz hb.2.1 + m
theorem bl_new {F : Int32 → DS → DA} (kl : lk h) (hn : csz h.2.1 + 2 < 1000000) (q : ∀ v h', Bld h h.2.1.length [] 2 20 h' → Wd (F v h') Q) : Wd (bo (nO h 13 4) fun h0 => bd3 (g_J4_init_da8c8 N h.2.1.length h0) F) Q := by
  obtain ⟨h0, h', e1, e2, e3, e4, e5, e6, e7⟩ := sb_new (N := N) kl hn
  rw [e1, e_bo, e2, e_bd3]
  exact q _ _ ⟨e4, e5, Nat.le_refl _, ⟨_, 16, e3, Nat.le_succ _⟩, by omega, by omega⟩
theorem bl_lit {F : Nat → DS → DA} {S : Nat} (b : Bld hb B s k m h) (e : S = 1000200 + i) (hi : i < lwN) (hn : csz hb.2.1 + k + 1 < 1000000) (hlen : s.length + (litL i).length ≤ 40) (q : ∀ h', Bld hb B (s ++ litL i) (k + 1) (m + 80) h' → Wd (F B h') Q) :
    Wd (chk (isT h 13 B) <| bd3 (g_J4_append_15ec4 N B S h) fun v h1 => chk (decide (v ≠ -1)) <| bnd v.toNatClampNeg fun r => F r h1) Q := by
  subst e
  obtain ⟨b1, b2, b3, ⟨V, cap, b4, b5⟩, b6, b7⟩ := b
  have lB := (b4.lb b2).1
  refine wd_chk (e_isT b4.2.1) (wd_bd3 (jb_app b4 b2 (sts_lit hi) (lit_at hi).2.2 (by omega) (by omega)) ?_)
  rintro v h2 ⟨rfl, V', cap', g1, g2, g3, g4, g5, g6⟩
  refine wd_chk (decide_eq_true (nI_ne_m1 (by omega))) ?_
  rw [nI_clamp (by omega)]
  refine q h2 ⟨b1.fre2 g3 (fun c hc => by omega), g4, b3, ⟨V', cap', g1, ?_⟩, by omega, by omega⟩
  have := b1.2.1
  omega
theorem bl_num {F : Nat → DS → DA} (hN : 20000 ≤ N) (b : Bld hb B s k m h) (e : x = nI z) (hz : z < 10000) (hn : csz hb.2.1 + k + 1 < 1000000) (hlen : s.length + 4 ≤ 40) (q : ∀ h', Bld hb B (s ++ dgs z) (k + 1) (m + 80) h' → Wd (F B h') Q) :
    Wd (chk (isT h 13 B) <| bd3 (g_J4_append_bf812 N B x h) fun v h1 => chk (decide (v ≠ -1)) <| bnd v.toNatClampNeg fun r => F r h1) Q := by
  subst e
  obtain ⟨b1, b2, b3, ⟨V, cap, b4, b5⟩, b6, b7⟩ := b
  have lB := (b4.lb b2).1
  have d4 : (dgs z).length ≤ 4 := by
    rw [dgs_len]
    split
    · decide
    · split
      · decide
      · split <;> decide
  refine wd_chk (e_isT b4.2.1) (wd_bd3 (jb_num hN b4 b2 hz (by omega) (by omega)) ?_)
  rintro v h2 ⟨rfl, V', cap', g1, g2, g3, g4, g5, g6⟩
  refine wd_chk (decide_eq_true (nI_ne_m1 (by omega))) ?_
  rw [nI_clamp (by omega)]
  refine q h2 ⟨b1.fre2 g3 (fun c hc => by omega), g4, b3, ⟨V', cap', g1, ?_⟩, by omega, by omega⟩
  have := b1.2.1
  omega
theorem bl_str {F : Nat → DS → DA} (b : Bld hb B s k m h) (A : Asc s) (hn : csz hb.2.1 + k + 2 < 1000000) (q : ∀ S V h', FrA hb h' → lk h' → StM h' S V s → hb.2.1.length ≤ S → hb.2.1.length ≤ V → csz h'.2.1 ≤ csz hb.2.1 + (k + 2) → ssz h'.2.1 ≤ ssz hb.2.1 + (m + 4 + s.length) → Wd (F S h') Q) :
    Wd (chk (isT h 13 B) <| bd3 (g_J4_toString_0e30d N B h) fun v h1 => chk (decide (v ≠ -1)) <| bnd v.toNatClampNeg fun r => F r h1) Q := by
  obtain ⟨b1, b2, b3, ⟨V, cap, b4, b5⟩, b6, b7⟩ := b
  have hlen : h.2.1.length < 1000000 := b2.2.2.2
  have le := b1.2.1
  refine wd_chk (e_isT b4.2.1) (wd_bd3 (sb_str b4 A b2 (by omega)) ?_)
  rintro v h2 ⟨rfl, ⟨W, g1, g2⟩, g3, g4, g5, g6⟩
  refine wd_chk (decide_eq_true (nI_ne_m1 (by omega))) ?_
  rw [nI_clamp (by omega)]
  exact q _ W h2 (b1.tr g3) g4 g2 le (by omega) (by omega) (by omega)
theorem bl_out {F : Nat → DS → DA} (H : SbV hb P V0 cap0 s0) (F1 : FrA hb h) (kl : lk h) (HS : StM h S V s) (hS : hb.2.1.length ≤ S) (hV : hb.2.1.length ≤ V) (A : Asc s) (hn : csz h.2.1 + 1 < 1000000) (hlen : s0.length + s.length ≤ 900)
    (q : ∀ h' V' cap', SbV h' P V' cap' (s0 ++ s) → (V' = V0 ∨ hb.2.1.length ≤ V') → FrE (fun c => c = P ∨ c = V0) hb h' → lk h' → csz h'.2.1 ≤ csz h.2.1 + 1 → ssz h'.2.1 ≤ ssz h.2.1 + 2 * (s0.length + s.length) → Wd (F P h') Q) :
    Wd (chk (isT h 13 P) <| bd3 (g_J4_append_15ec4 N P S h) fun v h1 => chk (decide (v ≠ -1)) <| bnd v.toNatClampNeg fun r => F r h1) Q := by
  have l1 := len_of H.2.1
  have l2 : V0 < hb.2.1.length := by
    obtain ⟨rs, e⟩ := H.2.2.2.2.1
    exact len_of e
  have le := F1.2.1
  have hl : h.2.1.length < 1000000 := kl.2.2.2
  have H1 : SbV h P V0 cap0 s0 := H.fre (E := fun _ => False) ⟨F1.1, F1.2.1, fun c hc _ => F1.2.2 c hc⟩ id id
  refine wd_chk (e_isT H1.2.1) (wd_bd3 (jb_app H1 kl (HS.sts kl (by omega) (by omega)) A hn hlen) ?_)
  rintro v h2 ⟨rfl, V', cap', g1, g2, g3, g4, g5, g6⟩
  refine wd_chk (decide_eq_true (nI_ne_m1 (by omega))) ?_
  rw [nI_clamp (by omega)]
  refine q h2 V' cap' g1 (by omega) ?_ g4 g5 g6
  exact ⟨g3.1.trans F1.1, Nat.le_trans le g3.2.1, fun c hc he => ⟨(g3.2.2 c (by omega) he).1.trans (F1.2.2 c hc).1, (g3.2.2 c (by omega) he).2.trans (F1.2.2 c hc).2⟩⟩
end LINEH
