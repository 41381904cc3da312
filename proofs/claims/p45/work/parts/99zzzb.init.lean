/-! what the class and its ghost begin with -/
def gi_67 (m : Mem) : Ans :=
bnd (mnew m 124) fun m_8_5 =>
bnd (mnew m_8_5 125) fun m_17_9 =>
bnd (mnew m_17_9 126) fun m_26_13 =>
bnd (mnew m_26_13 127) fun m_34_17 =>
bnd (mnew m_34_17 128) fun m_42_21 =>
bnd (mnew m_42_21 129) fun m_51_25 =>
bnd (mnew m_51_25 130) fun m_59_29 =>
bnd (mnew m_59_29 131) fun m_68_33 =>
bnd (mnew m_68_33 132) fun m_77_37 =>
bnd (mnew m_77_37 133) fun m_85_41 =>
bnd (mset m_85_41 123 25 (-1)) fun m_92_45 =>
bnd (mnew m_92_45 134) fun m_98_48 =>
bnd (mnew m_98_48 135) fun m_107_52 =>
bnd (mnew m_107_52 136) fun m_115_56 =>
bnd (mnew m_115_56 137) fun m_123_60 =>
bnd (mset m_123_60 124 3 (-1)) fun m_134_66 =>
bnd (mset m_134_66 124 213 0) fun m_153_78 =>
bnd (mset m_153_78 124 214 1) fun m_153_90 =>
bnd (mset m_153_90 124 215 2) fun m_153_102 =>
bnd (mset m_153_102 124 216 3) fun m_153_114 =>
bnd (mset m_153_114 124 217 4) fun m_153_126 =>
bnd (mset m_153_126 124 218 5) fun m_153_138 =>
bnd (mset m_153_138 124 219 6) fun m_153_150 =>
bnd (mset m_153_150 124 220 7) fun m_153_162 =>
bnd (mset m_153_162 124 221 8) fun m_153_174 =>
bnd (mset m_153_174 124 222 9) fun m_153_186 =>
some (0, m_153_186)
def iniM : Ans := bd (gi_0 (mnew (fun _ _ => 0) 0)) fun _ m1 => gi_67 (mnew m1 123)
def mF : Mem := match iniM with
  | some p => p.2
  | none => fun _ _ => 0
theorem ini_0 : (gi_0 (mnew (fun _ _ => 0) 0)).isSome = true := by decide +kernel
theorem ini_1 : iniM.isSome = true := by decide +kernel
theorem ini_fx : tbs.all (fun p => decide (mF p.1 1 = nI p.2.1) && decide (mF p.1 2 = nI p.2.2)) = true := by decide +kernel
def iniP : List (Nat × Nat × Nat) := [(3, 3, 0), (5, 3, 0), (7, 3, 1), (9, 3, 0), (11, 3, 0), (13, 3, 0), (15, 3, 0), (17, 3, 0), (19, 3, 0), (21, 3, 0), (23, 3, 10), (48, 1, 0), (48, 2, 0), (123, 4, 0), (0, 2, 0), (123, 5, 0), (99, 2, 0), (123, 16, 0), (103, 3, 0), (123, 23, 0), (113, 4, 0),
  (124, 37, 0), (124, 38, 0), (124, 6, 0), (124, 41, 0), (124, 42, 0), (124, 43, 0), (124, 44, 0), (124, 7, 0), (124, 8, 0), (124, 0, 0), (124, 4, 0), (124, 40, 0)]
theorem ini_p : iniP.all (fun p => decide (mF p.1 p.2.1 = nI p.2.2)) = true := by decide +kernel
theorem ini_h : ∀ c, c < 7 → mF 8 c = mF 124 (houI c) := by decide +kernel
theorem ini_m : ∀ v, v < 10 → mF 24 v = nI v ∧ mF 124 (213 + v) = nI v := by decide +kernel
theorem ini_b : ∀ h, h < 12 → mF 124 (185 + h) = nI 0 := by decide +kernel
theorem ini_f : mF 103 4 = mF 123 25 := by decide +kernel
theorem ini_k : ∀ i, i < 600 → mF 10 i = mF 124 (223 + i) := by decide +kernel
theorem pts_at {M : Mem} {L : List (Nat × Nat × Nat)} {a j v : Nat} (h : L.all (fun p => decide (M p.1 p.2.1 = nI p.2.2)) = true) (hm : (a, j, v) ∈ L) : M a j = nI v := by
  have := List.all_eq_true.mp h (a, j, v) hm
  dsimp only at this
  exact of_decide_eq_true this
theorem pts_fx {M : Mem} (h : tbs.all (fun p => decide (M p.1 1 = nI p.2.1) && decide (M p.1 2 = nI p.2.2)) = true) : Fx M := fun p hp => by
  have := List.all_eq_true.mp h p hp
  simp only [Bool.and_eq_true, decide_eq_true_eq] at this
  exact this
theorem ini_at {a j v : Nat} (h : (a, j, v) ∈ iniP) : mF a j = nI v := pts_at ini_p h
theorem ini_all : ∃ M, M = mF ∧ Fx M ∧ (∀ a j v, (a, j, v) ∈ iniP → M a j = nI v) ∧ (∀ c, c < 7 → M 8 c = M 124 (houI c)) ∧ (∀ v, v < 10 → M 24 v = nI v ∧ M 124 (213 + v) = nI v) ∧ (∀ h, h < 12 → M 124 (185 + h) = nI 0) ∧ M 103 4 = M 123 25 ∧ ∀ i, i < 600 → M 10 i = M 124 (223 + i) :=
  ⟨mF, rfl, pts_fx ini_fx, fun _ _ _ h => ini_at h, ini_h, ini_m, ini_b, ini_f, ini_k⟩
theorem ini_inv : Inv mF := by
  obtain ⟨M, hM, hF, ha, ini_h, ini_m, ini_b, ini_f, ini_k⟩ := ini_all
  rw [← hM]
  clear hM
  have ini_at : ∀ {a j v : Nat}, (a, j, v) ∈ iniP → M a j = nI v := fun h => ha _ _ _ h
  have z0 : ∀ {a j : Nat}, (a, j, 0) ∈ iniP → nv (M a j) = 0 := fun h => by rw [ini_at h]; rfl
  have zh0 : zh (M 124) = 0 := z0 (a := 124) (j := 37) (by decide)
  have zd0 : zd (M 124) = 0 := z0 (a := 124) (j := 38) (by decide)
  have zs0 : zs (M 124) = 0 := z0 (a := 124) (j := 41) (by decide)
  have zp0 : zp (M 124) = 0 := z0 (a := 124) (j := 42) (by decide)
  have zq0 : zq (M 124) = 0 := z0 (a := 124) (j := 44) (by decide)
  have i0 : ∀ {a j : Nat} (b : Nat), (a, j, 0) ∈ iniP → isn (M a j) b := fun b h => by rw [ini_at h]; exact isn.nI (Nat.zero_le _)
  have H : HRep 2 [] (M 124) M := by
    refine ⟨hF, fun j hj => ?_, ⟨ini_at (v := 0) (by decide), 0, by decide, ini_at (by decide), fun i l hl => by simp at hl⟩, ⟨by simp, fun l hl => by cases hl⟩⟩
    have hj' : j = 1 ∨ j = 3 ∨ j = 5 ∨ j = 7 ∨ j = 13 ∨ j = 15 ∨ j = 17 ∨ j = 19 ∨ j = 21 := by simpa [cmps] using hj
    rcases hj' with rfl | rfl | rfl | rfl | rfl | rfl | rfl | rfl | rfl
    · exact ⟨(ini_at (a := 3) (j := 3) (v := 0) (by decide)).trans (ini_at (by decide)).symm, fun h hh => by rw [zh0] at hh; omega⟩
    · exact ⟨(ini_at (a := 5) (j := 3) (v := 0) (by decide)).trans (ini_at (by decide)).symm, fun h hh => by rw [zd0] at hh; omega⟩
    · exact ⟨ini_at (by decide), ini_h⟩
    · refine ⟨(ini_at (a := 9) (j := 3) (v := 0) (by decide)).trans (ini_at (by decide)).symm, fun i hi c hc => ?_⟩
      rw [show (223 + 4 * i + c) = 223 + (i * 4 + c) by omega]
      exact ini_k (i * 4 + c) (by omega)
    · exact ⟨(ini_at (a := 15) (j := 3) (v := 0) (by decide)).trans (ini_at (by decide)).symm, fun h hh => by rw [zs0] at hh; omega⟩
    · exact ⟨(ini_at (a := 17) (j := 3) (v := 0) (by decide)).trans (ini_at (by decide)).symm, fun h hh => by rw [zp0] at hh; omega⟩
    · exact (ini_at (a := 19) (j := 3) (v := 0) (by decide)).trans (ini_at (by decide)).symm
    · exact ⟨(ini_at (a := 21) (j := 3) (v := 0) (by decide)).trans (ini_at (by decide)).symm, fun h hh => by rw [zq0] at hh; omega⟩
    · exact ⟨ini_at (by decide), fun v hv => (ini_m v hv).1.trans (ini_m v hv).2.symm⟩
  have W0 : WFc (M 124) := by
    refine ⟨i0 _ (by decide), i0 _ (by decide), i0 _ (by decide), i0 _ (by decide), i0 _ (by decide), i0 _ (by decide), i0 _ (by decide), i0 _ (by decide), i0 _ (by decide), fun h hh => ?_, fun h hh _ => ini_b h hh, fun d hd => ?_, fun i hi => ?_, fun i hi => ?_, fun v hv => ?_, fun i hi => ?_⟩
    · rw [zh0] at hh; omega
    · rw [zd0] at hd; omega
    · rw [zs0] at hi; omega
    · rw [zp0] at hi; omega
    · rw [(ini_m v hv).2]
      exact isn.nI (by omega)
    · rw [zq0] at hi; omega
  refine ⟨[], H, ⟨W0, ⟨0, 0, ini_at (by decide), ini_at (by decide), Nat.le_refl _, Nat.zero_le _⟩, ini_at (v := 0) (by decide), by simp, fun i l hl => by simp at hl⟩, PastR.zero (p := 0) (by decide) (ini_at (by decide)) (ini_at (by decide)) (ini_at (by decide)), Or.inl ⟨ini_at (by decide), ini_at (by decide)⟩,
    ⟨0, by decide, ini_at (by decide), ini_at (by decide), fun i hi => absurd hi (by omega)⟩, ⟨(ini_at (a := 103) (j := 3) (v := 0) (by decide)).trans (ini_at (by decide)).symm, ini_f⟩, ini_at (by decide)⟩
theorem ini_w : (∀ i, i < 45 → i ≠ 3 → mF 124 i = nI 0) ∧ mF 124 3 = mo1 := by
  constructor
  · decide +kernel
  · decide +kernel
theorem gi67_lo {m m' : Mem} {v : Int32} (e : gi_67 m = some (v, m')) {k : Nat} (hk : k < 123) : m' k = m k := by
  unfold gi_67 at e
  simp only [bnd_s, Option.some.injEq, Prod.mk.injEq] at e
  obtain ⟨-, rfl⟩ := e
  repeat first
    | rw [mset_ne (by omega)]
    | rw [mnew_ne (by omega)]
theorem ini_st : ∃ (v : Int32) (m1 M : Mem), gi_0 (mnew (fun _ _ => 0) 0) = some (v, m1) ∧ (∀ k, k < 123 → m1 k = M k) ∧ Inv M ∧ W00 (M 124) ∧ M 124 40 = nI 0 ∧ M 123 16 = nI 0 ∧ M 123 4 = nI 0 := by
  have h0 := ini_0
  have h1 := ini_1
  obtain ⟨⟨v1, m1⟩, e1⟩ := Option.isSome_iff_exists.mp h0
  obtain ⟨⟨v3, m3⟩, e3⟩ := Option.isSome_iff_exists.mp h1
  have eF : mF = m3 := by
    unfold mF
    rw [e3]
  have hI := ini_inv
  have hw := ini_w
  have a40 := ini_at (a := 124) (j := 40) (v := 0) (by decide)
  have a16 := ini_at (a := 123) (j := 16) (v := 0) (by decide)
  have a4 := ini_at (a := 123) (j := 4) (v := 0) (by decide)
  have hb := ini_b
  rw [eF] at hI hw a40 a16 a4
  have hb' : ∀ h, h < 12 → m3 124 (185 + h) = nI 0 := fun h hh => by rw [← eF]; exact hb h hh
  unfold iniM at e3
  rw [e1, bd_s] at e3
  refine ⟨v1, m1, m3, e1, fun k hk => ?_, hI, ⟨hw.1, hw.2, fun i h1 h2 => ?_⟩, a40, a16, a4⟩
  · rw [gi67_lo e3 hk, mnew_ne (by omega)]
  · have := hb' (i - 185) (by omega)
    rw [show 185 + (i - 185) = i by omega] at this
    exact this
