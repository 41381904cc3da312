/-! the lines of THE LAW that is told -/
section LAWL
variable {K : Nat → Nat} {V : Nat → Int32} {j j1 j2 w : Nat} {C : Cod} {R : List Rw4} {hH hD v a b c d e f g : Int32} {A D : List Spt} {T : List (Nat × Int32)} {l : Lin}
theorem u_num (h : K j = 1) (hv : V j = v) : UP K V j (0, v) := fun W C sd md fn => by
  rw [sp_num h, hv]
  rfl
theorem u_nam (h : K j = w) (h1 : 263 ≤ w) (h2 : w ≤ 272) : UP K V j (w - 262, nI 0) := fun W C sd md fn => by
  rw [sp_nam ⟨by omega, by omega⟩, h]
  unfold trS
  rw [if_neg (show ¬ w - 262 = 0 by omega), if_pos (show w - 262 ≤ 10 by omega)]
  show _ = (3, j + 1, W, C ++ [(nI 1, nI (w - 262 - 1))], sd, md, fn, 0)
  rw [show w - 262 - 1 = w - 263 by omega]
/-- the tokens T are a line of THE LAW that means l -/
def LwLn (T : List (Nat × Int32)) (l : Lin) : Prop := ∀ (K : Nat → Nat) (V : Nat → Int32) (hH hD : Int32) (j : Nat) (C : Cod) (R : List Rw4), tkAt K V j T → j + T.length ≤ 400 → R.length ≠ 16 →
  tpS K V hH hD 0 (0, j, C, R) = (0, j + T.length, C ++ flt l.2.1 ++ flt l.2.2, R ++ [(256 + l.1, nI C.length, nI (C ++ flt l.2.1).length, nI (C ++ flt l.2.1 ++ flt l.2.2).length)])
theorem lw_1 (hw : K j = 256 + w) (hw3 : w < 3) (h : MP K V 5 (j + 1) j1 A) (hj : j + 1 < j1) (hj2 : j1 ≤ 400) (hk : K j1 = 59) (hR : R.length ≠ 16) :
    tpS K V hH hD 0 (0, j, C, R) = (0, j1 + 1, C ++ flt A ++ flt [], R ++ [(256 + w, nI C.length, nI (C ++ flt A).length, nI (C ++ flt A ++ flt []).length)]) := by
  rw [tpS_law (by omega) (by rw [hw]; exact decide_eq_true (by omega)) hR, lnM_ok1 h hj hj2 hk, hw]
  have e : C ++ flt A ++ flt [] = C ++ flt A := List.append_nil _
  rw [e]
theorem lw_2 (hw : K j = 256 + w) (hw3 : w < 3) (h : MP K V 5 (j + 1) j1 A) (hj : j + 1 < j1) (hk : K j1 = 259) (h2 : TP K V 1 1 0 (j1 + 1) j2 D) (hj2 : j1 + 1 < j2) (hj3 : j2 ≤ 400) (hk2 : K j2 = 59) (hR : R.length ≠ 16) :
    tpS K V hH hD 0 (0, j, C, R) = (0, j2 + 1, C ++ flt A ++ flt D, R ++ [(256 + w, nI C.length, nI (C ++ flt A).length, nI (C ++ flt A ++ flt D).length)]) := by
  obtain ⟨sd, e⟩ := lnM_ok2 (C := C) h hj hk h2 hj2 hj3 hk2
  rw [tpS_law (by omega) (by rw [hw]; exact decide_eq_true (by omega)) hR, e, hw]
theorem MP.sub (h : MP K V 5 j j1 A) (hj : j < j1) (hk : K j1 = 45) (hj2 : j1 + 1 < j2) (h2 : MP K V 6 (j1 + 1) j2 D) : MP K V 5 j j2 (A ++ (D ++ [(24, nI 0)])) := h.plus (o := 5) hj (by rw [hk]; rfl) (Or.inr rfl) rfl (by decide) hj2 h2
theorem MP.add (h : MP K V 5 j j1 A) (hj : j < j1) (hk : K j1 = 43) (hj2 : j1 + 1 < j2) (h2 : MP K V 6 (j1 + 1) j2 D) : MP K V 5 j j2 (A ++ (D ++ [(23, nI 0)])) := h.plus (o := 4) hj (by rw [hk]; rfl) (Or.inl rfl) rfl (by decide) hj2 h2
theorem TP.gt {dd : Nat} (hk : K j ≠ 40 ∧ K j ≠ 262) (h : MP K V 5 j j1 A) (hj : j < j1) (ho : K j1 = 62) (hj2 : j1 + 1 < j2) (h2 : MP K V 5 (j1 + 1) j2 D) (h3 : ¬ (2 ≤ opO (K j2) ∧ opO (K j2) ≤ 5)) : TP K V 4 3 dd j j2 (A ++ (D ++ [(29, nI 0)])) := TP.cmp hk h hj (o := 8) (by rw [ho]; rfl) (Or.inr (Or.inr rfl)) rfl (by decide) hj2 h2 h3
def lwA (a : Int32) : Lin := (0, [(6, nI 0)] ++ ([(0, a)] ++ [(25, nI 0)]) ++ ([(8, nI 0)] ++ [(24, nI 0)]) ++ ([(10, nI 0)] ++ [(24, nI 0)]), [])
theorem lw_A : LwLn [(256, nI 0), (268, nI 0), (42, nI 0), (1, a), (45, nI 0), (270, nI 0), (45, nI 0), (272, nI 0), (59, nI 0)] (lwA a) := by
  intro K V hH hD j C R h hl hR
  have k0 : K j = 256 + 0 := (h 0 (by decide : 0 < 9)).1
  have k1 : K (j + 1) = 268 := (h 1 (by decide : 1 < 9)).1
  have k2 : K (j + 2) = 42 := (h 2 (by decide : 2 < 9)).1
  have k3 : K (j + 3) = 1 ∧ V (j + 3) = a := h 3 (by decide : 3 < 9)
  have k4 : K (j + 4) = 45 := (h 4 (by decide : 4 < 9)).1
  have k5 : K (j + 5) = 270 := (h 5 (by decide : 5 < 9)).1
  have k6 : K (j + 6) = 45 := (h 6 (by decide : 6 < 9)).1
  have k7 : K (j + 7) = 272 := (h 7 (by decide : 7 < 9)).1
  have k8 : K (j + 8) = 59 := (h 8 (by decide : 8 < 9)).1
  have hl : j + 9 ≤ 400 := hl
  have m1 : MP K V 6 (j + 1) (j + 4) ([(6, nI 0)] ++ ([(0, a)] ++ [(25, nI 0)])) := (u_nam k1 (by decide) (by decide)).mp.times (by omega) k2 (u_num k3.1 k3.2)
  have m2 : MP K V 5 (j + 1) (j + 6) _ := m1.down.sub (by omega) k4 (by omega) (u_nam k5 (by decide) (by decide)).mp
  have m3 : MP K V 5 (j + 1) (j + 8) _ := m2.sub (by omega) k6 (by omega) (u_nam k7 (by decide) (by decide)).mp
  have r := lw_1 (hH := hH) (hD := hD) (C := C) (w := 0) (j1 := j + 8) k0 (by decide) m3 (by omega) (by omega) k8 hR
  exact r
def lwD (a : Int32) : Lin := (1, [(3, nI 0)] ++ ([(0, nI 60)] ++ [(25, nI 0)]) ++ (([(10, nI 0)] ++ ([(0, nI 20)] ++ [(25, nI 0)])) ++ [(24, nI 0)]) ++ ([(2, nI 0)] ++ [(23, nI 0)]), [])
theorem lw_D : LwLn [(257, nI 0), (265, nI 0), (42, nI 0), (1, nI 60), (45, nI 0), (272, nI 0), (42, nI 0), (1, nI 20), (43, nI 0), (264, nI 0), (59, nI 0)] (lwD a) := by
  intro K V hH hD j C R h hl hR
  have k0 : K j = 256 + 1 := (h 0 (by decide : 0 < 11)).1
  have k1 : K (j + 1) = 265 := (h 1 (by decide : 1 < 11)).1
  have k2 : K (j + 2) = 42 := (h 2 (by decide : 2 < 11)).1
  have k3 : K (j + 3) = 1 ∧ V (j + 3) = nI 60 := h 3 (by decide : 3 < 11)
  have k4 : K (j + 4) = 45 := (h 4 (by decide : 4 < 11)).1
  have k5 : K (j + 5) = 272 := (h 5 (by decide : 5 < 11)).1
  have k6 : K (j + 6) = 42 := (h 6 (by decide : 6 < 11)).1
  have k7 : K (j + 7) = 1 ∧ V (j + 7) = nI 20 := h 7 (by decide : 7 < 11)
  have k8 : K (j + 8) = 43 := (h 8 (by decide : 8 < 11)).1
  have k9 : K (j + 9) = 264 := (h 9 (by decide : 9 < 11)).1
  have k10 : K (j + 10) = 59 := (h 10 (by decide : 10 < 11)).1
  have hl : j + 11 ≤ 400 := hl
  have m1 : MP K V 6 (j + 1) (j + 4) _ := (u_nam k1 (by decide) (by decide)).mp.times (by omega) k2 (u_num k3.1 k3.2)
  have m2 : MP K V 6 (j + 5) (j + 8) _ := (u_nam k5 (by decide) (by decide)).mp.times (by omega) k6 (u_num k7.1 k7.2)
  have m3 : MP K V 5 (j + 1) (j + 8) _ := m1.down.sub (by omega) k4 (by omega) m2
  have m4 : MP K V 5 (j + 1) (j + 10) _ := m3.add (by omega) k8 (by omega) (u_nam k9 (by decide) (by decide)).mp
  have r := lw_1 (hH := hH) (hD := hD) (C := C) (w := 1) (j1 := j + 10) k0 (by decide) m4 (by omega) (by omega) k10 hR
  exact r
def lwF (a : Int32) : Lin := (2, [(0, a)] ++ ([(6, nI 0)] ++ [(23, nI 0)]), [])
theorem lw_F : LwLn [(258, nI 0), (1, a), (43, nI 0), (268, nI 0), (59, nI 0)] (lwF a) := by
  intro K V hH hD j C R h hl hR
  have k0 : K j = 256 + 2 := (h 0 (by decide : 0 < 5)).1
  have k1 : K (j + 1) = 1 ∧ V (j + 1) = a := h 1 (by decide : 1 < 5)
  have k2 : K (j + 2) = 43 := (h 2 (by decide : 2 < 5)).1
  have k3 : K (j + 3) = 268 := (h 3 (by decide : 3 < 5)).1
  have k4 : K (j + 4) = 59 := (h 4 (by decide : 4 < 5)).1
  have hl : j + 5 ≤ 400 := hl
  have m1 : MP K V 5 (j + 1) (j + 4) _ := (u_num k1.1 k1.2).mp.down.add (by omega) k2 (by omega) (u_nam k3 (by decide) (by decide)).mp
  have r := lw_1 (hH := hH) (hD := hD) (C := C) (w := 2) (j1 := j + 4) k0 (by decide) m1 (by omega) (by omega) k4 hR
  exact r
def lwE (a : Int32) : Lin := (2, [(7, nI 0)] ++ [(26, nI 4)] ++ ([(0, nI 1)] ++ [(23, nI 0)]), [(8, nI 0)] ++ ([(0, a)] ++ [(29, nI 0)]))
theorem lw_E : LwLn [(258, nI 0), (269, nI 0), (47, nI 0), (1, nI 4), (43, nI 0), (1, nI 1), (259, nI 0), (270, nI 0), (62, nI 0), (1, a), (59, nI 0)] (lwE a) := by
  intro K V hH hD j C R h hl hR
  have k0 : K j = 256 + 2 := (h 0 (by decide : 0 < 11)).1
  have k1 : K (j + 1) = 269 := (h 1 (by decide : 1 < 11)).1
  have k2 : K (j + 2) = 47 := (h 2 (by decide : 2 < 11)).1
  have k3 : K (j + 3) = 1 ∧ V (j + 3) = nI 4 := h 3 (by decide : 3 < 11)
  have k4 : K (j + 4) = 43 := (h 4 (by decide : 4 < 11)).1
  have k5 : K (j + 5) = 1 ∧ V (j + 5) = nI 1 := h 5 (by decide : 5 < 11)
  have k6 : K (j + 6) = 259 := (h 6 (by decide : 6 < 11)).1
  have k7 : K (j + 7) = 270 := (h 7 (by decide : 7 < 11)).1
  have k8 : K (j + 8) = 62 := (h 8 (by decide : 8 < 11)).1
  have k9 : K (j + 9) = 1 ∧ V (j + 9) = a := h 9 (by decide : 9 < 11)
  have k10 : K (j + 10) = 59 := (h 10 (by decide : 10 < 11)).1
  have hl : j + 11 ≤ 400 := hl
  have m1 : MP K V 6 (j + 1) (j + 4) _ := (u_nam k1 (by decide) (by decide)).mp.by_ (by omega) k2 k3.1 (by rw [k3.2]; decide)
  rw [k3.2] at m1
  have m2 : MP K V 5 (j + 1) (j + 6) _ := m1.down.add (by omega) k4 (by omega) (u_num k5.1 k5.2).mp
  have t1 : TP K V 4 3 0 (j + 7) (j + 10) _ := TP.gt (by rw [k7]; decide) (u_nam k7 (by decide) (by decide)).mp.down (by omega) k8 (by omega) (u_num k9.1 k9.2).mp.down (by rw [k10]; decide)
  have r := lw_2 (hH := hH) (hD := hD) (C := C) (w := 2) (j1 := j + 6) (j2 := j + 10) k0 (by decide) m2 (by omega) k6 t1.down.down1 (by omega) (by omega) k10 hR
  exact r
def lwB (d e f : Int32) : Lin := (1, [(0, f)] ++ (([(9, nI 0)] ++ ([(0, nI 150)] ++ [(25, nI 0)])) ++ [(23, nI 0)]) ++ (([(7, nI 0)] ++ ([(0, nI 5)] ++ [(25, nI 0)])) ++ [(24, nI 0)]), [(3, nI 0)] ++ ([(0, d)] ++ [(29, nI 0)]) ++ ((([(4, nI 0)] ++ ([(0, e)] ++ [(29, nI 0)])) ++ (([(8, nI 0)] ++ ([(0, nI 3)] ++ [(29, nI 0)])) ++ [(32, nI 0)]) ++ [(30, nI 0)]) ++ [(31, nI 0)]))
theorem lw_B : LwLn [(257, nI 0), (1, f), (43, nI 0), (271, nI 0), (42, nI 0), (1, nI 150), (45, nI 0), (269, nI 0), (42, nI 0), (1, nI 5), (259, nI 0), (265, nI 0), (62, nI 0), (1, d), (261, nI 0), (262, nI 0), (40, nI 0), (266, nI 0), (62, nI 0), (1, e), (260, nI 0), (270, nI 0), (62, nI 0), (1, nI 3), (41, nI 0), (59, nI 0)] (lwB d e f) := by
  intro K V hH hD j C R h hl hR
  have k0 : K j = 256 + 1 := (h 0 (by decide : 0 < 26)).1
  have k1 : K (j + 1) = 1 ∧ V (j + 1) = f := h 1 (by decide : 1 < 26)
  have k2 : K (j + 2) = 43 := (h 2 (by decide : 2 < 26)).1
  have k3 : K (j + 3) = 271 := (h 3 (by decide : 3 < 26)).1
  have k4 : K (j + 4) = 42 := (h 4 (by decide : 4 < 26)).1
  have k5 : K (j + 5) = 1 ∧ V (j + 5) = nI 150 := h 5 (by decide : 5 < 26)
  have k6 : K (j + 6) = 45 := (h 6 (by decide : 6 < 26)).1
  have k7 : K (j + 7) = 269 := (h 7 (by decide : 7 < 26)).1
  have k8 : K (j + 8) = 42 := (h 8 (by decide : 8 < 26)).1
  have k9 : K (j + 9) = 1 ∧ V (j + 9) = nI 5 := h 9 (by decide : 9 < 26)
  have k10 : K (j + 10) = 259 := (h 10 (by decide : 10 < 26)).1
  have k11 : K (j + 11) = 265 := (h 11 (by decide : 11 < 26)).1
  have k12 : K (j + 12) = 62 := (h 12 (by decide : 12 < 26)).1
  have k13 : K (j + 13) = 1 ∧ V (j + 13) = d := h 13 (by decide : 13 < 26)
  have k14 : K (j + 14) = 261 := (h 14 (by decide : 14 < 26)).1
  have k15 : K (j + 15) = 262 := (h 15 (by decide : 15 < 26)).1
  have k16 : K (j + 16) = 40 := (h 16 (by decide : 16 < 26)).1
  have k17 : K (j + 17) = 266 := (h 17 (by decide : 17 < 26)).1
  have k18 : K (j + 18) = 62 := (h 18 (by decide : 18 < 26)).1
  have k19 : K (j + 19) = 1 ∧ V (j + 19) = e := h 19 (by decide : 19 < 26)
  have k20 : K (j + 20) = 260 := (h 20 (by decide : 20 < 26)).1
  have k21 : K (j + 21) = 270 := (h 21 (by decide : 21 < 26)).1
  have k22 : K (j + 22) = 62 := (h 22 (by decide : 22 < 26)).1
  have k23 : K (j + 23) = 1 ∧ V (j + 23) = nI 3 := h 23 (by decide : 23 < 26)
  have k24 : K (j + 24) = 41 := (h 24 (by decide : 24 < 26)).1
  have k25 : K (j + 25) = 59 := (h 25 (by decide : 25 < 26)).1
  have hl : j + 26 ≤ 400 := hl
  have m1 : MP K V 6 (j + 3) (j + 6) _ := (u_nam k3 (by decide) (by decide)).mp.times (by omega) k4 (u_num k5.1 k5.2)
  have m2 : MP K V 6 (j + 7) (j + 10) _ := (u_nam k7 (by decide) (by decide)).mp.times (by omega) k8 (u_num k9.1 k9.2)
  have m3 : MP K V 5 (j + 1) (j + 6) _ := (u_num k1.1 k1.2).mp.down.add (by omega) k2 (by omega) m1
  have m4 : MP K V 5 (j + 1) (j + 10) _ := m3.sub (by omega) k6 (by omega) m2
  have t1 : TP K V 4 3 0 (j + 11) (j + 14) _ := TP.gt (by rw [k11]; decide) (u_nam k11 (by decide) (by decide)).mp.down (by omega) k12 (by omega) (u_num k13.1 k13.2).mp.down (by rw [k14]; decide)
  have t2 : TP K V 4 3 2 (j + 17) (j + 20) _ := TP.gt (by rw [k17]; decide) (u_nam k17 (by decide) (by decide)).mp.down (by omega) k18 (by omega) (u_num k19.1 k19.2).mp.down (by rw [k20]; decide)
  have t3 : TP K V 4 3 2 (j + 21) (j + 24) _ := TP.gt (by rw [k21]; decide) (u_nam k21 (by decide) (by decide)).mp.down (by omega) k22 (by omega) (u_num k23.1 k23.2).mp.down (by rw [k24]; decide)
  have t4 : TP K V 1 1 2 (j + 17) (j + 24) _ := t2.down.down1.and_ (o := 11) (k := 32) (w2 := 2) (l2 := 2) (by omega) (by rw [k20]; rfl) (Or.inr ⟨rfl, rfl, rfl, rfl, rfl⟩) (by omega) t3.down
  have t5 : TP K V 4 3 1 (j + 16) (j + 25) _ := TP.paren k16 (by decide) (by omega) t4 k24
  have t6 : TP K V 4 3 0 (j + 15) (j + 25) _ := TP.not_ k15 (by decide) (by omega) t5
  have t7 : TP K V 2 2 0 (j + 11) (j + 25) _ := t1.down.and_ (o := 10) (k := 31) (w2 := 4) (l2 := 3) (by omega) (by rw [k14]; rfl) (Or.inl ⟨rfl, rfl, rfl, rfl, rfl⟩) (by omega) t6
  have r := lw_2 (hH := hH) (hD := hD) (C := C) (w := 1) (j1 := j + 10) (j2 := j + 25) k0 (by decide) m4 (by omega) k10 t7.down1 (by omega) (by omega) k25 hR
  exact r
def lwC (g : Int32) : Lin := (1, [(0, g)] ++ (([(5, nI 0)] ++ ([(0, nI 4)] ++ [(25, nI 0)])) ++ [(23, nI 0)]) ++ ([(1, nI 0)] ++ [(24, nI 0)]), ([(9, nI 0)] ++ ([(0, nI 1)] ++ [(29, nI 0)])) ++ (([(5, nI 0)] ++ ([(0, nI 20)] ++ [(29, nI 0)])) ++ [(32, nI 0)]))
theorem lw_C : LwLn [(257, nI 0), (1, g), (43, nI 0), (267, nI 0), (42, nI 0), (1, nI 4), (45, nI 0), (263, nI 0), (259, nI 0), (271, nI 0), (62, nI 0), (1, nI 1), (260, nI 0), (267, nI 0), (62, nI 0), (1, nI 20), (59, nI 0)] (lwC g) := by
  intro K V hH hD j C R h hl hR
  have k0 : K j = 256 + 1 := (h 0 (by decide : 0 < 17)).1
  have k1 : K (j + 1) = 1 ∧ V (j + 1) = g := h 1 (by decide : 1 < 17)
  have k2 : K (j + 2) = 43 := (h 2 (by decide : 2 < 17)).1
  have k3 : K (j + 3) = 267 := (h 3 (by decide : 3 < 17)).1
  have k4 : K (j + 4) = 42 := (h 4 (by decide : 4 < 17)).1
  have k5 : K (j + 5) = 1 ∧ V (j + 5) = nI 4 := h 5 (by decide : 5 < 17)
  have k6 : K (j + 6) = 45 := (h 6 (by decide : 6 < 17)).1
  have k7 : K (j + 7) = 263 := (h 7 (by decide : 7 < 17)).1
  have k8 : K (j + 8) = 259 := (h 8 (by decide : 8 < 17)).1
  have k9 : K (j + 9) = 271 := (h 9 (by decide : 9 < 17)).1
  have k10 : K (j + 10) = 62 := (h 10 (by decide : 10 < 17)).1
  have k11 : K (j + 11) = 1 ∧ V (j + 11) = nI 1 := h 11 (by decide : 11 < 17)
  have k12 : K (j + 12) = 260 := (h 12 (by decide : 12 < 17)).1
  have k13 : K (j + 13) = 267 := (h 13 (by decide : 13 < 17)).1
  have k14 : K (j + 14) = 62 := (h 14 (by decide : 14 < 17)).1
  have k15 : K (j + 15) = 1 ∧ V (j + 15) = nI 20 := h 15 (by decide : 15 < 17)
  have k16 : K (j + 16) = 59 := (h 16 (by decide : 16 < 17)).1
  have hl : j + 17 ≤ 400 := hl
  have m1 : MP K V 6 (j + 3) (j + 6) _ := (u_nam k3 (by decide) (by decide)).mp.times (by omega) k4 (u_num k5.1 k5.2)
  have m3 : MP K V 5 (j + 1) (j + 6) _ := (u_num k1.1 k1.2).mp.down.add (by omega) k2 (by omega) m1
  have m4 : MP K V 5 (j + 1) (j + 8) _ := m3.sub (by omega) k6 (by omega) (u_nam k7 (by decide) (by decide)).mp
  have t2 : TP K V 4 3 0 (j + 9) (j + 12) _ := TP.gt (by rw [k9]; decide) (u_nam k9 (by decide) (by decide)).mp.down (by omega) k10 (by omega) (u_num k11.1 k11.2).mp.down (by rw [k12]; decide)
  have t3 : TP K V 4 3 0 (j + 13) (j + 16) _ := TP.gt (by rw [k13]; decide) (u_nam k13 (by decide) (by decide)).mp.down (by omega) k14 (by omega) (u_num k15.1 k15.2).mp.down (by rw [k16]; decide)
  have t4 : TP K V 1 1 0 (j + 9) (j + 16) _ := t2.down.down1.and_ (o := 11) (k := 32) (w2 := 2) (l2 := 2) (by omega) (by rw [k12]; rfl) (Or.inr ⟨rfl, rfl, rfl, rfl, rfl⟩) (by omega) t3.down
  have r := lw_2 (hH := hH) (hD := hD) (C := C) (w := 1) (j1 := j + 8) (j2 := j + 16) k0 (by decide) m4 (by omega) k8 t4 (by omega) (by omega) k16 hR
  exact r
end LAWL
