/-! the grammar of THE LAW on the class's machine, in numbers alone -/
/-- it is blamed at the token j' -/
def Bad (K : Nat → Nat) (V : Nat → Int32) (b : Nat) (s : Mst) (j' e : Nat) : Prop := ∃ t : Mst, Rc K V b s t ∧ t.1 = 5 ∧ t.2.1 = j' ∧ t.2.2.2.2.2.2.2 = e
/-- a product (6), a sum (5) from token j to j1 lays L -/
def MP (K : Nat → Nat) (V : Nat → Int32) (l j j1 : Nat) (L : List Spt) : Prop := ∀ W C sd md fn, wk l W → ∃ W' C', Rc K V (2 * (j1 - j) - 1) (1, j, W, C, sd, md, fn, 0) (3, j1, W', C', sd, md, fn, 0) ∧ Pd l W' C' W (C ++ flt L)
def MB (K : Nat → Nat) (V : Nat → Int32) (l j j' e : Nat) : Prop := ∀ W C sd md fn, wk l W → Bad K V (2 * (j' - j) + 1) (1, j, W, C, sd, md, fn, 0) j' e
/-- a test (4, 3), what holds by and (2, 2), by or (1, 1), d of them open -/
def TP (K : Nat → Nat) (V : Nat → Int32) (w l d j j1 : Nat) (L : List Spt) : Prop := ∀ W C sd md fn, wk w W → opn W = d → ∃ W' C' sd', Rc K V (2 * (j1 - j) - 1) (0, j, W, C, sd, md, fn, 0) (4, j1, W', C', sd', md, fn, 0) ∧ Pd l W' C' W (C ++ flt L)
def TBa (K : Nat → Nat) (V : Nat → Int32) (w d j j' e : Nat) : Prop := ∀ W C sd md fn, wk w W → opn W = d → Bad K V (2 * (j' - j) + 2) (0, j, W, C, sd, md, fn, 0) j' e
/-- a unit at j lays p -/
def UP (K : Nat → Nat) (V : Nat → Int32) (j : Nat) (p : Spt) : Prop := ∀ W C sd md fn, stp K V (1, j, W, C, sd, md, fn, 0) = (3, j + 1, W, C ++ trS p, sd, md, fn, 0)
section GRAM
variable {K : Nat → Nat} {V : Nat → Int32} {j j1 j2 j' e l w d : Nat} {L L1 L2 : List Spt} {p : Spt} {s t : Mst} {a b : Nat}
theorem Bad.pre (h : Rc K V a s t) (h2 : Bad K V b t j' e) {c : Nat} (hc : a + b ≤ c) : Bad K V c s j' e := by
  obtain ⟨u, h3, h4, h5, h6⟩ := h2
  exact ⟨u, (h.trans h3).mono hc, h4, h5, h6⟩
theorem Bad.one (h : stp K V s = t) (h1 : t.1 = 5) (h2 : t.2.1 = j') (h3 : t.2.2.2.2.2.2.2 = e) : Bad K V 1 s j' e := ⟨t, Rc.one h, h1, h2, h3⟩
theorem flt_app : flt (L1 ++ L2) = flt L1 ++ flt L2 := by
  unfold flt
  exact List.flatMap_append
theorem flt_one : flt [p] = trS p := by
  unfold flt
  simp
theorem flt_op {k o : Nat} (hk : 10 < k) (hk2 : k ≠ 26) (ho : opK k = o) : flt [(k, nI 0)] = [(nI o, nI 0)] := by
  rw [flt_one]
  unfold trS
  rw [if_neg (by simp; omega), if_neg (by simp; omega), if_neg hk2, ho]
theorem flt_part {v : Int32} : flt [(26, v)] = [(nI 0, v), (nI 3, nI 0)] := by
  rw [flt_one]
  rfl
theorem tcS_app : ∀ {L1 L2 : List Spt} {s t : List Bool}, tcS L1 s = some t → tcS (L1 ++ L2) s = tcS L2 t
  | [], L2, s, t, h => by
    cases h
    rfl
  | p :: L1, L2, s, t, h => by
    unfold tcS at h
    show (match tc1 p.1 p.2 s with | some s' => tcS (L1 ++ L2) s' | none => none) = _
    cases q : tc1 p.1 p.2 s with
    | none => rw [q] at h; cases h
    | some u =>
      rw [q] at h
      exact tcS_app h
theorem tc_one {k : Nat} {v : Int32} {s t : List Bool} (h : tc1 k v s = some t) : tcS [(k, v)] s = some t := by
  show (match tc1 k v s with | some s' => tcS [] s' | none => none) = some t
  rw [h]
  rfl
theorem tc_val {k : Nat} {v : Int32} {s : List Bool} (hk : k ≤ 10) (hs : s.length ≤ 21) : tcS [(k, v)] s = some (false :: s) := by
  refine tc_one ?_
  cases s with
  | nil => exact if_pos hk
  | cons x r =>
    simp only [List.length_cons] at hs
    simp only [tc1]
    rw [if_pos hk, if_pos (by omega)]
theorem tc_ari {k : Nat} {v : Int32} {s : List Bool} (hk : k = 23 ∨ k = 24 ∨ k = 25) : tcS [(k, v)] (false :: false :: s) = some (false :: s) := by
  refine tc_one ?_
  simp only [tc1]
  rw [if_neg (by omega), if_neg (by omega), if_neg (by omega), if_pos ⟨hk, trivial, trivial⟩]
theorem tc_part {v : Int32} {s : List Bool} (hv : v ≠ nI 0) (hs : s.length ≤ 20) : tcS [(26, v)] (false :: s) = some (false :: s) := by
  refine tc_one ?_
  simp only [tc1]
  rw [if_neg (by omega), if_pos trivial, if_pos ⟨trivial, hv, by omega⟩]
theorem tc_cmp {k : Nat} {v : Int32} {s : List Bool} (hk : k = 27 ∨ k = 28 ∨ k = 29) : tcS [(k, v)] (false :: false :: s) = some (true :: s) := by
  refine tc_one ?_
  simp only [tc1]
  rw [if_neg (by omega), if_neg (by omega), if_neg (by omega), if_neg (fun z => by omega), if_pos ⟨hk, trivial, trivial⟩]
theorem tc_not {v : Int32} {s : List Bool} : tcS [(30, v)] (true :: s) = some (true :: s) := tc_one rfl
theorem tc_bool {k : Nat} {v : Int32} {s : List Bool} (hk : k = 31 ∨ k = 32) : tcS [(k, v)] (true :: true :: s) = some (true :: s) := by
  refine tc_one ?_
  simp only [tc1]
  rw [if_neg (by omega), if_neg (by omega), if_neg (by omega), if_neg (fun z => by omega), if_neg (fun z => by omega), if_pos ⟨hk, trivial, trivial⟩]
theorem UP.mp (h : UP K V j p) : MP K V 6 j (j + 1) [p] := by
  intro W C sd md fn hW
  refine ⟨W, C ++ trS p, (Rc.one (h W C sd md fn)).mono (by omega), ?_⟩
  rw [flt_one]
  exact Pd.rf
theorem MP.down (h : MP K V 6 j j1 L) : MP K V 5 j j1 L := by
  intro W C sd md fn hW
  obtain ⟨W', C', h1, h2⟩ := h W C sd md fn (hW.mono (by decide))
  exact ⟨W', C', h1, h2.mono (by decide)⟩
theorem MB.down (h : MB K V 6 j j' e) : MB K V 5 j j' e := fun W C sd md fn hW => h W C sd md fn (hW.mono (by decide))
theorem MP.times (h : MP K V 6 j j1 L) (hj : j < j1) (hk : K j1 = 42) (hu : UP K V (j1 + 1) p) : MP K V 6 j (j1 + 2) (L ++ ([p] ++ [(25, nI 0)])) := by
  intro W C sd md fn hW
  obtain ⟨W', C', h1, h2⟩ := h W C sd md fn hW
  have hd := drp_pd h2 (Nat.le_refl _) hW
  have e1 : stp K V (3, j1, W', C', sd, md, fn, 0) = (1, j1 + 1, 2 :: W, C ++ flt L, sd, md, fn, 0) := by
    rw [sp_st3, hk]
    show ((1 : Nat), j1 + 1, 2 :: (drp 6 W' C').1, (drp 6 W' C').2, sd, md, fn, 0) = _
    rw [hd]
  refine ⟨2 :: W, C ++ flt L ++ trS p, ((h1.trans (Rc.one e1)).trans (Rc.one (hu _ _ _ _ _))).mono (by omega), ?_⟩
  rw [flt_app, flt_app, flt_one, flt_op (by decide) (by decide) (show opK 25 = 2 from rfl), ← List.append_assoc, ← List.append_assoc]
  exact Pd.op Pd.rf (by decide)
theorem MB.times (h : MP K V 6 j j1 L) (hj : j < j1) (hk : K j1 = 42) (hu : K (j1 + 1) ≠ 1 ∧ ¬ (263 ≤ K (j1 + 1) ∧ K (j1 + 1) ≤ 272)) : MB K V 6 j (j1 + 1) 1 := by
  intro W C sd md fn hW
  obtain ⟨W', C', h1, h2⟩ := h W C sd md fn hW
  have hd := drp_pd h2 (Nat.le_refl _) hW
  have e1 : stp K V (3, j1, W', C', sd, md, fn, 0) = (1, j1 + 1, 2 :: W, C ++ flt L, sd, md, fn, 0) := by
    rw [sp_st3, hk]
    show ((1 : Nat), j1 + 1, 2 :: (drp 6 W' C').1, (drp 6 W' C').2, sd, md, fn, 0) = _
    rw [hd]
  exact Bad.pre (h1.trans (Rc.one e1)) (Bad.one (sp_nou hu.1 hu.2) rfl rfl rfl) (by omega)
theorem MP.by_ (h : MP K V 6 j j1 L) (hj : j < j1) (hk : K j1 = 47) (hu : K (j1 + 1) = 1) (hv : V (j1 + 1) ≠ nI 0) : MP K V 6 j (j1 + 2) (L ++ [(26, V (j1 + 1))]) := by
  intro W C sd md fn hW
  obtain ⟨W', C', h1, h2⟩ := h W C sd md fn hW
  have hd := drp_pd h2 (Nat.le_refl _) hW
  have e1 : stp K V (3, j1, W', C', sd, md, fn, 0) = (2, j1 + 1, 3 :: W, C ++ flt L, sd, md, fn, 0) := by
    rw [sp_st3, hk]
    show ((2 : Nat), j1 + 1, 3 :: (drp 6 W' C').1, (drp 6 W' C').2, sd, md, fn, 0) = _
    rw [hd]
  refine ⟨3 :: W, C ++ flt L ++ [(nI 0, V (j1 + 1))], ((h1.trans (Rc.one e1)).trans (Rc.one (sp_div hu hv))).mono (by omega), ?_⟩
  rw [flt_app, flt_part, show C ++ (flt L ++ [(nI 0, V (j1 + 1)), (nI 3, nI 0)]) = (C ++ flt L ++ [(nI 0, V (j1 + 1))]) ++ [(nI 3, nI 0)] by simp]
  exact Pd.op Pd.rf (by decide)
theorem MB.by_ (h : MP K V 6 j j1 L) (hj : j < j1) (hk : K j1 = 47) (hu : (K (j1 + 1) ≠ 1 ∧ e = 1) ∨ (K (j1 + 1) = 1 ∧ V (j1 + 1) = nI 0 ∧ e = 2)) : MB K V 6 j (j1 + 1) e := by
  intro W C sd md fn hW
  obtain ⟨W', C', h1, h2⟩ := h W C sd md fn hW
  have hd := drp_pd h2 (Nat.le_refl _) hW
  have e1 : stp K V (3, j1, W', C', sd, md, fn, 0) = (2, j1 + 1, 3 :: W, C ++ flt L, sd, md, fn, 0) := by
    rw [sp_st3, hk]
    show ((2 : Nat), j1 + 1, 3 :: (drp 6 W' C').1, (drp 6 W' C').2, sd, md, fn, 0) = _
    rw [hd]
  rcases hu with ⟨q1, rfl⟩ | ⟨q1, q2, rfl⟩
  · exact Bad.pre (h1.trans (Rc.one e1)) (Bad.one (sp_nod q1) rfl rfl rfl) (by omega)
  · exact Bad.pre (h1.trans (Rc.one e1)) (Bad.one (sp_div0 q1 q2) rfl rfl rfl) (by omega)
theorem MP.plus1 (h : MP K V 5 j j1 L) {o : Nat} (hk : opO (K j1) = o) (ho : o = 4 ∨ o = 5) {W : List Nat} {C : Cod} {sd md fn : Nat} (hW : wk 5 W) :
    ∃ W' C', Rc K V (2 * (j1 - j) - 1) (1, j, W, C, sd, md, fn, 0) (3, j1, W', C', sd, md, fn, 0) ∧ stp K V (3, j1, W', C', sd, md, fn, 0) = (1, j1 + 1, o :: W, C ++ flt L, sd, md, fn, 0) := by
  obtain ⟨W', C', h1, h2⟩ := h W C sd md fn hW
  have hd := drp_pd h2 (Nat.le_refl _) hW
  refine ⟨W', C', h1, ?_⟩
  have hs : stg o = 5 := by rcases ho with rfl | rfl <;> rfl
  rw [sp_st3]
  unfold stp3
  rw [hk, if_pos (by omega), if_neg (by omega), hs, hd]
theorem MP.plus (h : MP K V 5 j j1 L) (hj : j < j1) {o k : Nat} (hk : opO (K j1) = o) (ho : o = 4 ∨ o = 5) (hko : opK k = o) (hk2 : 10 < k ∧ k ≠ 26) (hj2 : j1 + 1 < j2) (h2 : MP K V 6 (j1 + 1) j2 L2) : MP K V 5 j j2 (L ++ (L2 ++ [(k, nI 0)])) := by
  intro W C sd md fn hW
  obtain ⟨W', C', h1, e1⟩ := h.plus1 hk ho hW (C := C) (sd := sd) (md := md) (fn := fn)
  have hs : stg o = 5 ∧ o ≠ 12 := by rcases ho with rfl | rfl <;> decide
  obtain ⟨W2, C2, h3, h4⟩ := h2 (o :: W) (C ++ flt L) sd md fn (Or.inr (by omega))
  refine ⟨W2, C2, ((h1.trans (Rc.one e1)).trans h3).mono (by omega), ?_⟩
  rw [flt_app, flt_app, flt_op hk2.1 hk2.2 hko, ← List.append_assoc, ← List.append_assoc]
  exact (h4.mono (by decide)).op ⟨hs.2, by omega⟩
theorem MB.plus (h : MP K V 5 j j1 L) (hj : j < j1) {o : Nat} (hk : opO (K j1) = o) (ho : o = 4 ∨ o = 5) (hj2 : j1 + 1 ≤ j') (h2 : MB K V 6 (j1 + 1) j' e) : MB K V 5 j j' e := by
  intro W C sd md fn hW
  obtain ⟨W', C', h1, e1⟩ := h.plus1 hk ho hW (C := C) (sd := sd) (md := md) (fn := fn)
  have hs : stg o = 5 ∧ o ≠ 12 := by rcases ho with rfl | rfl <;> decide
  exact Bad.pre (h1.trans (Rc.one e1)) (h2 (o :: W) (C ++ flt L) sd md fn (Or.inr (by omega))) (by omega)
/-! tests -/
theorem TP.down (h : TP K V 4 3 d j j1 L) : TP K V 2 2 d j j1 L := by
  intro W C sd md fn hW ho
  obtain ⟨W', C', sd', h1, h2⟩ := h W C sd md fn (hW.mono (by decide)) ho
  exact ⟨W', C', sd', h1, h2.mono (by decide)⟩
theorem TP.down1 (h : TP K V 2 2 d j j1 L) : TP K V 1 1 d j j1 L := by
  intro W C sd md fn hW ho
  obtain ⟨W', C', sd', h1, h2⟩ := h W C sd md fn (hW.mono (by decide)) ho
  exact ⟨W', C', sd', h1, h2.mono (by decide)⟩
theorem TBa.down {w2 : Nat} (h : TBa K V w d j j' e) (hw : w2 ≤ w) : TBa K V w2 d j j' e := fun W C sd md fn hW ho => h W C sd md fn (hW.mono hw) ho
theorem TP.and1 {o : Nat} (h : TP K V l l d j j1 L) (hk : opO (K j1) = o) (ho : (o = 10 ∧ l = 2) ∨ (o = 11 ∧ l = 1)) {W : List Nat} {C : Cod} {sd md fn : Nat} (hW : wk l W) (hd : opn W = d) :
    ∃ W' C' sd', Rc K V (2 * (j1 - j) - 1) (0, j, W, C, sd, md, fn, 0) (4, j1, W', C', sd', md, fn, 0) ∧ stp K V (4, j1, W', C', sd', md, fn, 0) = (0, j1 + 1, o :: W, C ++ flt L, sd', md, fn, 0) := by
  obtain ⟨W', C', sd', h1, h2⟩ := h W C sd md fn hW hd
  have hd := drp_pd h2 (Nat.le_refl _) hW
  refine ⟨W', C', sd', h1, ?_⟩
  have hs : stg o = l := by rcases ho with ⟨rfl, rfl⟩ | ⟨rfl, rfl⟩ <;> rfl
  rw [sp_st4]
  unfold stp4
  rw [hk, if_pos (by omega), hs, hd]
theorem TP.and_ {o k w2 l2 : Nat} (h : TP K V l l d j j1 L) (hj : j < j1) (hk : opO (K j1) = o) (ho : (o = 10 ∧ l = 2 ∧ k = 31 ∧ w2 = 4 ∧ l2 = 3) ∨ (o = 11 ∧ l = 1 ∧ k = 32 ∧ w2 = 2 ∧ l2 = 2)) (hj2 : j1 + 1 < j2) (h2 : TP K V w2 l2 d (j1 + 1) j2 L2) : TP K V l l d j j2 (L ++ (L2 ++ [(k, nI 0)])) := by
  intro W C sd md fn hW hd
  obtain ⟨W', C', sd', h1, e1⟩ := h.and1 hk (by omega) hW hd (C := C) (sd := sd) (md := md) (fn := fn)
  have hs : stg o = l ∧ o ≠ 12 ∧ o ≠ 9 ∧ l < w2 ∧ l ≤ l2 ∧ opK k = o ∧ 10 < k ∧ k ≠ 26 := by rcases ho with ⟨rfl, rfl, rfl, rfl, rfl⟩ | ⟨rfl, rfl, rfl, rfl, rfl⟩ <;> decide
  obtain ⟨s1, s2, s3, s4, s5, s6, s7, s8⟩ := hs
  have hop : opn (o :: W) = d := by
    show (if o = 9 ∨ o = 12 then 1 else 0) + opn W = d
    rw [if_neg (by omega), hd, Nat.zero_add]
  obtain ⟨W2, C2, sd2, h3, h4⟩ := h2 (o :: W) (C ++ flt L) sd' md fn (Or.inr (by omega)) hop
  refine ⟨W2, C2, sd2, ((h1.trans (Rc.one e1)).trans h3).mono (by omega), ?_⟩
  rw [flt_app, flt_app, flt_op s7 s8 s6, ← List.append_assoc, ← List.append_assoc]
  exact (h4.mono s5).op ⟨s2, by omega⟩
theorem TBa.and_ {o w2 : Nat} (h : TP K V l l d j j1 L) (hj : j < j1) (hk : opO (K j1) = o) (ho : (o = 10 ∧ l = 2 ∧ w2 = 4) ∨ (o = 11 ∧ l = 1 ∧ w2 = 2)) (hj2 : j1 + 1 ≤ j') (h2 : TBa K V w2 d (j1 + 1) j' e) : TBa K V l d j j' e := by
  intro W C sd md fn hW hd
  obtain ⟨W', C', sd', h1, e1⟩ := h.and1 hk (by omega) hW hd (C := C) (sd := sd) (md := md) (fn := fn)
  have hs : stg o = l ∧ o ≠ 12 ∧ o ≠ 9 ∧ l < w2 := by rcases ho with ⟨rfl, rfl, rfl⟩ | ⟨rfl, rfl, rfl⟩ <;> decide
  obtain ⟨s1, s2, s3, s4⟩ := hs
  have hop : opn (o :: W) = d := by
    show (if o = 9 ∨ o = 12 then 1 else 0) + opn W = d
    rw [if_neg (by omega), hd, Nat.zero_add]
  exact Bad.pre (h1.trans (Rc.one e1)) (h2 (o :: W) (C ++ flt L) sd' md fn (Or.inr (by omega)) hop) (by omega)
theorem TP.opens {o : Nat} {W : List Nat} {C : Cod} {sd md fn : Nat} (hk : (K j = 262 ∧ o = 9) ∨ (K j = 40 ∧ o = 12)) (hd : opn W = d) (h8 : d < 8) : stp K V (0, j, W, C, sd, md, fn, 0) = (0, j + 1, o :: W, C, sd, md, fn, 0) ∧ opn (o :: W) = d + 1 := by
  constructor
  · rw [sp_st0]
    unfold stp0
    rcases hk with ⟨q, rfl⟩ | ⟨q, rfl⟩
    · rw [q, if_neg (by decide), if_pos rfl, if_neg (by omega)]
    · rw [q, if_pos rfl, if_neg (by omega)]
  · show (if o = 9 ∨ o = 12 then 1 else 0) + opn W = d + 1
    rw [if_pos (by omega), hd, Nat.add_comm]
theorem TBa.open3 (hk : K j = 262 ∨ K j = 40) (h8 : 8 ≤ d) : TBa K V w d j j 3 := by
  intro W C sd md fn hW hd
  have e1 : stp K V (0, j, W, C, sd, md, fn, 0) = (5, j, W, C, sd, md, fn, 3) := by
    rw [sp_st0]
    unfold stp0
    rcases hk with q | q
    · rw [q, if_neg (by decide), if_pos rfl, if_pos (by omega)]
    · rw [q, if_pos rfl, if_pos (by omega)]
  obtain ⟨t, h1, h2⟩ := Bad.one (K := K) (V := V) (e := 3) (j' := j) e1 rfl rfl rfl
  exact ⟨t, h1.mono (by omega), h2⟩
theorem TP.not_ (hk : K j = 262) (h8 : d < 8) (hj : j + 1 < j2) (h : TP K V 4 3 (d + 1) (j + 1) j2 L) : TP K V 4 3 d j j2 (L ++ [(30, nI 0)]) := by
  intro W C sd md fn hW hd
  obtain ⟨e1, e2⟩ := TP.opens (K := K) (V := V) (C := C) (sd := sd) (md := md) (fn := fn) (Or.inl ⟨hk, rfl⟩) hd h8
  obtain ⟨W2, C2, sd2, h3, h4⟩ := h (9 :: W) C sd md fn (Or.inr (by decide)) e2
  refine ⟨W2, C2, sd2, ((Rc.one e1).trans h3).mono (by omega), ?_⟩
  rw [flt_app, flt_op (by decide) (by decide) (show opK 30 = 9 from rfl), ← List.append_assoc]
  exact h4.op (by decide)
theorem TBa.not_ (hk : K j = 262) (h8 : d < 8) (hj : j + 1 ≤ j') (h : TBa K V 4 (d + 1) (j + 1) j' e) : TBa K V 4 d j j' e := by
  intro W C sd md fn hW hd
  obtain ⟨e1, e2⟩ := TP.opens (K := K) (V := V) (C := C) (sd := sd) (md := md) (fn := fn) (Or.inl ⟨hk, rfl⟩) hd h8
  exact Bad.pre (Rc.one e1) (h (9 :: W) C sd md fn (Or.inr (by decide)) e2) (by omega)
theorem TP.paren (hk : K j = 40) (h8 : d < 8) (hj : j + 1 < j2) (h : TP K V 1 1 (d + 1) (j + 1) j2 L) (hk2 : K j2 = 41) : TP K V 4 3 d j (j2 + 1) L := by
  intro W C sd md fn hW hd
  obtain ⟨e1, e2⟩ := TP.opens (K := K) (V := V) (C := C) (sd := sd) (md := md) (fn := fn) (Or.inr ⟨hk, rfl⟩) hd h8
  obtain ⟨W2, C2, sd2, h3, h4⟩ := h (12 :: W) C sd md fn (Or.inl rfl) e2
  have hb := brk_pd h4
  have e3 : stp K V (4, j2, W2, C2, sd2, md, fn, 0) = (4, j2 + 1, W, C ++ flt L, sd2, md, fn, 0) := by
    rw [sp_st4]
    unfold stp4
    have hb2 : brk (12 :: W) = 1 + brk W := rfl
    rw [hk2, if_neg (by decide), if_pos ⟨rfl, by omega⟩, drp_pd h4 (l2 := 0) (by decide) (Or.inl rfl)]
    rfl
  exact ⟨W, C ++ flt L, sd2, (((Rc.one e1).trans h3).trans (Rc.one e3)).mono (by omega), Pd.rf⟩
theorem TBa.paren (hk : K j = 40) (h8 : d < 8) (hj : j + 1 ≤ j') (h : TBa K V 1 (d + 1) (j + 1) j' e) : TBa K V 4 d j j' e := by
  intro W C sd md fn hW hd
  obtain ⟨e1, e2⟩ := TP.opens (K := K) (V := V) (C := C) (sd := sd) (md := md) (fn := fn) (Or.inr ⟨hk, rfl⟩) hd h8
  exact Bad.pre (Rc.one e1) (h (12 :: W) C sd md fn (Or.inl rfl) e2) (by omega)
theorem TBa.paren1 (hk : K j = 40) (h8 : d < 8) (hj : j + 1 < j2) (h : TP K V 1 1 (d + 1) (j + 1) j2 L) (hk2 : K j2 ≠ 41) (h10 : opO (K j2) ≠ 10 ∧ opO (K j2) ≠ 11) : TBa K V 4 d j j2 1 := by
  intro W C sd md fn hW hd
  obtain ⟨e1, e2⟩ := TP.opens (K := K) (V := V) (C := C) (sd := sd) (md := md) (fn := fn) (Or.inr ⟨hk, rfl⟩) hd h8
  obtain ⟨W2, C2, sd2, h3, h4⟩ := h (12 :: W) C sd md fn (Or.inl rfl) e2
  have hb := brk_pd h4
  have hb2 : brk (12 :: W) = 1 + brk W := rfl
  have e3 : stp K V (4, j2, W2, C2, sd2, md, fn, 0) = (5, j2, W2, C2, sd2, md, fn, 1) := by
    rw [sp_st4]
    unfold stp4
    rw [if_neg (fun z => z.elim h10.1 h10.2), if_neg (fun z => hk2 z.1), if_neg (fun z => by omega)]
  exact Bad.pre ((Rc.one e1).trans h3) (Bad.one e3 rfl rfl rfl) (by omega)
theorem cmp0 {W : List Nat} {C : Cod} {sd md fn : Nat} (hk : K j ≠ 40 ∧ K j ≠ 262) : stp K V (0, j, W, C, sd, md, fn, 0) = (1, j, W, C, 1, md, fn, 0) := by
  rw [sp_st0]
  unfold stp0
  rw [if_neg hk.1, if_neg hk.2]
theorem TP.cmp1 (hk : K j ≠ 40 ∧ K j ≠ 262) (h : MP K V 5 j j1 L1) (hj : j < j1) {o : Nat} (ho : opO (K j1) = o) (ho2 : o = 6 ∨ o = 7 ∨ o = 8) {W : List Nat} {C : Cod} {sd md fn : Nat} (hW : wk 4 W) :
    Rc K V (2 * (j1 - j) + 1) (0, j, W, C, sd, md, fn, 0) (1, j1 + 1, o :: W, C ++ flt L1, 2, md, fn, 0) := by
  obtain ⟨W', C', h1, h2⟩ := h W C 1 md fn (hW.mono (by decide))
  have hd := drp_pd h2 (l2 := 4) (by decide) hW
  have e1 : stp K V (3, j1, W', C', 1, md, fn, 0) = (1, j1 + 1, o :: W, C ++ flt L1, 2, md, fn, 0) := by
    rw [sp_st3]
    unfold stp3
    rw [ho, if_neg (by omega), if_pos ⟨by omega, rfl⟩, hd]
  exact (((Rc.one (cmp0 hk)).trans h1).trans (Rc.one e1)).mono (by omega)
theorem TP.cmp (hk : K j ≠ 40 ∧ K j ≠ 262) (h : MP K V 5 j j1 L1) (hj : j < j1) {o k : Nat} (ho : opO (K j1) = o) (ho2 : o = 6 ∨ o = 7 ∨ o = 8) (hko : opK k = o) (hk2 : 10 < k ∧ k ≠ 26) (hj2 : j1 + 1 < j2) (h2 : MP K V 5 (j1 + 1) j2 L2) (h3 : ¬ (2 ≤ opO (K j2) ∧ opO (K j2) ≤ 5)) :
    TP K V 4 3 d j j2 (L1 ++ (L2 ++ [(k, nI 0)])) := by
  intro W C sd md fn hW hd
  have e1 := TP.cmp1 hk h hj ho ho2 hW (C := C) (sd := sd) (md := md) (fn := fn)
  have hs : stg o = 4 ∧ o ≠ 12 := by rcases ho2 with rfl | rfl | rfl <;> decide
  obtain ⟨W2, C2, h4, h5⟩ := h2 (o :: W) (C ++ flt L1) 2 md fn (Or.inr (by omega))
  have e2 : stp K V (3, j2, W2, C2, 2, md, fn, 0) = (4, j2, W2, C2, 2, md, fn, 0) := by
    rw [sp_st3]
    unfold stp3
    rw [if_neg h3, if_neg (fun z => by omega), if_neg (fun z => by omega), if_neg (fun z => by omega), if_pos rfl]
  refine ⟨W2, C2, 2, ((e1.trans h4).trans (Rc.one e2)).mono (by omega), ?_⟩
  rw [flt_app, flt_app, flt_op hk2.1 hk2.2 hko, ← List.append_assoc, ← List.append_assoc]
  exact (h5.mono (by decide)).op ⟨hs.2, by omega⟩
theorem TBa.cmpA (hk : K j ≠ 40 ∧ K j ≠ 262) (hj : j ≤ j') (hb : MB K V 5 j j' e) : TBa K V 4 d j j' e := by
  intro W C sd md fn hW hd
  exact Bad.pre (Rc.one (cmp0 hk)) (hb W C 1 md fn (hW.mono (by decide))) (by omega)
theorem TBa.cmpB (hk : K j ≠ 40 ∧ K j ≠ 262) (h : MP K V 5 j j1 L1) (hj : j < j1) (h3 : ¬ (2 ≤ opO (K j1) ∧ opO (K j1) ≤ 5)) (h4 : ¬ (6 ≤ opO (K j1) ∧ opO (K j1) ≤ 8)) : TBa K V 4 d j j1 1 := by
  intro W C sd md fn hW hd
  obtain ⟨W', C', h1, h2⟩ := h W C 1 md fn (hW.mono (by decide))
  have e2 : stp K V (3, j1, W', C', 1, md, fn, 0) = (5, j1, W', C', 1, md, fn, 1) := by
    rw [sp_st3]
    unfold stp3
    rw [if_neg h3, if_neg (fun z => h4 z.1), if_neg (fun z => by omega), if_neg (fun z => by omega), if_neg (by decide)]
  exact Bad.pre ((Rc.one (cmp0 hk)).trans h1) (Bad.one e2 rfl rfl rfl) (by omega)
theorem TBa.cmpC (hk : K j ≠ 40 ∧ K j ≠ 262) (h : MP K V 5 j j1 L1) (hj : j < j1) {o : Nat} (ho : opO (K j1) = o) (ho2 : o = 6 ∨ o = 7 ∨ o = 8) (hj2 : j1 + 1 ≤ j') (h2 : MB K V 5 (j1 + 1) j' e) : TBa K V 4 d j j' e := by
  intro W C sd md fn hW hd
  have e1 := TP.cmp1 hk h hj ho ho2 hW (C := C) (sd := sd) (md := md) (fn := fn)
  have hs : stg o = 4 ∧ o ≠ 12 := by rcases ho2 with rfl | rfl | rfl <;> decide
  exact Bad.pre e1 (h2 (o :: W) (C ++ flt L1) 2 md fn (Or.inr (by omega))) (by omega)
end GRAM
