/-! classes, fields, arrays -/
def vwC (ci : Nat) : vw_C := vwCl.getD ci ("", fun _ => ("", "", "", false), 0)
def KC (ci : Nat) : Prop := vwCl[ci]? = some (vwC ci) ∧ (∀ w ∈ u_ws (vwC ci).1 (vwC ci).2.1 (vwC ci).2.2, w ∈ TB) ∧ (∃ ty : Nat → FieldType, ∀ k, k < (vwC ci).2.2 → parseFieldDescriptor ((vwC ci).2.1 k).2.2.1 = some (ty k)) ∧ (∀ a, a < (vwC ci).2.2 → ∀ b, b < (vwC ci).2.2 → a ≠ b → ((vwC ci).2.1 a).2.1 ≠ ((vwC ci).2.1 b).2.1)
theorem kc : ∀ ci, ci < 15 → KC ci := by
  intro ci h
  match ci, h with
  | 0, _ => exact ⟨rfl, us0, ⟨ty0, ty0_ok⟩, nm0⟩
  | 1, _ => exact ⟨rfl, us1, ⟨ty1, ty1_ok⟩, nm1⟩
  | 2, _ => exact ⟨rfl, us2, ⟨ty2, ty2_ok⟩, nm2⟩
  | 3, _ => exact ⟨rfl, us3, ⟨ty3, ty3_ok⟩, nm3⟩
  | 4, _ => exact ⟨rfl, us4, ⟨ty4, ty4_ok⟩, nm4⟩
  | 5, _ => exact ⟨rfl, us5, ⟨ty5, ty5_ok⟩, nm5⟩
  | 6, _ => exact ⟨rfl, us6, ⟨ty6, ty6_ok⟩, nm6⟩
  | 7, _ => exact ⟨rfl, us7, ⟨ty7, ty7_ok⟩, nm7⟩
  | 8, _ => exact ⟨rfl, us8, ⟨ty8, ty8_ok⟩, nm8⟩
  | 9, _ => exact ⟨rfl, us9, ⟨ty9, ty9_ok⟩, nm9⟩
  | 10, _ => exact ⟨rfl, us10, ⟨ty10, ty10_ok⟩, nm10⟩
  | 11, _ => exact ⟨rfl, us11, ⟨ty11, ty11_ok⟩, nm11⟩
  | 12, _ => exact ⟨rfl, us12, ⟨ty12, ty12_ok⟩, nm12⟩
  | 13, _ => exact ⟨rfl, us13, ⟨ty13, ty13_ok⟩, nm13⟩
  | 14, _ => exact ⟨rfl, us14, ⟨ty14, ty14_ok⟩, nm14⟩
/-- what a field's link needs: class ci, field j, by the entry idx of the class own -/
def FL (own : String) (idx ci j : Nat) : Prop := ci < 15 ∧ j < (vwC ci).2.2 ∧ Cond.fieldLink own idx ((vwC ci).2.1 j).1 ((vwC ci).2.1 j).2.1 ((vwC ci).2.1 j).2.2.1 ∈ TB
section OK3
variable {SX : SXT} {Sh' Sh : List SE} {d : Nat} {M : MD} {pc : Nat} {L : List (Option Value)} {st : List Value} {μ : Mem} {x x1 x2 : Ans} {a b i : Int32} {r : Nat} {own : String} {idx ci j : Nat} {e : SE}
theorem ok_getV (n : Nat) {v : Value} (hd : decode M.1 pc = .ok (.getfield idx, 3)) (hp : pc + 3 = n) (ho : M.2.1.cls = own) (fl : FL own idx ci j) (hS : Sh[r]? = some e) (he : e.1 = ci) (hj : j < e.2.1) (hv : ∀ σ, fld σ μ r e j = av σ v) (k : Ok SX Sh' d M n L (v :: st) Sh μ x) : Ok SX Sh' d M pc L (.ref r :: st) Sh μ x := by
  subst hp; subst ho; subst he
  obtain ⟨f1, f2, f3⟩ := fl
  obtain ⟨k1, k2, -, -⟩ := kc e.1 f1
  refine Ok.go (fun {_ _ _ _ _ _ _ _ _ _ _ _ _ _ _ _ σ _} C hP _ kk => ?_) k
  refine va_get C.1 C.2.1 C.2.2.2.2.1 k2 C.2.2.2.1 C.2.2.2.2.2.1 hP r (fs := (List.range e.2.1).map (fld σ μ r e)) ((wd_at hS).trans (by rw [ent_obj (by omega)])) k1 j f2 (C.2.2.2.2.1 _ f3) (fun _ h => h) (fs_at hj) hd ?_
  rw [hv]
  exact kk
theorem ok_getI (n : Nat) (hd : decode M.1 pc = .ok (.getfield idx, 3)) (hp : pc + 3 = n) (ho : M.2.1.cls = own) (fl : FL own idx ci j) (hS : Sh[r]? = some e) (he : e.1 = ci) (hj : j < e.2.1) (hr : isR ci j = false) (k : Ok SX Sh' d M n L (.int (μ r j) :: st) Sh μ x) : Ok SX Sh' d M pc L (.ref r :: st) Sh μ x :=
  ok_getV n hd hp ho fl hS he hj (fun σ => by subst he; simp [fld, hr, av]) k
theorem ok_getR (n : Nat) {r' : Nat} (hd : decode M.1 pc = .ok (.getfield idx, 3)) (hp : pc + 3 = n) (ho : M.2.1.cls = own) (fl : FL own idx ci j) (hS : Sh[r]? = some e) (he : e.1 = ci) (hj : j < e.2.1) (hr : isR ci j = true) (hq : e.2.2.getD j none = some r') (k : Ok SX Sh' d M n L (.ref r' :: st) Sh μ x) : Ok SX Sh' d M pc L (.ref r :: st) Sh μ x :=
  ok_getV n hd hp ho fl hS he hj (fun σ => by subst he; simp [fld, hr, av]; rw [← List.getD_eq_getElem?_getD, hq]; rfl) k
/-- one instruction that writes the world -/
theorem Ok.put {n : Nat} {st' : List Value} {Sh2 : List SE} {ν : Mem} (hlen : csz Sh2 = csz Sh) (hs : ssz Sh2 = ssz Sh)
    (g : ∀ {p : Program} {l : Launch} {e : Env} {R : Room} {s : State} {m : MethodId} {args : Array Value} {below : List Frame} {meth : Method} {c : Code} {H : Heap} {locs : List Loc} {cells slots : Nat} {Q : State → Prop} {D : va_G} {σ : Nat → Nat} {A : Nat → Prop} {ls : Array Slot},
    Ctx M p s m args meth c D σ → va_P D vwCl (wd σ D Sh μ) H → va_D A (wd σ D Sh μ) → va_S A s.heap H locs → lvR σ ls M.2.2.1 L →
    (∀ (H1 : Heap) (locs1 : List Loc), va_P D vwCl (wd σ D Sh2 ν) H1 → va_D A (wd σ D Sh2 ν) → va_S A s.heap H1 locs1 → W p l e R s m args below meth c H1 locs1 cells slots Q (F0 m n ls (st'.map (av σ)))) → W p l e R s m args below meth c H locs cells slots Q (F0 m pc ls (st.map (av σ))))
    (k : Ok SX Sh' d M n L st' Sh2 ν x) : Ok SX Sh' d M pc L st Sh μ x := by
  intro v μ' hx p l e R s m args below meth c H locs cells slots Q D σ A mc ms ls C Z hA hR hP hD hS hL h1 h2 hQ
  refine g C hP hD hS hL (fun H1 locs1 hP1 hD1 hS1 => k v μ' hx p l e R s m args below meth c H1 locs1 cells slots Q D σ A mc ms ls C Z hA hR hP1 hD1 hS1 hL (by omega) (by omega) ?_)
  intro H' locs' ls' σ' pcr ha
  exact hQ H' locs' ls' σ' pcr ⟨fun j hj => ha.1 j (by rw [hlen]; exact hj), fun q => ha.2 (q.trans hlen.symm)⟩
theorem ok_putI (n : Nat) {ty : FieldType} (hd : decode M.1 pc = .ok (.putfield idx, 3)) (hp : pc + 3 = n) (ho : M.2.1.cls = own) (fl : FL own idx ci j) (hS : Sh[r]? = some e) (he : e.1 = ci) (hj : j < e.2.1) (hr : isR ci j = false) (hfin : ((vwC ci).2.1 j).2.2.2 = false) (hty : parseFieldDescriptor ((vwC ci).2.1 j).2.2.1 = some ty) (hn : narrow ty (.int a) = .int a) (hf : fits ty (.int a) = true) (k : Ok SX Sh' d M n L st Sh (mset μ r j a) x) : Ok SX Sh' d M pc L (.int a :: .ref r :: st) Sh μ x := by
  subst hp; subst ho; subst he
  obtain ⟨f1, f2, f3⟩ := fl
  obtain ⟨k1, k2, ⟨ty0, k3⟩, k4⟩ := kc e.1 f1
  refine Ok.put rfl rfl (fun {_ _ _ _ _ _ _ _ _ _ _ _ _ _ _ _ σ _ _} C hP hD hS0 _ kk => ?_) k
  refine va_put (ty := ty) C.1 C.2.1 C.2.2.2.2.1 k2 ty0 k3 k4 C.2.2.2.1 C.2.2.2.2.2.1 hP hD hS0 r (fs := (List.range e.2.1).map (fld σ μ r e)) ((wd_at hS).trans (by rw [ent_obj (by omega)])) k1 j f2 (C.2.2.2.2.1 _ f3) (fun _ h => h) hfin hty hn hf (by simpa using hj) hd (fun H1 locs1 g1 g2 g3 => ?_)
  rw [show av σ (Value.int a) = Value.int a from rfl, wd_setI hS (by omega) hr hj] at g1 g2
  exact kk H1 locs1 g1 g2 g3
theorem ok_putZ (n : Nat) (hd : decode M.1 pc = .ok (.putfield idx, 3)) (hp : pc + 3 = n) (ho : M.2.1.cls = own) (fl : FL own idx ci j) (hS : Sh[r]? = some e) (he : e.1 = ci) (hj : j < e.2.1) (hr : isR ci j = false) (hfin : ((vwC ci).2.1 j).2.2.2 = false) (hty : parseFieldDescriptor ((vwC ci).2.1 j).2.2.1 = some .boolean) (k : Ok SX Sh' d M n L st Sh (mset μ r j a) x) : Ok SX Sh' d M pc L (.int a :: .ref r :: st) Sh μ (chk (isB a) x) :=
  ok_chk fun h => ok_putI n hd hp ho fl hS he hj hr hfin hty (isB_n h) (isB_f h) k
theorem ok_putZc (n : Nat) (hd : decode M.1 pc = .ok (.putfield idx, 3)) (hp : pc + 3 = n) (ho : M.2.1.cls = own) (fl : FL own idx ci j) (hS : Sh[r]? = some e) (he : e.1 = ci) (hj : j < e.2.1) (hr : isR ci j = false) (hfin : ((vwC ci).2.1 j).2.2.2 = false) (hty : parseFieldDescriptor ((vwC ci).2.1 j).2.2.1 = some .boolean) (h : isB a = true) (k : Ok SX Sh' d M n L st Sh (mset μ r j a) x) : Ok SX Sh' d M pc L (.int a :: .ref r :: st) Sh μ x :=
  ok_putI n hd hp ho fl hS he hj hr hfin hty (isB_n h) (isB_f h) k
/-- final fields in a constructor -/
theorem ok_putF (n : Nat) {ty : FieldType} (hd : decode M.1 pc = .ok (.putfield idx, 3)) (hp : pc + 3 = n) (ho : M.2.1.cls = own) (hown : ((vwC ci).2.1 j).1 = own) (hinit : M.2.1.name = "<init>") (fl : FL own idx ci j) (hS : Sh[r]? = some e) (he : e.1 = ci) (hj : j < e.2.1) (hr : isR ci j = false) (hfin : ((vwC ci).2.1 j).2.2.2 = true) (hty : parseFieldDescriptor ((vwC ci).2.1 j).2.2.1 = some ty) (hn : narrow ty (.int a) = .int a) (hf : fits ty (.int a) = true) (k : Ok SX Sh' d M n L st Sh (mset μ r j a) x) : Ok SX Sh' d M pc L (.int a :: .ref r :: st) Sh μ x := by
  subst hp; subst ho; subst he
  obtain ⟨f1, f2, f3⟩ := fl
  obtain ⟨k1, k2, ⟨ty0, k3⟩, k4⟩ := kc e.1 f1
  refine Ok.put rfl rfl (fun {_ _ _ _ _ _ _ _ _ _ _ _ _ _ _ _ σ _ _} C hP hD hS0 _ kk => ?_) k
  refine va_putF (ty := ty) C.1 C.2.1 C.2.2.2.2.1 k2 ty0 k3 k4 C.2.2.2.1 C.2.2.2.2.2.1 hP hD hS0 r (fs := (List.range e.2.1).map (fld σ μ r e)) ((wd_at hS).trans (by rw [ent_obj (by omega)])) k1 j f2 (C.2.2.2.2.1 _ f3) (fun _ h => h) hfin (C.2.2.2.2.2.2.1 hinit) hown hty hn hf (by simpa using hj) hd (fun H1 locs1 g1 g2 g3 => ?_)
  rw [show av σ (Value.int a) = Value.int a from rfl, wd_setI hS (by omega) hr hj] at g1 g2
  exact kk H1 locs1 g1 g2 g3
theorem ssz_set : ∀ (Sh : List SE) (k : Nat) (e e' : SE), Sh[k]? = some e → e'.2.1 = e.2.1 → ssz (Sh.set k e') = ssz Sh
  | [], k, e, e', h, hn => by simp at h
  | a :: Sh, 0, e, e', h, hn => by
    have : a = e := by simpa using h
    subst this
    simp [ssz, hn]
  | a :: Sh, k + 1, e, e', h, hn => by
    simp only [List.set_cons_succ, ssz]
    rw [ssz_set Sh k e e' (by simpa using h) hn]
/-- a final field that is a reference, in a constructor -/
theorem ok_putFR (n : Nat) {ty : FieldType} {r' N : Nat} {rs : List (Option Nat)} (hd : decode M.1 pc = .ok (.putfield idx, 3)) (hp : pc + 3 = n) (ho : M.2.1.cls = own) (hown : ((vwC ci).2.1 j).1 = own) (hinit : M.2.1.name = "<init>") (fl : FL own idx ci j) (hS : Sh[r]? = some (ci, N, rs)) (hj : j < N) (hjl : j < rs.length) (hr : isR ci j = true) (hfin : ((vwC ci).2.1 j).2.2.2 = true) (hty : parseFieldDescriptor ((vwC ci).2.1 j).2.2.1 = some ty) (hn : ∀ q, narrow ty (.ref q) = .ref q) (hf : ∀ q, fits ty (.ref q) = true) (k : Ok SX Sh' d M n L st (Sh.set r (ci, N, rs.set j (some r'))) μ x) : Ok SX Sh' d M pc L (.ref r' :: .ref r :: st) Sh μ x := by
  subst hp; subst ho
  obtain ⟨f1, f2, f3⟩ := fl
  obtain ⟨k1, k2, ⟨ty0, k3⟩, k4⟩ := kc ci f1
  refine Ok.put (Sh2 := Sh.set r (ci, N, rs.set j (some r'))) (by simp [csz]) (ssz_set _ _ _ _ hS rfl) (fun {_ _ _ _ _ _ _ _ _ _ _ _ _ _ _ _ σ _ _} C hP hD hS0 _ kk => ?_) k
  refine va_putF (ty := ty) C.1 C.2.1 C.2.2.2.2.1 k2 ty0 k3 k4 C.2.2.2.1 C.2.2.2.2.2.1 hP hD hS0 r (fs := (List.range N).map (fld σ μ r (ci, N, rs))) ((wd_at hS).trans (by rw [ent_obj (e := (ci, N, rs)) (show ci < 100 by omega)])) k1 j f2 (C.2.2.2.2.1 _ f3) (fun _ h => h) hfin (C.2.2.2.2.2.2.1 hinit) hown hty (hn _) (hf _) (by simpa using hj) hd (fun H1 locs1 g1 g2 g3 => ?_)
  rw [show av σ (Value.ref r') = Value.ref (σ r') from rfl, wd_setR hS (by omega) hr hj hjl] at g1 g2
  exact kk H1 locs1 g1 g2 g3
/-! arrays -/
def inb (i : Int32) (n : Nat) : Bool := decide (0 ≤ i) && decide (i.toNatClampNeg < n)
theorem inb_in {i : Int32} {n : Nat} (h : inb i n = true) : vp_in i n := by
  simp only [inb, Bool.and_eq_true, decide_eq_true_eq] at h
  rintro (q | q)
  · exact absurd h.1 (Int32.not_le.mpr q)
  · omega
variable {N : Nat} {rs : List (Option Nat)}
theorem ok_ialdc (n k0 : Nat) (hd : decode M.1 pc = .ok (.iaload, 1)) (hp : pc + 1 = n) (hS : Sh[r]? = some (100, N, rs)) (hi : i.toNatClampNeg = k0) (hin : inb i N = true) (k : Ok SX Sh' d M n L (.int (μ r k0) :: st) Sh μ x) : Ok SX Sh' d M pc L (.int i :: .ref r :: st) Sh μ x := by
  subst hp; subst hi
  refine Ok.go (fun {_ _ _ _ _ _ _ _ _ _ _ _ _ _ _ _ σ _} C hP _ kk => ?_) k
  exact va_iald C.1 C.2.1 C.2.2.2.2.2.1 hP r 0 (wd_at hS) rfl (inb_in hin) hd kk
theorem ok_iald (n : Nat) (hd : decode M.1 pc = .ok (.iaload, 1)) (hp : pc + 1 = n) (hS : Sh[r]? = some (100, N, rs)) (k : Ok SX Sh' d M n L (.int (μ r i.toNatClampNeg) :: st) Sh μ x) : Ok SX Sh' d M pc L (.int i :: .ref r :: st) Sh μ (chk (inb i N) x) :=
  ok_chk fun h => ok_ialdc n _ hd hp hS rfl h k
theorem ok_iastc (n k0 : Nat) (hd : decode M.1 pc = .ok (.iastore, 1)) (hp : pc + 1 = n) (hS : Sh[r]? = some (100, N, rs)) (hi : i.toNatClampNeg = k0) (hin : inb i N = true) (k : Ok SX Sh' d M n L st Sh (mset μ r k0 a) x) : Ok SX Sh' d M pc L (.int a :: .int i :: .ref r :: st) Sh μ x := by
  subst hp; subst hi
  refine Ok.put rfl rfl (fun {_ _ _ _ _ _ _ _ _ _ _ _ _ _ _ _ σ _ _} C hP hD hS0 _ kk => ?_) k
  refine va_iast C.1 C.2.1 C.2.2.2.2.2.1 hP hD hS0 r 0 (wd_at hS) rfl (inb_in hin) hd (fun H1 locs1 g1 g2 g3 => ?_)
  rw [wd_setA hS] at g1 g2
  exact kk H1 locs1 g1 g2 g3
theorem ok_iast (n : Nat) (hd : decode M.1 pc = .ok (.iastore, 1)) (hp : pc + 1 = n) (hS : Sh[r]? = some (100, N, rs)) (k : Ok SX Sh' d M n L st Sh (mset μ r i.toNatClampNeg a) x) : Ok SX Sh' d M pc L (.int a :: .int i :: .ref r :: st) Sh μ (chk (inb i N) x) :=
  ok_chk fun h => ok_iastc n _ hd hp hS rfl h k
theorem ok_alen (n : Nat) (hd : decode M.1 pc = .ok (.arraylength, 1)) (hp : pc + 1 = n) (hS : Sh[r]? = some (100, N, rs)) (k : Ok SX Sh' d M n L (.int (Int32.ofNat N) :: st) Sh μ x) : Ok SX Sh' d M pc L (.ref r :: st) Sh μ x := by
  subst hp
  refine Ok.go (fun {_ _ _ _ _ _ _ _ _ _ _ _ _ _ _ _ σ _} C hP _ kk => ?_) k
  exact va_alen C.1 C.2.1 C.2.2.2.2.2.1 hP r 0 (wd_at hS) rfl rfl hd kk
theorem ok_alenR (n : Nat) (hd : decode M.1 pc = .ok (.arraylength, 1)) (hp : pc + 1 = n) (hS : Sh[r]? = some (101, N, rs)) (k : Ok SX Sh' d M n L (.int (Int32.ofNat N) :: st) Sh μ x) : Ok SX Sh' d M pc L (.ref r :: st) Sh μ x := by
  subst hp
  refine Ok.go (fun {_ _ _ _ _ _ _ _ _ _ _ _ _ _ _ _ σ _} C hP _ kk => ?_) k
  exact va_alen C.1 C.2.1 C.2.2.2.2.2.1 hP r 1 (wd_at hS) rfl rfl hd kk
theorem ok_aaldc (n r' : Nat) (hd : decode M.1 pc = .ok (.aaload, 1)) (hp : pc + 1 = n) (hS : Sh[r]? = some (101, N, rs)) (hin : inb i N = true) (hr : rs.getD i.toNatClampNeg none = some r') (k : Ok SX Sh' d M n L (.ref r' :: st) Sh μ x) : Ok SX Sh' d M pc L (.int i :: .ref r :: st) Sh μ x := by
  subst hp
  refine Ok.go (fun {_ _ _ _ _ _ _ _ _ _ _ _ _ _ _ _ σ _} C hP _ kk => ?_) k
  refine va_aldq C.1 C.2.1 C.2.2.2.2.2.1 hP r 1 (wd_at hS) rfl (inb_in hin) hd ?_
  rw [show va_rf ((rs.getD i.toNatClampNeg none).map σ) = av σ (.ref r') by rw [hr]; rfl]
  exact kk
/-! Math, System.arraycopy -/
theorem st8 {σ : Nat → Nat} {st : List Value} (h : (st.map Value.category).sum ≤ 8) : ((st.map (av σ)).map fun v => v.category).sum ≤ 8 := by
  have : (st.map (av σ)).map (fun v => v.category) = st.map Value.category := by
    rw [List.map_map]
    exact List.map_congr_left fun v _ => av_cat σ v
  rw [this]; exact h
theorem Ok.goD {n : Nat} {st' : List Value} (g : ∀ {p : Program} {l : Launch} {e : Env} {R : Room} {s : State} {m : MethodId} {args : Array Value} {below : List Frame} {meth : Method} {c : Code} {H : Heap} {locs : List Loc} {cells slots : Nat} {Q : State → Prop} {D : va_G} {σ : Nat → Nat} {ls : Array Slot},
    Ctx M p s m args meth c D σ → lvR σ ls M.2.2.1 L → 1 ≤ R.frames → 40 ≤ R.locals → cells ≤ R.cells → slots ≤ R.slots → W p l e R s m args below meth c H locs cells slots Q (F0 m n ls (st'.map (av σ))) → W p l e R s m args below meth c H locs cells slots Q (F0 m pc ls (st.map (av σ))))
    (hz : csz Sh ≤ csz Sh' ∧ ssz Sh ≤ ssz Sh') (k : Ok SX Sh' (d + 1) M n L st' Sh μ x) : Ok SX Sh' (d + 1) M pc L st Sh μ x := by
  intro v μ' hx p l e R s m args below meth c H locs cells slots Q D σ A mc ms ls C Z hA hR hP hD hS hL h1 h2 hQ
  obtain ⟨r1, r2, r3, r4⟩ := id hR
  exact g C hL (by omega) (by omega) (by omega) (by omega) (k v μ' hx p l e R s m args below meth c H locs cells slots Q D σ A mc ms ls C Z hA hR hP hD hS hL h1 h2 hQ)
theorem ok_max (n : Nat) (hz : csz Sh ≤ csz Sh' ∧ ssz Sh ≤ ssz Sh') (hd : decode M.1 pc = .ok (.invokestatic idx, 3)) (hp : pc + 3 = n) (ho : M.2.1.cls = own) (hl : Cond.methodLink own idx Lib.Math.max.name ∈ TB) (hst : (st.map Value.category).sum ≤ 8) (k : Ok SX Sh' (d + 1) M n L (.int (if a < b then b else a) :: st) Sh μ x) : Ok SX Sh' (d + 1) M pc L (.int b :: .int a :: st) Sh μ x := by
  subst hp; subst ho
  refine Ok.goD (fun {_ _ _ _ _ _ _ _ _ _ _ _ _ _ _ _ σ _} C hL r1 r2 r3 r4 kk => ?_) hz k
  have hw := C.2.2.2.2.1
  exact va_mmax C.1 C.2.1 (C.2.2.1.trans hL.1.symm) C.2.2.2.1 (hw _ hl) (hw _ ma_st_max) (hw _ wi_java_lang_Math) (hw _ ma_code_max) r1 (by have := st8 (σ := σ) hst; omega) r3 r4 hd kk
theorem ok_min (n : Nat) (hz : csz Sh ≤ csz Sh' ∧ ssz Sh ≤ ssz Sh') (hd : decode M.1 pc = .ok (.invokestatic idx, 3)) (hp : pc + 3 = n) (ho : M.2.1.cls = own) (hl : Cond.methodLink own idx Lib.Math.min.name ∈ TB) (hst : (st.map Value.category).sum ≤ 8) (k : Ok SX Sh' (d + 1) M n L (.int (if b < a then b else a) :: st) Sh μ x) : Ok SX Sh' (d + 1) M pc L (.int b :: .int a :: st) Sh μ x := by
  subst hp; subst ho
  refine Ok.goD (fun {_ _ _ _ _ _ _ _ _ _ _ _ _ _ _ _ σ _} C hL r1 r2 r3 r4 kk => ?_) hz k
  have hw := C.2.2.2.2.1
  exact va_mmin C.1 C.2.1 (C.2.2.1.trans hL.1.symm) C.2.2.2.1 (hw _ hl) (hw _ ma_st_min) (hw _ wi_java_lang_Math) (hw _ ma_code_min) r1 (by have := st8 (σ := σ) hst; omega) r3 r4 hd kk
def mcpy (μ : Mem) (src dst sp dp n : Nat) : Mem := fun a j => if a = dst then va_cpy (μ src) (μ dst) sp dp n j else μ a j
theorem wd_setC {σ : Nat → Nat} {D : va_G} {src dst sp dp m : Nat} (h : Sh[dst]? = some (100, N, rs)) : (wd σ D Sh μ).set dst (σ dst, .inl (D.1 100, N, .inl (va_cpy (μ src) (μ dst) sp dp m))) = wd σ D Sh (mcpy μ src dst sp dp m) := by
  refine wd_ext fun i => ?_
  rw [List.getElem?_set]
  by_cases hi : dst = i
  · subst hi
    rw [if_pos rfl, if_pos (by rw [wd_len]; exact (List.getElem?_eq_some_iff.mp h).1), h]
    have : mcpy μ src dst sp dp m dst = va_cpy (μ src) (μ dst) sp dp m := by
      funext j; simp [mcpy]
    simp only [Option.map_some, ent_arr, this]
  · rw [if_neg hi, wd_get]
    cases Sh[i]? with
    | none => rfl
    | some e =>
      simp only [Option.map_some]
      rw [ent_congr (ν := mcpy μ src dst sp dp m)]
      funext j
      have : ¬ i = dst := fun q => hi q.symm
      simp [mcpy, this]
def cpyOk (sp dp n : Int32) (n0 n1 : Nat) : Bool := decide (0 ≤ sp) && decide (0 ≤ dp) && decide (0 ≤ n) && decide (sp.toNatClampNeg + n.toNatClampNeg ≤ n0) && decide (dp.toNatClampNeg + n.toNatClampNeg ≤ n1)
theorem ok_copy (n : Nat) {src dst N0 : Nat} {rs0 : List (Option Nat)} {sp dp z : Int32} (hd : decode M.1 pc = .ok (.invokestatic idx, 3)) (hp : pc + 3 = n) (ho : M.2.1.cls = own) (hl : Cond.methodLink own idx arraycopyName ∈ TB) (hst : (st.map Value.category).sum ≤ 8) (hS0 : Sh[src]? = some (100, N0, rs0)) (hS1 : Sh[dst]? = some (100, N, rs)) (k : Ok SX Sh' (d + 1) M n L st Sh (mcpy μ src dst sp.toNatClampNeg dp.toNatClampNeg z.toNatClampNeg) x) : Ok SX Sh' (d + 1) M pc L (.int z :: .int dp :: .ref dst :: .int sp :: .ref src :: st) Sh μ (chk (cpyOk sp dp z N0 N) x) := by
  subst hp; subst ho
  refine ok_chk fun hc => ?_
  simp only [cpyOk, Bool.and_eq_true, decide_eq_true_eq] at hc
  obtain ⟨⟨⟨⟨c1, c2⟩, c3⟩, c4⟩, c5⟩ := hc
  intro v μ' hx p l e R s m args below meth c H locs cells slots Q D σ A mc ms ls C Z hA hR hP hD hS hL h1 h2 hQ
  obtain ⟨r1, r2, r3, r4⟩ := id hR
  have hw := C.2.2.2.2.1
  have h8 := st8 (σ := σ) hst
  have hnw : nativeFrameWords "java/lang/System" "arraycopy" 5 + 11 ≤ 32 := by decide
  refine va_copyi C.1 C.2.1 (C.2.2.1.trans hL.1.symm) C.2.2.2.1 (hw _ hl) (hw _ nat_copy) (hw _ st_copy) (hw _ wi_java_lang_System) C.2.2.2.2.2.1 hP hD hS src dst 0 0 (wd_at hS0) (wd_at hS1) rfl rfl rfl (Int32.not_lt.mpr c1) (Int32.not_lt.mpr c2) (Int32.not_lt.mpr c3) c4 c5 (fun _ _ => rfl) (by omega) (by omega) hd (fun H1 locs1 g1 g2 g3 => ?_)
  rw [wd_setC hS1] at g1 g2
  exact k v μ' hx p l e R s m args below meth c H1 locs1 cells slots Q D σ A mc ms ls C Z hA hR g1 g2 g3 hL h1 h2 hQ
end OK3
