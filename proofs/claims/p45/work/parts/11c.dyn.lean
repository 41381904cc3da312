section DYN2
variable {SX : SXT} {d : Nat} {M : MD} {pc : Nat} {L : List (Option Value)} {st : List Value} {h : DS} {x x1 x2 : DA} {a b i : Int32} {r r2 : Nat} {w w2 : Value} {own : String} {idx ci j : Nat}
theorem dk_aald (t n : Nat) {f : Nat → DA} (ht : t = 103 ∨ t = 104) (hd : decode M.1 pc = .ok (.aaload, 1)) (hp : pc + 1 = n) (k : ∀ q, lQ h t r i = some q → DOk SX d M n L (.ref q :: st) h (f q)) : DOk SX d M pc L (.int i :: .ref r :: st) h (bo (lQ h t r i) f) :=
  DOk.rd (st' := fun q => .ref q :: st) (fun q' hy _ {_ _} q => by
    obtain ⟨N, rs, h1, h2, h3⟩ := lQ_some hy
    subst hp
    refine Ok.go (fun {_ _ _ _ _ _ _ _ _ _ _ _ _ _ _ D σ _} C hP _ kk => ?_) q
    have e : va_rf ((rs.getD i.toNatClampNeg none).map σ) = av σ (.ref q') := by rw [h3]; rfl
    rcases ht with rfl | rfl
    · refine W.aald (v := va_rf ((rs.getD i.toNatClampNeg none).map σ)) (ty := .array .int) C.1 C.2.1 (hP r _ (wd_atQ (Or.inr (Or.inl rfl)) h1)) ((C.2.2.2.2.2.1.2 3 _ rfl).1 N (fun j => va_rf ((rs.getD j none).map σ))) rfl (fun q => by cases q) (by show ¬ (i < 0 ∨ (arrV _ _ _).slots.size ≤ _); rw [arrV_size]; exact inb_in h2) (by show (arrV _ _ _).slots[_]? = _; rw [arrV_read _ _ (Nat.not_le.mp fun q => inb_in h2 (Or.inr q))]) rfl rfl hd ?_
      rw [e]; exact kk
    · refine va_aldq C.1 C.2.1 C.2.2.2.2.2.1 hP r 4 (wd_atQ (Or.inr (Or.inr rfl)) h1) rfl (inb_in h2) hd ?_
      rw [e]; exact kk) (fun q' hy hl q => by
    obtain ⟨N, rs, h1, h2, h3⟩ := lQ_some hy
    exact oR_r (Or.inl (hl.2.2.1 _ _ h1 _ _ h3)) (oR_2 q)) k
/-! writes -/
theorem lk_mset {h : DS} (hl : lk h) {v : Int32} {r j : Nat} (hr : 123 ≤ r) : lk (h.1, h.2.1, mset h.2.2 r j v) := ⟨fun k hk => by
  show mset h.2.2 r j v k = h.1 k
  rw [mset_ne (by omega)]
  exact hl.1 k hk, hl.2.1, hl.2.2.1, hl.2.2.2⟩
theorem wfS_set {Sh : List SE} {r : Nat} {e e' : SE} (hw : wfS Sh) (he' : ∀ j q, e'.2.2.getD j none = some q → q < Sh.length) : wfS (Sh.set r e') := by
  intro k a hk j q hq
  rw [List.length_set]
  rw [List.getElem?_set] at hk
  split at hk
  · split at hk
    · cases hk
      exact he' j q hq
    · cases hk
  · exact hw k a hk j q hq
theorem lk_set {h : DS} (hl : lk h) {r : Nat} {e' : SE} (hr : 123 ≤ r) (he' : ∀ j q, e'.2.2.getD j none = some q → q < h.2.1.length) : lk (h.1, h.2.1.set r e', h.2.2) := ⟨hl.1, fun k hk => by
  show (h.2.1.set r e')[k]? = _
  rw [List.getElem?_set, if_neg (by omega)]
  exact hl.2.1 k hk, wfS_set (e := e') hl.2.2.1 he', by
  show (h.2.1.set r e').length < _
  rw [List.length_set]; exact hl.2.2.2⟩
/-- one instruction that writes -/
theorem DOk.wr {y : Option DS} {f : DS → DA} {n : Nat} {st' : List Value} (g : ∀ h1, y = some h1 → lk h → okR (csz h.2.1) L st → lk h1 ∧ csz h1.2.1 = csz h.2.1 ∧ ssz h1.2.1 = ssz h.2.1 ∧ ∀ {Sh' : List SE} {x' : Ans}, Ok SX Sh' d M n L st' h1.2.1 h1.2.2 x' → Ok SX Sh' d M pc L st h.2.1 h.2.2 x') (ho : ∀ m, okR m L st → okR m L st') (k : ∀ h1, y = some h1 → DOk SX d M n L st' h1 (f h1)) : DOk SX d M pc L st h (bo y f) := by
  intro v h' hx hl hok
  cases hy : y with
  | none => rw [hy] at hx; cases hx
  | some h1 =>
    rw [hy] at hx
    obtain ⟨g1, g2, g3, g4⟩ := g h1 hy hl hok
    obtain ⟨a1, a2, a3, a4⟩ := k h1 hy v h' hx g1 (ho _ (by rw [g2]; exact hok))
    exact ⟨a1, by rw [← g2, ← g3]; exact a2, a3, g4 a4⟩
def wI (h : DS) (r ci j : Nat) (v : Int32) : Option DS := match h.2.1[r]? with
  | some e => if (e.1 = ci ∧ j < e.2.1 ∧ isR ci j = false) ∧ 123 ≤ r then some (h.1, h.2.1, mset h.2.2 r j v) else none
  | none => none
theorem wI_some {v : Int32} {h1 : DS} (q : wI h r ci j v = some h1) : ∃ e, h.2.1[r]? = some e ∧ e.1 = ci ∧ j < e.2.1 ∧ isR ci j = false ∧ 123 ≤ r ∧ h1 = (h.1, h.2.1, mset h.2.2 r j v) := by
  unfold wI at q
  split at q
  · rename_i e he
    split at q
    · rename_i hc
      cases q
      exact ⟨e, he, hc.1.1, hc.1.2.1, hc.1.2.2, hc.2, rfl⟩
    · cases q
  · cases q
theorem dk_putI (n : Nat) {ty : FieldType} {f : DS → DA} (hd : decode M.1 pc = .ok (.putfield idx, 3)) (hp : pc + 3 = n) (ho : M.2.1.cls = own) (fl : FL own idx ci j) (hfin : ((vwC ci).2.1 j).2.2.2 = false) (hty : parseFieldDescriptor ((vwC ci).2.1 j).2.2.1 = some ty) (hn : narrow ty (.int a) = .int a) (hf : fits ty (.int a) = true) (k : ∀ h1, wI h r ci j a = some h1 → DOk SX d M n L st h1 (f h1)) : DOk SX d M pc L (.int a :: .ref r :: st) h (bo (wI h r ci j a) f) :=
  DOk.wr (fun h1 hy hl _ => by
    obtain ⟨e, e1, e2, e3, e4, e5, rfl⟩ := wI_some hy
    exact ⟨lk_mset hl e5, rfl, rfl, fun q => ok_putI n hd hp ho fl e1 e2 e3 e4 hfin hty hn hf q⟩) (fun _ q => oR_2 q) k
theorem dk_putIF (n : Nat) {ty : FieldType} {f : DS → DA} (hd : decode M.1 pc = .ok (.putfield idx, 3)) (hp : pc + 3 = n) (ho : M.2.1.cls = own) (hown : ((vwC ci).2.1 j).1 = own) (hinit : M.2.1.name = "<init>") (fl : FL own idx ci j) (hfin : ((vwC ci).2.1 j).2.2.2 = true) (hty : parseFieldDescriptor ((vwC ci).2.1 j).2.2.1 = some ty) (hn : narrow ty (.int a) = .int a) (hf : fits ty (.int a) = true) (k : ∀ h1, wI h r ci j a = some h1 → DOk SX d M n L st h1 (f h1)) : DOk SX d M pc L (.int a :: .ref r :: st) h (bo (wI h r ci j a) f) :=
  DOk.wr (fun h1 hy hl _ => by
    obtain ⟨e, e1, e2, e3, e4, e5, rfl⟩ := wI_some hy
    exact ⟨lk_mset hl e5, rfl, rfl, fun q => ok_putF n hd hp ho hown hinit fl e1 e2 e3 e4 hfin hty hn hf q⟩) (fun _ q => oR_2 q) k
def wR (h : DS) (r ci j : Nat) (o : Option Nat) : Option DS := match h.2.1[r]? with
  | some e => if ((e.1 = ci ∧ j < e.2.1 ∧ isR ci j = true) ∧ 123 ≤ r) ∧ (j < e.2.2.length ∧ ∀ q ∈ o, q < h.2.1.length) then some (h.1, h.2.1.set r (ci, e.2.1, e.2.2.set j o), h.2.2) else none
  | none => none
theorem wR_some {o : Option Nat} {h1 : DS} (q : wR h r ci j o = some h1) : ∃ e, h.2.1[r]? = some e ∧ e.1 = ci ∧ j < e.2.1 ∧ isR ci j = true ∧ 123 ≤ r ∧ j < e.2.2.length ∧ (∀ q, o = some q → q < h.2.1.length) ∧ h1 = (h.1, h.2.1.set r (ci, e.2.1, e.2.2.set j o), h.2.2) := by
  unfold wR at q
  split at q
  · rename_i e he
    split at q
    · rename_i hc
      cases q
      exact ⟨e, he, hc.1.1.1, hc.1.1.2.1, hc.1.1.2.2, hc.1.2, hc.2.1, fun q hq => hc.2.2 q hq, rfl⟩
    · cases q
  · cases q
theorem getD_set_some {rs : List (Option Nat)} {j k q : Nat} {o : Option Nat} (hq : (rs.set j o).getD k none = some q) : o = some q ∨ rs.getD k none = some q := by
  rw [List.getD_eq_getElem?_getD, List.getElem?_set] at hq
  split at hq
  · split at hq
    · exact Or.inl hq
    · cases hq
  · exact Or.inr (by rw [List.getD_eq_getElem?_getD]; exact hq)
theorem ok_putRo {Sh' Sh : List SE} {μ : Mem} {x : Ans} {N : Nat} {rs : List (Option Nat)} {o : Option Nat} (n : Nat) {ty : FieldType} (hd : decode M.1 pc = .ok (.putfield idx, 3)) (hp : pc + 3 = n) (ho : M.2.1.cls = own) (fl : FL own idx ci j) (hS : Sh[r]? = some (ci, N, rs)) (hj : j < N) (hjl : j < rs.length) (hr : isR ci j = true) (hfin : ((vwC ci).2.1 j).2.2.2 = false) (hty : parseFieldDescriptor ((vwC ci).2.1 j).2.2.1 = some ty) (hn : ∀ q, narrow ty (va_rf q) = va_rf q) (hf : ∀ q, fits ty (va_rf q) = true) (k : Ok SX Sh' d M n L st (Sh.set r (ci, N, rs.set j o)) μ x) : Ok SX Sh' d M pc L (rv o :: .ref r :: st) Sh μ x := by
  subst hp; subst ho
  obtain ⟨f1, f2, f3⟩ := fl
  obtain ⟨k1, k2, ⟨ty0, k3⟩, k4⟩ := kc ci f1
  refine Ok.put (Sh2 := Sh.set r (ci, N, rs.set j o)) (by simp [csz]) (ssz_set _ _ _ _ hS rfl) (fun {_ _ _ _ _ _ _ _ _ _ _ _ _ _ _ _ σ _ _} C hP hD hS0 _ kk => ?_) k
  have e := rv_av σ o
  rw [List.map_cons, List.map_cons, e]
  refine va_put (ty := ty) C.1 C.2.1 C.2.2.2.2.1 k2 ty0 k3 k4 C.2.2.2.1 C.2.2.2.2.2.1 hP hD hS0 r (fs := (List.range N).map (fld σ μ r (ci, N, rs))) ((wd_at hS).trans (by rw [ent_obj (e := (ci, N, rs)) (show ci < 100 by omega)])) k1 j f2 (C.2.2.2.2.1 _ f3) (fun _ h => h) hfin hty (hn _) (hf _) (by simpa using hj) hd (fun H1 locs1 g1 g2 g3 => ?_)
  rw [wd_setRo hS (by omega) hr hj hjl] at g1 g2
  exact kk H1 locs1 g1 g2 g3
theorem ok_putFRo {Sh' Sh : List SE} {μ : Mem} {x : Ans} {N : Nat} {rs : List (Option Nat)} {o : Option Nat} (n : Nat) {ty : FieldType} (hd : decode M.1 pc = .ok (.putfield idx, 3)) (hp : pc + 3 = n) (ho : M.2.1.cls = own) (hown : ((vwC ci).2.1 j).1 = own) (hinit : M.2.1.name = "<init>") (fl : FL own idx ci j) (hS : Sh[r]? = some (ci, N, rs)) (hj : j < N) (hjl : j < rs.length) (hr : isR ci j = true) (hfin : ((vwC ci).2.1 j).2.2.2 = true) (hty : parseFieldDescriptor ((vwC ci).2.1 j).2.2.1 = some ty) (hn : ∀ q, narrow ty (va_rf q) = va_rf q) (hf : ∀ q, fits ty (va_rf q) = true) (k : Ok SX Sh' d M n L st (Sh.set r (ci, N, rs.set j o)) μ x) : Ok SX Sh' d M pc L (rv o :: .ref r :: st) Sh μ x := by
  subst hp; subst ho
  obtain ⟨f1, f2, f3⟩ := fl
  obtain ⟨k1, k2, ⟨ty0, k3⟩, k4⟩ := kc ci f1
  refine Ok.put (Sh2 := Sh.set r (ci, N, rs.set j o)) (by simp [csz]) (ssz_set _ _ _ _ hS rfl) (fun {_ _ _ _ _ _ _ _ _ _ _ _ _ _ _ _ σ _ _} C hP hD hS0 _ kk => ?_) k
  have e := rv_av σ o
  rw [List.map_cons, List.map_cons, e]
  refine va_putF (ty := ty) C.1 C.2.1 C.2.2.2.2.1 k2 ty0 k3 k4 C.2.2.2.1 C.2.2.2.2.2.1 hP hD hS0 r (fs := (List.range N).map (fld σ μ r (ci, N, rs))) ((wd_at hS).trans (by rw [ent_obj (e := (ci, N, rs)) (show ci < 100 by omega)])) k1 j f2 (C.2.2.2.2.1 _ f3) (fun _ h => h) hfin (C.2.2.2.2.2.2.1 hinit) hown hty (hn _) (hf _) (by simpa using hj) hd (fun H1 locs1 g1 g2 g3 => ?_)
  rw [wd_setRo hS (by omega) hr hj hjl] at g1 g2
  exact kk H1 locs1 g1 g2 g3
theorem wR_ok {o : Option Nat} {h1 : DS} (hl : lk h) (hy : wR h r ci j o = some h1) : lk h1 ∧ csz h1.2.1 = csz h.2.1 ∧ ssz h1.2.1 = ssz h.2.1 ∧ ∃ N rs, h.2.1[r]? = some (ci, N, rs) ∧ j < N ∧ j < rs.length ∧ isR ci j = true ∧ h1 = (h.1, h.2.1.set r (ci, N, rs.set j o), h.2.2) := by
  obtain ⟨e, e1, e2, e3, e4, e5, e6, e7, rfl⟩ := wR_some hy
  refine ⟨lk_set hl e5 (fun k q hq => ?_), by simp [csz], ssz_set _ _ _ _ e1 rfl, e.2.1, e.2.2, by rw [e1, ← e2], e3, e6, e4, rfl⟩
  rcases getD_set_some hq with z | z
  · exact e7 q z
  · exact hl.2.2.1 _ _ e1 k q z
theorem dk_putR (n : Nat) {ty : FieldType} {o : Option Nat} {f : DS → DA} (hd : decode M.1 pc = .ok (.putfield idx, 3)) (hp : pc + 3 = n) (ho : M.2.1.cls = own) (fl : FL own idx ci j) (hfin : ((vwC ci).2.1 j).2.2.2 = false) (hty : parseFieldDescriptor ((vwC ci).2.1 j).2.2.1 = some ty) (hn : ∀ q, narrow ty (va_rf q) = va_rf q) (hf : ∀ q, fits ty (va_rf q) = true) (k : ∀ h1, wR h r ci j o = some h1 → DOk SX d M n L st h1 (f h1)) : DOk SX d M pc L (rv o :: .ref r :: st) h (bo (wR h r ci j o) f) :=
  DOk.wr (fun h1 hy hl _ => by
    obtain ⟨g1, g2, g3, N, rs, e1, e2, e3, e4, rfl⟩ := wR_ok hl hy
    exact ⟨g1, g2, g3, fun q => ok_putRo n hd hp ho fl e1 e2 e3 e4 hfin hty hn hf q⟩) (fun _ q => oR_2 q) k
theorem dk_putRF (n : Nat) {ty : FieldType} {o : Option Nat} {f : DS → DA} (hd : decode M.1 pc = .ok (.putfield idx, 3)) (hp : pc + 3 = n) (ho : M.2.1.cls = own) (hown : ((vwC ci).2.1 j).1 = own) (hinit : M.2.1.name = "<init>") (fl : FL own idx ci j) (hfin : ((vwC ci).2.1 j).2.2.2 = true) (hty : parseFieldDescriptor ((vwC ci).2.1 j).2.2.1 = some ty) (hn : ∀ q, narrow ty (va_rf q) = va_rf q) (hf : ∀ q, fits ty (va_rf q) = true) (k : ∀ h1, wR h r ci j o = some h1 → DOk SX d M n L st h1 (f h1)) : DOk SX d M pc L (rv o :: .ref r :: st) h (bo (wR h r ci j o) f) :=
  DOk.wr (fun h1 hy hl _ => by
    obtain ⟨g1, g2, g3, N, rs, e1, e2, e3, e4, rfl⟩ := wR_ok hl hy
    exact ⟨g1, g2, g3, fun q => ok_putFRo n hd hp ho hown hinit fl e1 e2 e3 e4 hfin hty hn hf q⟩) (fun _ q => oR_2 q) k
theorem nr_a {t : FieldType} (q : Option Nat) : narrow (.array t) (va_rf q) = va_rf q := by cases q <;> rfl
theorem ft_a {t : FieldType} (q : Option Nat) : fits (.array t) (va_rf q) = true := by cases q <;> rfl
/-! arrays written -/
def sA (h : DS) (t r : Nat) (i v : Int32) : Option DS := match aN h t r with
  | some n => if inb i n = true ∧ 123 ≤ r then some (h.1, h.2.1, mset h.2.2 r i.toNatClampNeg v) else none
  | none => none
theorem sA_some {t : Nat} {v : Int32} {h1 : DS} (q : sA h t r i v = some h1) : ∃ n rs, h.2.1[r]? = some (t, n, rs) ∧ inb i n = true ∧ 123 ≤ r ∧ h1 = (h.1, h.2.1, mset h.2.2 r i.toNatClampNeg v) := by
  unfold sA at q
  split at q
  · rename_i n hn
    split at q
    · rename_i hc
      cases q
      obtain ⟨rs, hr⟩ := aN_some hn
      exact ⟨n, rs, hr, hc.1, hc.2, rfl⟩
    · cases q
  · cases q
theorem dk_iast (n : Nat) {f : DS → DA} (hd : decode M.1 pc = .ok (.iastore, 1)) (hp : pc + 1 = n) (k : ∀ h1, sA h 100 r i a = some h1 → DOk SX d M n L st h1 (f h1)) : DOk SX d M pc L (.int a :: .int i :: .ref r :: st) h (bo (sA h 100 r i a) f) :=
  DOk.wr (fun h1 hy hl _ => by
    obtain ⟨N, rs, e1, e2, e3, rfl⟩ := sA_some hy
    exact ⟨lk_mset hl e3, rfl, rfl, fun q => ok_iastc n _ hd hp e1 rfl e2 q⟩) (fun _ q => oR_t (oR_2 q)) k
theorem dk_bast (n : Nat) {f : DS → DA} (hd : decode M.1 pc = .ok (.bastore, 1)) (hp : pc + 1 = n) (k : ∀ h1, sA h 102 r i (vp_nar .byte a) = some h1 → DOk SX d M n L st h1 (f h1)) : DOk SX d M pc L (.int a :: .int i :: .ref r :: st) h (bo (sA h 102 r i (vp_nar .byte a)) f) :=
  DOk.wr (fun h1 hy hl _ => by
    obtain ⟨N, rs, e1, e2, e3, rfl⟩ := sA_some hy
    refine ⟨lk_mset hl e3, rfl, rfl, fun q => ?_⟩
    subst hp
    refine Ok.put rfl rfl (fun {_ _ _ _ _ _ _ _ _ _ _ _ _ _ _ _ σ _ _} C hP hD hS0 _ kk => ?_) q
    refine va_bast C.1 C.2.1 C.2.2.2.2.2.1 hP hD hS0 r 2 (wd_atA (Or.inr rfl) e1) rfl (inb_in e2) hd (fun H1 locs1 g1 g2 g3 => ?_)
    rw [wd_setAT (Or.inr rfl) e1] at g1 g2
    exact kk H1 locs1 g1 g2 g3) (fun _ q => oR_t (oR_2 q)) k
def elT (t : Nat) : Nat := if t = 103 then 100 else 12
def sQ (h : DS) (t r : Nat) (i : Int32) (v : Nat) : Option DS := match h.2.1[r]?, h.2.1[v]? with
  | some e, some e1 => if (e.1 = t ∧ inb i e.2.1 = true ∧ 123 ≤ r) ∧ (i.toNatClampNeg < e.2.2.length ∧ e1.1 = elT t) then some (h.1, h.2.1.set r (t, e.2.1, e.2.2.set i.toNatClampNeg (some v)), h.2.2) else none
  | _, _ => none
theorem sQ_some {t v : Nat} {h1 : DS} (q : sQ h t r i v = some h1) : ∃ n rs e1, h.2.1[r]? = some (t, n, rs) ∧ h.2.1[v]? = some e1 ∧ e1.1 = elT t ∧ inb i n = true ∧ 123 ≤ r ∧ i.toNatClampNeg < rs.length ∧ h1 = (h.1, h.2.1.set r (t, n, rs.set i.toNatClampNeg (some v)), h.2.2) := by
  unfold sQ at q
  split at q
  · rename_i e e1 he he1
    split at q
    · rename_i hc
      cases q
      exact ⟨e.2.1, e.2.2, e1, by rw [he, ← hc.1.1], he1, hc.2.2, hc.1.2.1, hc.1.2.2, hc.2.1, rfl⟩
    · cases q
  · cases q
end DYN2
