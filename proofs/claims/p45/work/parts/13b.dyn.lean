section DYN7
variable {SX : SXT} {d : Nat} {M M' : MD} {pc : Nat} {L : List (Option Value)} {st st0 : List Value} {h : DS} {x x1 x2 y : DA} {a b i : Int32} {r r2 : Nat} {w w2 : Value} {own : String} {idx ci j np : Nat}
theorem cA_at {t : Nat} {h1 : DS} (q : cA h t r = some h1) : ∃ N, h1.2.1[h.2.1.length]? = some (t, N, []) := by
  unfold cA at q
  split at q
  · rename_i n hn
    obtain ⟨-, rfl⟩ := addC_some q
    exact ⟨n, by simp⟩
  · cases q
theorem cB_at {h1 : DS} (q : cB h r = some h1) : ∃ N, h1.2.1[h.2.1.length]? = some (102, N, []) := by
  unfold cB at q
  split at q
  · rename_i n hn
    split at q
    · obtain ⟨-, rfl⟩ := addC_some q
      exact ⟨n, by simp⟩
    · cases q
  · cases q
def ov (v : Int32) : Option Nat := if v = -1 then none else some v.toNatClampNeg
theorem dk_rr {v : Int32} {f : Nat → DA} (k : ∀ q, DOk SX d M pc L (.ref q :: st) h (f q)) : DOk SX d M pc L ((if v = -1 then Value.null else .ref v.toNatClampNeg) :: st) h (chk (decide (v ≠ -1)) (bnd v.toNatClampNeg f)) := dk_chk fun hv => by
  rw [if_neg (of_decide_eq_true hv)]
  exact k _
theorem dk_ro {v : Int32} {f : Option Nat → DA} (k : ∀ o, DOk SX d M pc L (rv o :: st) h (f o)) : DOk SX d M pc L ((if v = -1 then Value.null else .ref v.toNatClampNeg) :: st) h (bnd (ov v) f) := by
  have e : (if v = -1 then Value.null else .ref v.toNatClampNeg) = rv (ov v) := by
    unfold ov
    split <;> rfl
  rw [e]
  exact k _
/-! behind a call of the class the model's own cells (from 123 on, behind no machine) go on as its function says -/
def gst (z : Mem → Ans) (ν : Mem) : Mem := match z ν with
  | some q => fun k => if k < 123 then ν k else q.2 k
  | none => ν
theorem gst_ag {z : Mem → Ans} {ν : Mem} {k : Nat} (hk : k < 123) : gst z ν k = ν k := by
  unfold gst
  cases z ν with
  | none => rfl
  | some q => exact if_pos hk
def gs (z : Mem → Ans) (h : DS) : DS := (gst z h.1, h.2.1, h.2.2)
theorem dk_gs {z : Mem → Ans} {f : DS → DA} (k : ∀ h1, h1 = gs z h → DOk SX d M pc L st h1 (f h1)) : DOk SX d M pc L st h (bnd (gs z h) f) := by
  intro v h' hx hl hok
  exact k _ rfl v h' hx ⟨fun k hk => (hl.1 k hk).trans (gst_ag hk).symm, hl.2.1, hl.2.2.1, hl.2.2.2⟩ hok
/-- a method that another class's name names, the receiver's class its own -/
theorem dk_callO {As : List Value} {f : Int32 → DS → DA} {x0 : MethodName} (n : Nat) (hd : decode M.1 pc = .ok (.invokevirtual idx, 3)) (hp : pc + 3 = n) (ho : M.2.1.cls = own) {M0 : MD} (km0 : KM M0 np) (km : KM M' np) (ki0 : Cond.instanceMethod M0.2.1 ∈ TB) (ki : Cond.instanceMethod M'.2.1 ∈ TB) (kv : Cond.selects "java/lang/StringBuilder" x0 M'.2.1 ∈ TB) (hs : Cond.sameMethod x0.cls "java/lang/AbstractStringBuilder" x0.name x0.desc ∈ TB) (hl : Cond.methodLink own idx x0 ∈ TB) (hm : M'.2.2.1 ≤ 21) (hx0 : x0 = M0.2.1) (hxc : M0.2.1 = ⟨"java/lang/AbstractStringBuilder", x0.name, x0.desc⟩) (hdd : x0.desc = M'.2.1.desc) (hst0 : st0 = As.reverse ++ .ref r :: st) (hAs : As.length = np) (h8 : (st.map Value.category).sum ≤ 8) (hC : DCM SX d M' (.ref r :: As) h y)
    (k : ∀ v h1, y = some (v, h1) → DOk SX (d + 1) M n L (psh M' v ++ st) h1 (f v h1)) : DOk SX (d + 1) M pc L st0 h (chk (isT h 13 r) (bd3 y f)) := by
  refine dk_chk fun hT => ?_
  obtain ⟨e, he, hec⟩ := isT_some hT
  subst hst0
  refine DOk.call hC (fun _ q => oR_callV q) (fun {Sh' Sh1 v1 μ1 x'} c g hn q => ?_) k
  subst ho
  refine Ok.call (y := some (_, _)) (f := fun _ _ => x') hp c g hn (fun {_ _ _ R s _ args _ _ _ _ _ _ _ D σ _ _ mc ms _ _ _} C Z hP hS hL hM hbl r1 r2 hf hpre => ?_) (fun v μ1 e => by cases e; exact q)
  have hts := C.2.2.2.2.1
  have hcu : va_CU R s args M.2.1.cls "java/lang/StringBuilder" "java/lang/AbstractStringBuilder" idx x0 M'.2.1 M'.1 M'.2.2.1 M'.2.2.2 (cw M') (RM d mc ms) mc ms np := by
    refine va_cwO np hts (fun w hw => ?_) rfl rfl rfl (b0 := M0.1) (m0 := M0.2.2.1) (r0 := M0.2.2.2) (by rw [← hxc]; exact km0.1) ⟨by decide, by decide, by rw [hdd]; exact km.2.2.1.2.2⟩ ⟨r1, by show 8 + (M'.2.2.1 + 11) + 40 * d ≤ R.locals; omega⟩
    unfold va_wsO at hw
    rcases List.mem_append.mp hw with hw | hw
    · simp only [List.mem_cons, List.mem_nil_iff, or_false] at hw
      rcases hw with rfl | rfl | rfl | rfl | rfl | rfl
      · exact tb_good _ hl
      · exact tb_good _ hs
      · rw [← hxc]; exact tb_good _ ki0
      · exact tb_good _ kv
      · exact tb_good _ ki
      · exact tb_good _ km.2.1
    · exact cw_good km.1 w hw
  refine va_runU (As := As.map (av σ)) (b := σ r) ⟨C.1, C.2.1, C.2.2.1, C.2.2.2.1, hts⟩ hM hcu ⟨hbl, ?_, hpre⟩ rfl (by simpa using hAs) hL.1 ?_ (lv_room (st8 h8)) hd hf
  · exact va_recv C.2.2.2.2.2.1 hP (kc 13 (by decide)).1 ((wd_at he).trans (by rw [ent_obj (show e.1 < 100 by omega), hec]))
  · simp [av]
/-! fields of a nest mate -/
def FN (own : String) (idx ci j : Nat) : Prop := ci < 15 ∧ j < (vwC ci).2.2 ∧ ∃ host, (own, idx, ((vwC ci).2.1 j).1, ((vwC ci).2.1 j).2.1, ((vwC ci).2.1 j).2.2.1, host) ∈ fnestL
theorem ok_getVN {Sh' Sh : List SE} {μ : Mem} {x : Ans} {e : SE} (n : Nat) {v : Value} (hd : decode M.1 pc = .ok (.getfield idx, 3)) (hp : pc + 3 = n) (ho : M.2.1.cls = own) (fl : FN own idx ci j) (hS : Sh[r]? = some e) (he : e.1 = ci) (hj : j < e.2.1) (hv : ∀ σ, fld σ μ r e j = av σ v) (k : Ok SX Sh' d M n L (v :: st) Sh μ x) : Ok SX Sh' d M pc L (.ref r :: st) Sh μ x := by
  subst hp; subst ho; subst he
  obtain ⟨f1, f2, host, f3⟩ := fl
  obtain ⟨k1, k2, -, -⟩ := kc e.1 f1
  refine Ok.go (fun {_ _ _ _ _ _ _ _ _ _ _ _ _ _ _ _ σ _} C hP _ kk => ?_) k
  refine va_getN (host := host) C.1 C.2.1 C.2.2.2.2.1 k2 C.2.2.2.1 C.2.2.2.2.2.1 hP r (fs := (List.range e.2.1).map (fld σ μ r e)) ((wd_at hS).trans (by rw [ent_obj (by omega)])) k1 j f2 (va_Nw.use rfl (C.2.2.2.2.2.2.2.2.1.2 _ f3)) (fun _ h => h) (fs_at hj) hd ?_
  rw [hv]
  exact kk
theorem dk_getIN (n : Nat) {f : Int32 → DA} (hd : decode M.1 pc = .ok (.getfield idx, 3)) (hp : pc + 3 = n) (ho : M.2.1.cls = own) (fl : FN own idx ci j) (k : ∀ a, dI h r ci j = some a → DOk SX d M n L (.int a :: st) h (f a)) : DOk SX d M pc L (.ref r :: st) h (bo (dI h r ci j) f) :=
  DOk.rd (st' := fun a => .int a :: st) (fun a hy _ {_ _} q => by
    obtain ⟨e, h1, h2, h3, h4, rfl⟩ := dI_some hy
    exact ok_getVN n hd hp ho fl h1 h2 h3 (fun σ => by subst h2; simp [fld, h4, av]) q) (fun a _ _ q => oR_i (oR_t q)) k
theorem dk_getRN (n : Nat) {f : Nat → DA} (hd : decode M.1 pc = .ok (.getfield idx, 3)) (hp : pc + 3 = n) (ho : M.2.1.cls = own) (fl : FN own idx ci j) (k : ∀ o, nn (dR h r ci j) = some o → DOk SX d M n L (.ref o :: st) h (f o)) : DOk SX d M pc L (.ref r :: st) h (bo (nn (dR h r ci j)) f) :=
  DOk.rd (st' := fun o => .ref o :: st) (fun o hy _ {_ _} q => by
    obtain ⟨e, h1, h2, h3, h4, h5⟩ := dR_some (nn_some hy)
    exact ok_getVN (v := .ref o) n hd hp ho fl h1 h2 h3 (fun σ => by
      subst h2
      unfold fld
      rw [if_pos h4, ← h5]
      rfl) q) (fun o hy hl q => oR_r (by
    obtain ⟨e, h1, h2, h3, h4, h5⟩ := dR_some (nn_some hy)
    exact Or.inl (hl.2.2.1 _ _ h1 j o h5.symm)) (oR_t q)) k
theorem ok_putIN {Sh' Sh : List SE} {μ : Mem} {x : Ans} {e : SE} (n : Nat) {ty : FieldType} (hd : decode M.1 pc = .ok (.putfield idx, 3)) (hp : pc + 3 = n) (ho : M.2.1.cls = own) (fl : FN own idx ci j) (hS : Sh[r]? = some e) (he : e.1 = ci) (hj : j < e.2.1) (hr : isR ci j = false) (hfin : ((vwC ci).2.1 j).2.2.2 = false) (hty : parseFieldDescriptor ((vwC ci).2.1 j).2.2.1 = some ty) (hn : narrow ty (.int a) = .int a) (hf : fits ty (.int a) = true) (k : Ok SX Sh' d M n L st Sh (mset μ r j a) x) : Ok SX Sh' d M pc L (.int a :: .ref r :: st) Sh μ x := by
  subst hp; subst ho; subst he
  obtain ⟨f1, f2, host, f3⟩ := fl
  obtain ⟨k1, k2, ⟨ty0, k3⟩, k4⟩ := kc e.1 f1
  refine Ok.put rfl rfl (fun {_ _ _ _ _ _ _ _ _ _ _ _ _ _ _ _ σ _ _} C hP hD hS0 _ kk => ?_) k
  refine va_putN (host := host) (ty := ty) C.1 C.2.1 C.2.2.2.2.1 k2 ty0 k3 k4 C.2.2.2.1 C.2.2.2.2.2.1 hP hD hS0 r (fs := (List.range e.2.1).map (fld σ μ r e)) ((wd_at hS).trans (by rw [ent_obj (by omega)])) k1 j f2 (va_Nw.use rfl (C.2.2.2.2.2.2.2.2.1.2 _ f3)) (fun _ h => h) hfin hty hn hf (by simpa using hj) hd (fun H1 locs1 g1 g2 g3 => ?_)
  rw [show av σ (Value.int a) = Value.int a from rfl, wd_setI hS (by omega) hr hj] at g1 g2
  exact kk H1 locs1 g1 g2 g3
theorem dk_putIN (n : Nat) {ty : FieldType} {f : DS → DA} (hd : decode M.1 pc = .ok (.putfield idx, 3)) (hp : pc + 3 = n) (ho : M.2.1.cls = own) (fl : FN own idx ci j) (hfin : ((vwC ci).2.1 j).2.2.2 = false) (hty : parseFieldDescriptor ((vwC ci).2.1 j).2.2.1 = some ty) (hn : narrow ty (.int a) = .int a) (hf : fits ty (.int a) = true) (k : ∀ h1, wI h r ci j a = some h1 → DOk SX d M n L st h1 (f h1)) : DOk SX d M pc L (.int a :: .ref r :: st) h (bo (wI h r ci j a) f) :=
  DOk.wr (fun h1 hy hl _ => by
    obtain ⟨e, e1, e2, e3, e4, e5, rfl⟩ := wI_some hy
    exact ⟨lk_mset hl e5, rfl, rfl, fun q => ok_putIN n hd hp ho fl e1 e2 e3 e4 hfin hty hn hf q⟩) (fun _ q => oR_2 q) k
theorem ok_putRoN {Sh' Sh : List SE} {μ : Mem} {x : Ans} {N : Nat} {rs : List (Option Nat)} {o : Option Nat} (n : Nat) {ty : FieldType} (hd : decode M.1 pc = .ok (.putfield idx, 3)) (hp : pc + 3 = n) (ho : M.2.1.cls = own) (fl : FN own idx ci j) (hS : Sh[r]? = some (ci, N, rs)) (hj : j < N) (hjl : j < rs.length) (hr : isR ci j = true) (hfin : ((vwC ci).2.1 j).2.2.2 = false) (hty : parseFieldDescriptor ((vwC ci).2.1 j).2.2.1 = some ty) (hn : ∀ q, narrow ty (va_rf q) = va_rf q) (hf : ∀ q, fits ty (va_rf q) = true) (k : Ok SX Sh' d M n L st (Sh.set r (ci, N, rs.set j o)) μ x) : Ok SX Sh' d M pc L (rv o :: .ref r :: st) Sh μ x := by
  subst hp; subst ho
  obtain ⟨f1, f2, host, f3⟩ := fl
  obtain ⟨k1, k2, ⟨ty0, k3⟩, k4⟩ := kc ci f1
  refine Ok.put (Sh2 := Sh.set r (ci, N, rs.set j o)) (by simp [csz]) (ssz_set _ _ _ _ hS rfl) (fun {_ _ _ _ _ _ _ _ _ _ _ _ _ _ _ _ σ _ _} C hP hD hS0 _ kk => ?_) k
  have e := rv_av σ o
  rw [List.map_cons, List.map_cons, e]
  refine va_putN (host := host) (ty := ty) C.1 C.2.1 C.2.2.2.2.1 k2 ty0 k3 k4 C.2.2.2.1 C.2.2.2.2.2.1 hP hD hS0 r (fs := (List.range N).map (fld σ μ r (ci, N, rs))) ((wd_at hS).trans (by rw [ent_obj (e := (ci, N, rs)) (show ci < 100 by omega)])) k1 j f2 (va_Nw.use rfl (C.2.2.2.2.2.2.2.2.1.2 _ f3)) (fun _ h => h) hfin hty (hn _) (hf _) (by simpa using hj) hd (fun H1 locs1 g1 g2 g3 => ?_)
  rw [wd_setRo hS (by omega) hr hj hjl] at g1 g2
  exact kk H1 locs1 g1 g2 g3
theorem dk_putRN (n : Nat) {ty : FieldType} {o : Option Nat} {f : DS → DA} (hd : decode M.1 pc = .ok (.putfield idx, 3)) (hp : pc + 3 = n) (ho : M.2.1.cls = own) (fl : FN own idx ci j) (hfin : ((vwC ci).2.1 j).2.2.2 = false) (hty : parseFieldDescriptor ((vwC ci).2.1 j).2.2.1 = some ty) (hn : ∀ q, narrow ty (va_rf q) = va_rf q) (hf : ∀ q, fits ty (va_rf q) = true) (k : ∀ h1, wR h r ci j o = some h1 → DOk SX d M n L st h1 (f h1)) : DOk SX d M pc L (rv o :: .ref r :: st) h (bo (wR h r ci j o) f) :=
  DOk.wr (fun h1 hy hl _ => by
    obtain ⟨g1, g2, g3, N, rs, e1, e2, e3, e4, rfl⟩ := wR_ok hl hy
    exact ⟨g1, g2, g3, fun q => ok_putRoN n hd hp ho fl e1 e2 e3 e4 hfin hty hn hf q⟩) (fun _ q => oR_2 q) k
end DYN7

theorem FN_EncoresLaw_48 : FN "EncoresLaw" 48 12 10 := ⟨by decide, by decide, "EncoresLaw", List.mem_of_getElem? (i := 0) rfl⟩
theorem FN_EncoresLaw_54 : FN "EncoresLaw" 54 12 11 := ⟨by decide, by decide, "EncoresLaw", List.mem_of_getElem? (i := 1) rfl⟩
theorem FN_EncoresLaw_56 : FN "EncoresLaw" 56 12 12 := ⟨by decide, by decide, "EncoresLaw", List.mem_of_getElem? (i := 2) rfl⟩
theorem FN_EncoresLaw_59 : FN "EncoresLaw" 59 12 13 := ⟨by decide, by decide, "EncoresLaw", List.mem_of_getElem? (i := 3) rfl⟩
theorem FN_EncoresLaw_62 : FN "EncoresLaw" 62 12 7 := ⟨by decide, by decide, "EncoresLaw", List.mem_of_getElem? (i := 4) rfl⟩
theorem FN_EncoresLaw_65 : FN "EncoresLaw" 65 12 2 := ⟨by decide, by decide, "EncoresLaw", List.mem_of_getElem? (i := 5) rfl⟩
theorem FN_EncoresLaw_91 : FN "EncoresLaw" 91 12 18 := ⟨by decide, by decide, "EncoresLaw", List.mem_of_getElem? (i := 6) rfl⟩
theorem FN_EncoresLaw_103 : FN "EncoresLaw" 103 12 8 := ⟨by decide, by decide, "EncoresLaw", List.mem_of_getElem? (i := 7) rfl⟩
theorem FN_EncoresLaw_106 : FN "EncoresLaw" 106 12 19 := ⟨by decide, by decide, "EncoresLaw", List.mem_of_getElem? (i := 8) rfl⟩
theorem FN_EncoresLaw_113 : FN "EncoresLaw" 113 12 20 := ⟨by decide, by decide, "EncoresLaw", List.mem_of_getElem? (i := 9) rfl⟩
theorem FN_EncoresLaw_116 : FN "EncoresLaw" 116 12 14 := ⟨by decide, by decide, "EncoresLaw", List.mem_of_getElem? (i := 10) rfl⟩
theorem FN_EncoresLaw_128 : FN "EncoresLaw" 128 12 21 := ⟨by decide, by decide, "EncoresLaw", List.mem_of_getElem? (i := 11) rfl⟩
theorem FN_EncoresLaw_147 : FN "EncoresLaw" 147 12 15 := ⟨by decide, by decide, "EncoresLaw", List.mem_of_getElem? (i := 12) rfl⟩
theorem FN_EncoresLaw_153 : FN "EncoresLaw" 153 12 16 := ⟨by decide, by decide, "EncoresLaw", List.mem_of_getElem? (i := 13) rfl⟩
theorem FN_EncoresLaw_158 : FN "EncoresLaw" 158 12 6 := ⟨by decide, by decide, "EncoresLaw", List.mem_of_getElem? (i := 14) rfl⟩
theorem FN_EncoresLaw_169 : FN "EncoresLaw" 169 12 0 := ⟨by decide, by decide, "EncoresLaw", List.mem_of_getElem? (i := 15) rfl⟩
theorem FN_EncoresLaw_194 : FN "EncoresLaw" 194 12 1 := ⟨by decide, by decide, "EncoresLaw", List.mem_of_getElem? (i := 16) rfl⟩
theorem FN_EncoresLaw_204 : FN "EncoresLaw" 204 12 3 := ⟨by decide, by decide, "EncoresLaw", List.mem_of_getElem? (i := 17) rfl⟩
