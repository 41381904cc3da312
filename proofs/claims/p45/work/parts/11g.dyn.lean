section DYN6
variable {SX : SXT} {d : Nat} {M M' : MD} {pc : Nat} {L : List (Option Value)} {st st0 : List Value} {h : DS} {x x1 x2 y : DA} {a b i : Int32} {r r2 : Nat} {w w2 : Value} {own : String} {idx ci j np : Nat}
/-! texts: the law's own, and those that it makes -/
def isLw (r : Nat) : Prop := 1000200 ≤ r ∧ r < 1000200 + lwN
def isLb (r : Nat) : Prop := 1000300 ≤ r ∧ r < 1000300 + lwN
def strB (h : DS) (r : Nat) : Bool := if r < 1000000 then isT h 14 r else decide (1000200 ≤ r ∧ r < 1000200 + lwN)
def bV (h : DS) (r : Nat) : Option Nat := if r < 1000000 then nn (dR h r 14 0) else if 1000200 ≤ r ∧ r < 1000200 + lwN then some (r + 100) else none
def bC (h : DS) (r : Nat) : Option Int32 := if r < 1000000 then dI h r 14 1 else if 1000200 ≤ r ∧ r < 1000200 + lwN then some 0 else none
def bN (h : DS) (b : Nat) : Option Nat := if b < 1000000 then aN h 102 b else if 1000300 ≤ b ∧ b < 1000300 + lwN then some (lwLen.getD (b - 1000300) 0) else none
def bF (h : DS) (b : Nat) : Nat → Int32 := if b < 1000000 then h.2.2 b else fun j => (lwByt.getD (b - 1000300) []).getD j 0
def bG (h : DS) (b : Nat) (i : Int32) : Option Int32 := match bN h b with
  | some n => if inb i n = true then some (bF h b i.toNatClampNeg) else none
  | none => none
theorem lw_of {r : Nat} (hr : 1000200 ≤ r ∧ r < 1000200 + lwN) : ∃ k, k < lwN ∧ r = 1000200 + k := ⟨r - 1000200, by omega, by omega⟩
theorem lb_of {r : Nat} (hr : 1000300 ≤ r ∧ r < 1000300 + lwN) : ∃ k, k < lwN ∧ r = 1000300 + k := ⟨r - 1000300, by omega, by omega⟩
theorem dk_getSV (n : Nat) {f : Nat → DA} (hd : decode M.1 pc = .ok (.getfield idx, 3)) (hp : pc + 3 = n) (ho : M.2.1.cls = own) (fl : FL own idx 14 0) (k : ∀ q, bV h r = some q → DOk SX d M n L (.ref q :: st) h (f q)) : DOk SX d M pc L (.ref r :: st) h (bo (bV h r) f) := by
  by_cases hr : r < 1000000
  · have e : bV h r = nn (dR h r 14 0) := if_pos hr
    rw [e] at k ⊢
    exact dk_getR n hd hp ho fl k
  · by_cases hl : 1000200 ≤ r ∧ r < 1000200 + lwN
    · have e : bV h r = some (r + 100) := by unfold bV; rw [if_neg hr, if_pos hl]
      rw [e] at k ⊢
      refine DOk.go1 (fun q => ?_) (fun _ q => oR_r (Or.inr (by omega)) (oR_t q)) (k _ rfl)
      subst hp; subst ho
      obtain ⟨k0, hk, rfl⟩ := lw_of hl
      refine Ok.goZ (fun {_ _ _ _ _ _ _ _ _ _ _ _ _ _ _ _ σ _ _} C Z hS k1 => ?_) q
      refine vk_getf C.1 C.2.1 (Z.1.2.2.2.1.1 k0 hk).2.2.1 hS C.2.2.2.1 (C.2.2.2.2.1 _ fl.2.2) (fun _ h => h) hd ?_
      have e : (fun i => σ (1000300 + i)) k0 = σ (1000200 + k0 + 100) := by
        show σ (1000300 + k0) = _
        congr 1; omega
      rw [e]
      exact k1
    · have e : bV h r = none := by unfold bV; rw [if_neg hr, if_neg hl]
      rw [e]; exact DOk.nil
theorem dk_getSC (n : Nat) {f : Int32 → DA} (hd : decode M.1 pc = .ok (.getfield idx, 3)) (hp : pc + 3 = n) (ho : M.2.1.cls = own) (fl : FL own idx 14 1) (k : ∀ q, bC h r = some q → DOk SX d M n L (.int q :: st) h (f q)) : DOk SX d M pc L (.ref r :: st) h (bo (bC h r) f) := by
  by_cases hr : r < 1000000
  · have e : bC h r = dI h r 14 1 := if_pos hr
    rw [e] at k ⊢
    exact dk_getI n hd hp ho fl k
  · by_cases hl : 1000200 ≤ r ∧ r < 1000200 + lwN
    · have e : bC h r = some 0 := by unfold bC; rw [if_neg hr, if_pos hl]
      rw [e] at k ⊢
      refine DOk.go1 (fun q => ?_) (fun _ q => oR_i (oR_t q)) (k _ rfl)
      subst hp; subst ho
      obtain ⟨k0, hk, rfl⟩ := lw_of hl
      refine Ok.goZ (fun {_ _ _ _ _ _ _ _ _ _ _ _ _ _ _ _ σ _ _} C Z hS k1 => ?_) q
      exact vk_getf C.1 C.2.1 (Z.1.2.2.2.1.1 k0 hk).2.1 hS C.2.2.2.1 (C.2.2.2.2.1 _ fl.2.2) (fun _ h => h) hd k1
    · have e : bC h r = none := by unfold bC; rw [if_neg hr, if_neg hl]
      rw [e]; exact DOk.nil
theorem dk_blen (n : Nat) {f : Nat → DA} (hd : decode M.1 pc = .ok (.arraylength, 1)) (hp : pc + 1 = n) (k : ∀ c, bN h r = some c → DOk SX d M n L (.int (Int32.ofNat c) :: st) h (f c)) : DOk SX d M pc L (.ref r :: st) h (bo (bN h r) f) := by
  by_cases hr : r < 1000000
  · have e : bN h r = aN h 102 r := if_pos hr
    rw [e] at k ⊢
    exact dk_alen 102 n (Or.inr (Or.inl rfl)) hd hp k
  · by_cases hl : 1000300 ≤ r ∧ r < 1000300 + lwN
    · have e : bN h r = some (lwLen.getD (r - 1000300) 0) := by unfold bN; rw [if_neg hr, if_pos hl]
      rw [e] at k ⊢
      refine DOk.go1 (fun q => ?_) (fun _ q => oR_i (oR_t q)) (k _ rfl)
      subst hp
      obtain ⟨k0, hk, rfl⟩ := lb_of hl
      rw [Nat.add_sub_cancel_left] at q
      refine Ok.goZ (fun {_ _ _ _ _ _ _ _ _ _ _ _ _ _ _ _ σ _ _} C Z hS k1 => ?_) q
      exact va_tlen C.1 C.2.1 (Z.1.2.2.2.1.1 k0 hk).2.2.2 hS rfl hd k1
    · have e : bN h r = none := by unfold bN; rw [if_neg hr, if_neg hl]
      rw [e]; exact DOk.nil
theorem dk_bald (n : Nat) {f : Int32 → DA} (hd : decode M.1 pc = .ok (.baload, 1)) (hp : pc + 1 = n) (k : ∀ a, bG h r i = some a → DOk SX d M n L (.int a :: st) h (f a)) : DOk SX d M pc L (.int i :: .ref r :: st) h (bo (bG h r i) f) := by
  by_cases hr : r < 1000000
  · have e : bG h r i = lA h 102 r i := by
      unfold bG bN bF lA
      rw [if_pos hr, if_pos hr]
      cases aN h 102 r <;> rfl
    rw [e] at k ⊢
    refine DOk.rd (st' := fun a => .int a :: st) (fun a hy _ {_ _} q => ?_) (fun _ _ _ q => oR_i (oR_2 q)) k
    obtain ⟨N, rs, h1, h2, rfl⟩ := lA_some hy
    subst hp
    refine Ok.go (fun {_ _ _ _ _ _ _ _ _ _ _ _ _ _ _ D σ _} C hP _ kk => ?_) q
    exact va_bald C.1 C.2.1 C.2.2.2.2.2.1 hP r 2 (wd_atA (Or.inr rfl) h1) rfl (inb_in h2) hd kk
  · by_cases hl : 1000300 ≤ r ∧ r < 1000300 + lwN
    · have e : bN h r = some (lwLen.getD (r - 1000300) 0) := by unfold bN; rw [if_neg hr, if_pos hl]
      refine DOk.rd (st' := fun a => .int a :: st) (fun a hy _ {_ _} q => ?_) (fun _ _ _ q => oR_i (oR_2 q)) k
      unfold bG at hy
      rw [e] at hy
      simp only at hy
      split at hy
      · rename_i hin
        cases hy
        subst hp
        obtain ⟨k0, hk, rfl⟩ := lb_of hl
        rw [Nat.add_sub_cancel_left] at hin
        have ef : bF h (1000300 + k0) i.toNatClampNeg = (lwByt.getD k0 []).getD i.toNatClampNeg 0 := by
          unfold bF
          rw [if_neg hr, Nat.add_sub_cancel_left]
        rw [ef] at q
        refine Ok.goZ (fun {_ _ _ _ _ _ _ _ _ _ _ _ _ _ _ _ σ _ _} C Z hS k1 => ?_) q
        exact va_tb C.1 C.2.1 (Z.1.2.2.2.1.1 k0 hk).2.2.2 hS (inb_in hin) rfl hd k1
      · cases hy
    · have e : bG h r i = none := by unfold bG bN; rw [if_neg hr, if_neg hl]
      rw [e]; exact DOk.nil
theorem dk_getsC (n : Nat) (hd : decode M.1 pc = .ok (.getstatic idx, 3)) (hp : pc + 3 = n) (ho : M.2.1.cls = own) (hl : Cond.fieldLink own idx "java/lang/String" "COMPACT_STRINGS" "Z" ∈ TB) (k : DOk SX d M n L (.int 1 :: st) h x) : DOk SX d M pc L st h x := DOk.go1 (fun q => ok_getsC n hd hp ho hl q) (fun _ q => oR_i q) k
theorem dk_getsDT (n : Nat) (hd : decode M.1 pc = .ok (.getstatic idx, 3)) (hp : pc + 3 = n) (ho : M.2.1.cls = own) (hl : Cond.fieldLink own idx "java/lang/Integer" "DigitTens" "[B" ∈ TB) (k : DOk SX d M n L (.ref 1002002 :: st) h x) : DOk SX d M pc L st h x := DOk.go1 (fun q => by
    subst hp; subst ho
    refine Ok.goZ (fun {_ _ _ _ _ _ _ _ _ _ _ _ _ _ _ _ σ _ _} C Z hS k1 => ?_) q
    exact va_gets C.1 C.2.1 Z.1.2.2.2.2.1 hS C.2.2.2.1 (C.2.2.2.2.1 _ hl) (fun _ h => h) hd k1) (fun _ q => oR_r (Or.inr (by decide)) q) k
theorem dk_getsDO (n : Nat) (hd : decode M.1 pc = .ok (.getstatic idx, 3)) (hp : pc + 3 = n) (ho : M.2.1.cls = own) (hl : Cond.fieldLink own idx "java/lang/Integer" "DigitOnes" "[B" ∈ TB) (k : DOk SX d M n L (.ref 1002003 :: st) h x) : DOk SX d M pc L st h x := DOk.go1 (fun q => by
    subst hp; subst ho
    refine Ok.goZ (fun {_ _ _ _ _ _ _ _ _ _ _ _ _ _ _ _ σ _ _} C Z hS k1 => ?_) q
    exact va_gets C.1 C.2.1 Z.1.2.2.2.2.2.2.1 hS C.2.2.2.1 (C.2.2.2.2.1 _ hl) (fun _ h => h) hd k1) (fun _ q => oR_r (Or.inr (by decide)) q) k
theorem dk_baldDT (n : Nat) (hd : decode M.1 pc = .ok (.baload, 1)) (hp : pc + 1 = n) (k : DOk SX d M n L (.int (digT.getD i.toNatClampNeg 0) :: st) h x) : DOk SX d M pc L (.int i :: .ref 1002002 :: st) h (chk (inb i 100) x) := dk_chk fun hin => DOk.go1 (fun q => by
    subst hp
    refine Ok.goZ (fun {_ _ _ _ _ _ _ _ _ _ _ _ _ _ _ _ σ _ _} C Z hS k1 => ?_) q
    exact va_tb C.1 C.2.1 Z.1.2.2.2.2.2.1 hS (inb_in hin) rfl hd k1) (fun _ q => oR_i (oR_2 q)) k
theorem dk_baldDO (n : Nat) (hd : decode M.1 pc = .ok (.baload, 1)) (hp : pc + 1 = n) (k : DOk SX d M n L (.int (digO.getD i.toNatClampNeg 0) :: st) h x) : DOk SX d M pc L (.int i :: .ref 1002003 :: st) h (chk (inb i 100) x) := dk_chk fun hin => DOk.go1 (fun q => by
    subst hp
    refine Ok.goZ (fun {_ _ _ _ _ _ _ _ _ _ _ _ _ _ _ _ σ _ _} C Z hS k1 => ?_) q
    exact va_tb C.1 C.2.1 Z.1.2.2.2.2.2.2.2 hS (inb_in hin) rfl hd k1) (fun _ q => oR_i (oR_2 q)) k
def bP (h : DS) (src : Nat) (sp : Int32) (dst : Nat) (dp z : Int32) : Option DS := match bN h src, aN h 102 dst with
  | some n0, some n1 => if (cpyOk sp dp z n0 n1 = true ∧ 123 ≤ dst) ∧ ∀ q, q < z.toNatClampNeg → fits .byte (.int (bF h src (sp.toNatClampNeg + q))) = true then some (h.1, h.2.1, fun a j => if a = dst then va_cpy (bF h src) (h.2.2 dst) sp.toNatClampNeg dp.toNatClampNeg z.toNatClampNeg j else h.2.2 a j) else none
  | _, _ => none
theorem bP_some {src dst : Nat} {sp dp z : Int32} {h1 : DS} (q : bP h src sp dst dp z = some h1) : ∃ n0 n1 rs, bN h src = some n0 ∧ h.2.1[dst]? = some (102, n1, rs) ∧ cpyOk sp dp z n0 n1 = true ∧ 123 ≤ dst ∧ (∀ q, q < z.toNatClampNeg → fits .byte (.int (bF h src (sp.toNatClampNeg + q))) = true) ∧ h1 = (h.1, h.2.1, fun a j => if a = dst then va_cpy (bF h src) (h.2.2 dst) sp.toNatClampNeg dp.toNatClampNeg z.toNatClampNeg j else h.2.2 a j) := by
  unfold bP at q
  split at q
  · rename_i n0 n1 e0 e1
    split at q
    · rename_i hc
      cases q
      obtain ⟨rs, hr⟩ := aN_some e1
      exact ⟨n0, n1, rs, e0, hr, hc.1.1, hc.1.2, hc.2, rfl⟩
    · cases q
  · cases q
theorem wd_setB {σ : Nat → Nat} {D : va_G} {Sh : List SE} {μ : Mem} {dst N : Nat} {rs : List (Option Nat)} {F : Nat → Int32} (h : Sh[dst]? = some (102, N, rs)) : (wd σ D Sh μ).set dst (σ dst, .inl (D.1 102, N, .inl F)) = wd σ D Sh (fun a j => if a = dst then F j else μ a j) := by
  refine wd_ext fun i => ?_
  rw [List.getElem?_set]
  by_cases hi : dst = i
  · subst hi
    rw [if_pos rfl, if_pos (by rw [wd_len]; exact (List.getElem?_eq_some_iff.mp h).1), h]
    simp only [Option.map_some, ent_arrT (Or.inr rfl)]
    simp
  · rw [if_neg hi, wd_get]
    cases Sh[i]? with
    | none => rfl
    | some e =>
      simp only [Option.map_some]
      rw [ent_congr (ν := fun a j => if a = dst then F j else μ a j)]
      funext j
      rw [if_neg (fun q => hi q.symm)]
theorem dk_bcopy {src dst : Nat} {sp dp z : Int32} {f : DS → DA} (n : Nat) (hd : decode M.1 pc = .ok (.invokestatic idx, 3)) (hp : pc + 3 = n) (ho : M.2.1.cls = own) (hl : Cond.methodLink own idx arraycopyName ∈ TB) (hst : (st.map Value.category).sum ≤ 8) (k : ∀ h1, bP h src sp dst dp z = some h1 → DOk SX (d + 1) M n L st h1 (f h1)) : DOk SX (d + 1) M pc L (.int z :: .int dp :: .ref dst :: .int sp :: .ref src :: st) h (bo (bP h src sp dst dp z) f) :=
  DOk.wr (fun h1 hy hlk _ => by
    obtain ⟨n0, n1, rs, e0, e1, e2, e3, e4, rfl⟩ := bP_some hy
    refine ⟨⟨fun k hk => ?_, hlk.2.1, hlk.2.2.1, hlk.2.2.2⟩, rfl, rfl, fun {Sh' x'} q => ?_⟩
    · show (fun j => if k = dst then _ else h.2.2 k j) = h.1 k
      funext j
      rw [if_neg (by omega)]
      exact congrFun (hlk.1 k hk) j
    subst hp; subst ho
    simp only [cpyOk, Bool.and_eq_true, decide_eq_true_eq] at e2
    obtain ⟨⟨⟨⟨c1, c2⟩, c3⟩, c4⟩, c5⟩ := e2
    intro v μ' hx p l e R s m args below meth c H locs cells slots Q D σ A mc ms ls C Z hA hR hP hD hS hL h1 h2 hQ
    obtain ⟨r1, r2, r3, r4⟩ := id hR
    have hw := C.2.2.2.2.1
    have h8 := st8 (σ := σ) hst
    have hnw : nativeFrameWords "java/lang/System" "arraycopy" 5 + 11 ≤ 32 := by decide
    by_cases hr : src < 1000000
    · have en : bN h src = aN h 102 src := if_pos hr
      have ef : bF h src = h.2.2 src := if_pos hr
      rw [en] at e0
      obtain ⟨rs0, hs0⟩ := aN_some e0
      rw [ef] at e4 q
      refine va_copyi (ty := .byte) C.1 C.2.1 (C.2.2.1.trans hL.1.symm) C.2.2.2.1 (hw _ hl) (hw _ nat_copy) (hw _ st_copy) (hw _ wi_java_lang_System) C.2.2.2.2.2.1 hP hD hS src dst 2 2 (wd_atA (Or.inr rfl) hs0) (wd_atA (Or.inr rfl) e1) rfl rfl rfl (Int32.not_lt.mpr c1) (Int32.not_lt.mpr c2) (Int32.not_lt.mpr c3) c4 c5 e4 (by omega) (by omega) hd (fun H1 locs1 g1 g2 g3 => ?_)
      rw [wd_setB e1] at g1 g2
      exact q v μ' hx p l e R s m args below meth c H1 locs1 cells slots Q D σ A mc ms ls C Z hA hR g1 g2 g3 hL h1 h2 hQ
    · by_cases hlb : 1000300 ≤ src ∧ src < 1000300 + lwN
      · have en : bN h src = some (lwLen.getD (src - 1000300) 0) := by unfold bN; rw [if_neg hr, if_pos hlb]
        have ef : bF h src = fun j => (lwByt.getD (src - 1000300) []).getD j 0 := if_neg hr
        rw [en] at e0
        have e9 := Option.some.inj e0
        subst e9
        rw [ef] at e4 q
        obtain ⟨k0, hk, rfl⟩ := lb_of hlb
        rw [Nat.add_sub_cancel_left] at e4 q c4
        refine vk_copyt C.1 C.2.1 (C.2.2.1.trans hL.1.symm) C.2.2.2.1 (hw _ hl) (hw _ nat_copy) (hw _ st_copy) (hw _ wi_java_lang_System) C.2.2.2.2.2.1 hP hD hS (Z.1.2.2.2.1.1 k0 hk).2.2.2 dst 2 (wd_atA (Or.inr rfl) e1) rfl (Int32.not_lt.mpr c1) (Int32.not_lt.mpr c2) (Int32.not_lt.mpr c3) c4 c5 e4 (by omega) (by omega) hd (fun H1 locs1 g1 g2 g3 => ?_)
        rw [wd_setB e1] at g1 g2
        exact q v μ' hx p l e R s m args below meth c H1 locs1 cells slots Q D σ A mc ms ls C Z hA hR g1 g2 g3 hL h1 h2 hQ
      · have en : bN h src = none := by unfold bN; rw [if_neg hr, if_neg hlb]
        rw [en] at e0; cases e0) (fun _ q => oR_t (oR_t (oR_t (oR_2 q)))) k
/-- a call on a text -/
theorem dk_callStr {As : List Value} {f : Int32 → DS → DA} (n : Nat) (hd : decode M.1 pc = .ok (.invokevirtual idx, 3)) (hp : pc + 3 = n) (ho : M.2.1.cls = own) (km : KM M' np) (ki : Cond.instanceMethod M'.2.1 ∈ TB) (kv : Cond.selects M'.2.1.cls M'.2.1 M'.2.1 ∈ TB) (hl : Cond.methodLink own idx M'.2.1 ∈ TB) (hm : M'.2.2.1 ≤ 21) (hcl : M'.2.1.cls = "java/lang/String") (hst0 : st0 = As.reverse ++ .ref r :: st) (hAs : As.length = np) (h8 : (st.map Value.category).sum ≤ 8) (hC : DCM SX d M' (.ref r :: As) h y)
    (k : ∀ v h1, y = some (v, h1) → DOk SX (d + 1) M n L (psh M' v ++ st) h1 (f v h1)) : DOk SX (d + 1) M pc L st0 h (chk (strB h r) (bd3 y f)) := by
  refine dk_chk fun hT => ?_
  subst hst0
  refine DOk.call hC (fun _ q => oR_callV q) (fun {Sh' Sh1 v1 μ1 x'} c g hn q => ?_) k
  subst ho
  refine Ok.call (y := some (_, _)) (f := fun _ _ => x') hp c g hn (fun {_ _ _ _ _ _ _ _ _ _ _ _ _ _ D σ _ _ _ _ _ _ _} C Z hP hS hL hM hbl r1 r2 hf hpre => ?_) (fun v μ1 e => by cases e; exact q)
  refine va_runV (As := As.map (av σ)) (b := σ r) (C := M'.2.1.cls) (n := np) ⟨C.1, C.2.1, C.2.2.1, C.2.2.2.1, C.2.2.2.2.1⟩ hM ⟨callB_M C.2.2.2.2.1 km hl hm ⟨r1, r2⟩, C.2.2.2.2.1 _ ki, C.2.2.2.2.1 _ kv⟩ ⟨hbl, ?_, hpre⟩ rfl (by simpa using hAs) hL.1 ?_ (lv_room (st8 h8)) hd hf
  · rw [hcl]
    unfold strB at hT
    split at hT
    · obtain ⟨e, he, hec⟩ := isT_some hT
      exact va_recv C.2.2.2.2.2.1 hP (kc 14 (by decide)).1 ((wd_at he).trans (by rw [ent_obj (show e.1 < 100 by omega), hec]))
    · obtain ⟨k0, hk, rfl⟩ := lw_of (of_decide_eq_true hT)
      exact vk_recv (i := k0) Z.1.2.2.2.1 hk hS
  · simp [av]
end DYN6
