section DYN5
variable {SX : SXT} {d : Nat} {M M' : MD} {pc : Nat} {L : List (Option Value)} {st st0 : List Value} {h : DS} {x x1 x2 : DA} {a b i : Int32} {r r2 : Nat} {w w2 : Value} {own : String} {idx ci j np : Nat} {f : Int32 → DS → DA}
/-! a call of the class: its cells are cut out, the law's stay -/
def pat (h : DS) (ν : Mem) : DS := (ν, h.2.1, fun k => if k < 123 then ν k else h.2.2 k)
def bdX (y : Ans) (h : DS) (k : Int32 → DS → DA) : DA := match y with
  | none => none
  | some q => k q.1 (pat h q.2)
theorem lk_pat (hl : lk h) {ν : Mem} : lk (pat h ν) := ⟨fun k hk => if_pos hk, hl.2.1, hl.2.2.1, hl.2.2.2⟩
theorem wd_pre {σ : Nat → Nat} {D : va_G} (hl : lk h) {k : Nat} {q : Nat × va_E} (hk : (wd σ D SG h.1)[k]? = some q) : k < 123 ∧ (wd σ D h.2.1 h.2.2)[k]? = some q := by
  have h1 : k < 123 := by
    have := (List.getElem?_eq_some_iff.mp hk).1
    rw [wd_len] at this
    have h2 : SG.length = 123 := by decide +kernel
    omega
  refine ⟨h1, ?_⟩
  rw [wd_get] at hk ⊢
  rw [hl.2.1 k h1]
  cases hs : SG[k]? with
  | none => rw [hs] at hk; cases hk
  | some e =>
    rw [hs] at hk
    simp only [Option.map_some] at hk ⊢
    rw [ent_congr (hl.1 k h1)]
    exact hk
theorem dk_callX {As : List Value} {y : Ans} {n : Nat} (hp : pc + 3 = n) (hC : CM SX d M' SG SG As h.1 y) (hAs : ∀ m, okR m L st0 → okR m L st) (hA0 : ∀ k, Value.ref k ∈ As → k < 123)
    (g : ∀ {p : Program} {l : Launch} {e : Env} {R : Room} {s : State} {m : MethodId} {args : Array Value} {below : List Frame} {meth : Method} {c : Code} {H : Heap} {locs : List Loc} {cells slots : Nat} {D : va_G} {σ : Nat → Nat} {A : Nat → Prop} {ls : Array Slot} {mc ms : Nat} {Pc : Array Value → State → Prop} {Qc : Array Value → State → Outcome → State → Prop} {free : Addr → Prop},
      Ctx M p s m args meth c D σ → Zs SX σ A s s.heap → va_P D vwCl (wd σ D h.2.1 h.2.2) H → va_S A s.heap H locs → lvR σ ls M.2.2.1 L → Met l M'.2.1 (cw M') (RM d mc ms) Pc Qc mc ms free → FrameBlind Pc → d + 1 ≤ R.frames → 40 * (d + 1) ≤ R.locals → cells + mc ≤ R.cells ∧ slots + ms ≤ R.slots → (∀ U : State, U.heap = H → s.WarmedH U.vm → Pc (As.map (av σ)).toArray U) →
      va_Run p l e R s m args below meth c H locs cells slots mc ms (F0 m pc ls (st0.map (av σ))) (st.map (av σ)) (Qc (As.map (av σ)).toArray) free)
    (hpr : ∀ ty, M'.2.2.2 = some ty → prT ty)
    (k : ∀ v ν, y = some (v, ν) → DOk SX (d + 1) M n L (psh M' v ++ st) (pat h ν) (f v (pat h ν))) : DOk SX (d + 1) M pc L st0 h (bdX y h f) := by
  intro v h' hx hl hok
  cases hy : y with
  | none => rw [hy] at hx; cases hx
  | some q =>
  obtain ⟨v1, ν⟩ := q
  rw [hy] at hx
  have hok1 : okR (csz (pat h ν).2.1) L (psh M' v1 ++ st) := by
    have b3 : okR (csz (pat h ν).2.1) L st := hAs _ hok
    unfold psh
    split
    · exact b3
    · rename_i nm he
      exact absurd rfl ((hpr _ he).1 nm)
    · rename_i nm he
      exact absurd rfl ((hpr _ he).2 nm)
    · exact oR_i b3
  obtain ⟨a1, a2, a3, a4⟩ := k v1 ν hy v h' hx (lk_pat hl) hok1
  refine ⟨a1, a2, a3, ?_⟩
  subst hp
  intro v0 μ' hv0 p l e R s m args below meth c H locs cells slots Q D σ A mc ms ls C Z hA hR hP hD hS hL h1 h2 hQ
  cases hv0
  obtain ⟨r1, r2, r3, r4⟩ := id hR
  have a2' : csz h.2.1 ≤ csz h'.2.1 ∧ ssz h.2.1 ≤ ssz h'.2.1 := a2
  obtain ⟨-, -, hM⟩ := hC v1 ν hy
  have hM := hM l D σ H.size
  have hPc : va_P D vwCl (wd σ D SG h.1) H := fun k q hk => hP k q (wd_pre hl hk).2
  have hAA : ∀ q, va_A (wd σ D SG h.1) H.size q → A q := by
    intro q hq
    rcases hq with ⟨k, e, hk⟩ | hq
    · exact hD.2 k _ (wd_pre hl hk).2
    · exact hA q (Nat.le_trans hS.1 hq)
  have hpre : ∀ U : State, U.heap = H → s.WarmedH U.vm → va_Pc (As.map (av σ)) (PreU SX D σ SG h.1 H.size) (As.map (av σ)).toArray U := by
    intro U hU hW
    refine ⟨rfl, by rw [hU], by rw [hU]; exact hPc, va_K.moved hW.alike C.2.2.2.2.2.1, ⟨fun i j p q hi hj e => hD.1 i j p q (wd_pre hl hi).2 (wd_pre hl hj).2 e, fun _ _ _ => trivial⟩, ?_, C.2.2.2.2.2.2.2.1.warm hW, C.2.2.2.2.2.2.2.2.warm hW⟩
    rw [hU]
    exact ((Z.kept hS.2.1).moved hW.alike).narrow hAA
  rw [Nat.sub_self, Nat.sub_self] at hM
  have hrun := g (ls := ls) (locs := locs) (cells := cells) (slots := slots) (e := e) (p := p) (l := l) (R := R) (below := below) (A := A) C Z hP hS hL hM PreU.blind (by omega) (by omega) (by omega) hpre
  intro T hT X
  obtain ⟨v2, st₀, t, T', LL, e0, X', hLL, e1, e2, ⟨σ1, ha, ho, hP1, hD1, hF1, hF2⟩, hst⟩ := hrun T hT X
  cases ho
  rw [e0] at hF1 hF2
  have es : σ1 = σ := ha.2 rfl
  subst es
  have hS1 : va_S A s.heap T'.heap (locs ++ LL) := by
    refine ⟨Nat.le_trans hS.1 (by rw [e1]; exact hF1), fun q h1 h2 => ?_, fun q hq => ?_⟩
    · rw [e1, hF2 q (Nat.lt_of_lt_of_le h1 hS.1) (fun z => h2 (hAA q z))]
      exact hS.2.1 q h1 h2
    · rcases List.mem_append.mp hq with h | h
      · exact hS.2.2 q h
      · exact hAA _ (hLL q h)
  have hwd : ∀ (k : Nat) (q : Nat × va_E), (wd σ1 D h.2.1 (pat h ν).2.2)[k]? = some q → (k < 123 ∧ (wd σ1 D SG ν)[k]? = some q) ∨ (123 ≤ k ∧ (wd σ1 D h.2.1 h.2.2)[k]? = some q) := by
    intro k q hk
    rw [wd_get] at hk
    by_cases hk1 : k < 123
    · refine Or.inl ⟨hk1, ?_⟩
      rw [wd_get, ← hl.2.1 k hk1]
      cases hs : h.2.1[k]? with
      | none => rw [hs] at hk; cases hk
      | some e =>
        rw [hs] at hk
        simp only [Option.map_some] at hk ⊢
        rw [ent_congr (show ν k = (pat h ν).2.2 k from (if_pos hk1).symm)]
        exact hk
    · refine Or.inr ⟨by omega, ?_⟩
      rw [wd_get]
      cases hs : h.2.1[k]? with
      | none => rw [hs] at hk; cases hk
      | some e =>
        rw [hs] at hk
        simp only [Option.map_some] at hk ⊢
        rw [ent_congr (show h.2.2 k = (pat h ν).2.2 k from (if_neg hk1).symm)]
        exact hk
  have hadr : ∀ (k : Nat) (q : Nat × va_E), (wd σ1 D h.2.1 (pat h ν).2.2)[k]? = some q → ∃ e, (wd σ1 D h.2.1 h.2.2)[k]? = some (q.1, e) := by
    intro k q hk
    rw [wd_get] at hk ⊢
    cases hs : h.2.1[k]? with
    | none => rw [hs] at hk; cases hk
    | some e =>
      rw [hs] at hk
      simp only [Option.map_some] at hk ⊢
      cases hk
      exact ⟨_, rfl⟩
  have hP2 : va_P D vwCl (wd σ1 D h.2.1 (pat h ν).2.2) T'.heap := by
    intro k q hk
    rcases hwd k q hk with ⟨k1, k2⟩ | ⟨k1, k2⟩
    · rw [e1]; exact hP1 k q k2
    · have hq := hP k q k2
      refine hq.kept ?_
      rw [e1]
      refine hF2 q.1 hq.lt (fun z => ?_)
      rcases z with ⟨k3, e3, h3⟩ | h3
      · have := hD.1 k k3 q (q.1, e3) k2 (wd_pre hl h3).2 rfl
        have := (wd_pre hl h3).1
        omega
      · have := hq.lt
        omega
  have hD2 : va_D A (wd σ1 D h.2.1 (pat h ν).2.2) := by
    refine ⟨fun i j p q hi hj e => ?_, fun k q hk => ?_⟩
    · obtain ⟨ei, hi'⟩ := hadr i p hi
      obtain ⟨ej, hj'⟩ := hadr j q hj
      exact hD.1 i j _ _ hi' hj' e
    · obtain ⟨ek, hk'⟩ := hadr k q hk
      exact hD.2 k (q.1, ek) hk'
  have hk := a4 v h'.2.2 rfl p l e R s m args below meth c T'.heap (locs ++ LL) cells slots Q D σ1 A mc ms ls C Z hA hR hP2 hD2 hS1 hL h1 h2 hQ
  obtain ⟨t2, b1, b2⟩ := hk T' rfl X'
  refine ⟨t2, hst t2 ?_, b2⟩
  rw [List.map_append, ← rvO_psh] at b1
  exact b1
theorem dk_callXV {As : List Value} {y : Ans} (n : Nat) (hd : decode M.1 pc = .ok (.invokevirtual idx, 3)) (hp : pc + 3 = n) (ho : M.2.1.cls = own) (km : KM M' np) (ki : Cond.instanceMethod M'.2.1 ∈ TB) (kv : Cond.selects M'.2.1.cls M'.2.1 M'.2.1 ∈ TB) (hl : Cond.methodLink own idx M'.2.1 ∈ TB) (hm : M'.2.2.1 ≤ 21) (hcl : M'.2.1.cls = "Encores") (hst0 : st0 = As.reverse ++ .ref 0 :: st) (hAs : As.length = np) (hpv : ∀ k, Value.ref k ∉ As) (h8 : (st.map Value.category).sum ≤ 8) (hC : CM SX d M' SG SG (.ref 0 :: As) h.1 y) (hpr : ∀ ty, M'.2.2.2 = some ty → prT ty)
    (k : ∀ v ν, y = some (v, ν) → DOk SX (d + 1) M n L (psh M' v ++ st) (pat h ν) (f v (pat h ν))) : DOk SX (d + 1) M pc L st0 h (chk (isT h 11 0) (bdX y h f)) := by
  refine dk_chk fun hT => ?_
  obtain ⟨e, he, hec⟩ := isT_some hT
  subst hst0; subst ho
  refine dk_callX hp hC (fun _ q => oR_t (oR_ap q)) (fun k hk => ?_) (fun {_ _ _ _ _ _ _ _ _ _ _ _ _ _ D σ _ _ _ _ _ _ _} C Z hP hS hL hM hbl r1 r2 hf hpre => ?_) hpr k
  · rcases List.mem_cons.mp hk with e | e
    · cases e; decide
    · exact absurd e (hpv k)
  refine va_runV (As := As.map (av σ)) (b := σ 0) (C := M'.2.1.cls) (n := np) ⟨C.1, C.2.1, C.2.2.1, C.2.2.2.1, C.2.2.2.2.1⟩ hM ⟨callB_M C.2.2.2.2.1 km hl hm ⟨r1, r2⟩, C.2.2.2.2.1 _ ki, C.2.2.2.2.1 _ kv⟩ ⟨hbl, ?_, hpre⟩ rfl (by simpa using hAs) hL.1 ?_ (lv_room (st8 h8)) hd hf
  · rw [hcl]
    exact va_recv C.2.2.2.2.2.1 hP (kc 11 (by decide)).1 ((wd_at he).trans (by rw [ent_obj (show e.1 < 100 by omega), hec]))
  · simp [av]
theorem dk_callXS {As : List Value} {y : Ans} (n : Nat) (hd : decode M.1 pc = .ok (.invokestatic idx, 3)) (hp : pc + 3 = n) (ho : M.2.1.cls = own) (km : KM M' np) (ks : Cond.static M'.2.1 ∈ TB) (hl : Cond.methodLink own idx M'.2.1 ∈ TB) (hm : M'.2.2.1 ≤ 21) (hst0 : st0 = As.reverse ++ st) (hAs : As.length = np) (hpv : ∀ k, Value.ref k ∉ As) (h8 : (st.map Value.category).sum ≤ 8) (hC : CM SX d M' SG SG As h.1 y) (hpr : ∀ ty, M'.2.2.2 = some ty → prT ty)
    (k : ∀ v ν, y = some (v, ν) → DOk SX (d + 1) M n L (psh M' v ++ st) (pat h ν) (f v (pat h ν))) : DOk SX (d + 1) M pc L st0 h (bdX y h f) := by
  subst hst0; subst ho
  refine dk_callX hp hC (fun _ q => oR_ap q) (fun k hk => absurd hk (hpv k)) (fun {_ _ _ _ _ _ _ _ _ _ _ _ _ _ D σ _ _ _ _ _ _ _} C Z hP hS hL hM hbl r1 r2 hf hpre => ?_) hpr k
  refine va_runS (As := As.map (av σ)) (n := np) ⟨C.1, C.2.1, C.2.2.1, C.2.2.2.1, C.2.2.2.2.1⟩ hM ⟨callB_M C.2.2.2.2.1 km hl hm ⟨r1, r2⟩, C.2.2.2.2.1 _ ks⟩ ⟨hbl, hpre⟩ rfl (by simpa using hAs) hL.1 ?_ (lv_room (st8 h8)) hd hf
  simp
/-! Math -/
theorem dk_max (n : Nat) (hd : decode M.1 pc = .ok (.invokestatic idx, 3)) (hp : pc + 3 = n) (ho : M.2.1.cls = own) (hl : Cond.methodLink own idx Lib.Math.max.name ∈ TB) (hst : (st.map Value.category).sum ≤ 8) (k : DOk SX (d + 1) M n L (.int (if a < b then b else a) :: st) h x) : DOk SX (d + 1) M pc L (.int b :: .int a :: st) h x := by
  intro v h' hx hlk hok
  obtain ⟨a1, a2, a3, a4⟩ := k v h' hx hlk (oR_i (oR_2 hok))
  exact ⟨a1, a2, a3, ok_max n a2 hd hp ho hl hst a4⟩
theorem dk_min (n : Nat) (hd : decode M.1 pc = .ok (.invokestatic idx, 3)) (hp : pc + 3 = n) (ho : M.2.1.cls = own) (hl : Cond.methodLink own idx Lib.Math.min.name ∈ TB) (hst : (st.map Value.category).sum ≤ 8) (k : DOk SX (d + 1) M n L (.int (if b < a then b else a) :: st) h x) : DOk SX (d + 1) M pc L (.int b :: .int a :: st) h x := by
  intro v h' hx hlk hok
  obtain ⟨a1, a2, a3, a4⟩ := k v h' hx hlk (oR_i (oR_2 hok))
  exact ⟨a1, a2, a3, ok_min n a2 hd hp ho hl hst a4⟩
theorem dk_objInit (n : Nat) (hd : decode M.1 pc = .ok (.invokespecial idx, 3)) (hp : pc + 3 = n) (ho : M.2.1.cls = own) (hl : Cond.methodLink own idx Lib.objectInit ∈ TB) (hst : (st.map Value.category).sum ≤ 8) (k : DOk SX (d + 1) M n L st h x) : DOk SX (d + 1) M pc L (.ref r :: st) h x := by
  intro v h' hx hlk hok
  obtain ⟨a1, a2, a3, a4⟩ := k v h' hx hlk (oR_t hok)
  exact ⟨a1, a2, a3, ok_objInit n a2 hd hp ho hl hst a4⟩
/-! ends -/
theorem vok_p {M : MD} {v : Int32} {n : Nat} {ty : FieldType} (hr : M.2.2.2 = some ty) (hp : prT ty) : vok M v n := by
  intro t ht hrf
  rw [hr] at ht
  cases ht
  rcases hrf with ⟨nm, e⟩ | ⟨u, e⟩
  · exact absurd e (hp.1 nm)
  · exact absurd e (hp.2 u)
theorem dk_iretT {ty : FieldType} (hd : decode M.1 pc = .ok (.ireturn, 1)) (hr : M.2.2.2 = some ty) (hty : prT ty) (hn : narrow ty (.int a) = .int a) : DOk SX d M pc L [.int a] h (some (a, h)) := by
  intro v h' hx hl hok
  cases hx
  exact ⟨hl, ⟨Nat.le_refl _, Nat.le_refl _⟩, vok_p hr hty, ok_iretT hd hr hty hn⟩
theorem pr_int : prT .int := ⟨(fun _ h => by cases h), (fun _ h => by cases h)⟩
theorem pr_bool : prT .boolean := ⟨(fun _ h => by cases h), (fun _ h => by cases h)⟩
theorem pr_byte : prT .byte := ⟨(fun _ h => by cases h), (fun _ h => by cases h)⟩
theorem pr_char : prT .char := ⟨(fun _ h => by cases h), (fun _ h => by cases h)⟩
theorem dk_iret (hd : decode M.1 pc = .ok (.ireturn, 1)) (hr : M.2.2.2 = some .int) : DOk SX d M pc L [.int a] h (some (a, h)) := dk_iretT hd hr pr_int rfl
theorem dk_zret (hd : decode M.1 pc = .ok (.ireturn, 1)) (hr : M.2.2.2 = some .boolean) : DOk SX d M pc L [.int a] h (chk (isB a) (some (a, h))) := dk_chk fun hb => dk_iretT hd hr pr_bool (isB_n hb)
theorem dk_zretc (hd : decode M.1 pc = .ok (.ireturn, 1)) (hr : M.2.2.2 = some .boolean) (hb : isB a = true) : DOk SX d M pc L [.int a] h (some (a, h)) := dk_iretT hd hr pr_bool (isB_n hb)
theorem dk_cret (hd : decode M.1 pc = .ok (.ireturn, 1)) (hr : M.2.2.2 = some .char) : DOk SX d M pc L [.int a] h (chk (isC a) (some (a, h))) := dk_chk fun hb => dk_iretT hd hr pr_char (isC_n hb)
def isY (a : Int32) : Bool := decide (a.toInt8.toInt32 = a)
theorem isY_n {a : Int32} (h : isY a = true) : narrow .byte (.int a) = .int a := by
  have e := of_decide_eq_true h
  have : narrow .byte (.int a) = .int a.toInt8.toInt32 := rfl
  rw [this, e]
theorem dk_yret (hd : decode M.1 pc = .ok (.ireturn, 1)) (hr : M.2.2.2 = some .byte) : DOk SX d M pc L [.int a] h (chk (isY a) (some (a, h))) := dk_chk fun hb => dk_iretT hd hr pr_byte (isY_n hb)
theorem dk_vret (hd : decode M.1 pc = .ok (.return_, 1)) (hr : M.2.2.2 = none) : DOk SX d M pc L [] h (some (0, h)) := by
  intro v h' hx hl hok
  cases hx
  exact ⟨hl, ⟨Nat.le_refl _, Nat.le_refl _⟩, (fun t ht => by rw [hr] at ht; cases ht), ok_vret hd hr⟩
theorem dk_aret {ty : FieldType} (hd : decode M.1 pc = .ok (.areturn, 1)) (hr : M.2.2.2 = some ty) (hty : rfT ty) : DOk SX d M pc L [.ref r] h (chk (decide (r < 2 ^ 31)) (some (nI r, h))) := dk_chk fun hb => by
  have hb := of_decide_eq_true hb
  intro v h' hx hl hok
  cases hx
  refine ⟨hl, ⟨Nat.le_refl _, Nat.le_refl _⟩, fun t ht hrf => Or.inr ?_, ok_aretr' hd hr hty hb⟩
  rw [nI_clamp hb]
  exact oR_h hok
theorem dk_aretn {ty : FieldType} (hd : decode M.1 pc = .ok (.areturn, 1)) (hr : M.2.2.2 = some ty) (hty : rfT ty) : DOk SX d M pc L [.null] h (some (-1, h)) := by
  intro v h' hx hl hok
  cases hx
  exact ⟨hl, ⟨Nat.le_refl _, Nat.le_refl _⟩, fun t ht hrf => Or.inl rfl, ok_aretn' hd hr hty⟩
/-! loops -/
def jt {α : Type} (b : (α → DS → DA) → α → DS → DA) : Nat → α → DS → DA
  | 0 => fun _ _ => none
  | n + 1 => b (jt b n)
theorem dk_jt {α : Type} (Lf : α → List (Option Value)) {b : (α → DS → DA) → α → DS → DA} (hb : ∀ X, (∀ a h, DOk SX d M pc (Lf a) [] h (X a h)) → ∀ a h, DOk SX d M pc (Lf a) [] h (b X a h)) : ∀ n a h, DOk SX d M pc (Lf a) [] h (jt b n a h)
  | 0, _, _ => DOk.nil
  | n + 1, a, h => hb _ (dk_jt Lf hb n) a h
theorem dk_bndI {e : Int32} {f : Int32 → DA} (k : ∀ a, DOk SX d M pc L (.int a :: st) h (f a)) : DOk SX d M pc L (.int e :: st) h (bnd e f) := k e
/-! the script -/
theorem dk_scrL {Lc : Nat} {xs : Nat → Int32} (n : Nat) (hd : decode M.1 pc = .ok (.arraylength, 1)) (hp : pc + 1 = n) (k : DOk (some (Lc, xs)) d M n L (.int (Int32.ofNat Lc) :: st) h x) : DOk (some (Lc, xs)) d M pc L (.ref 1003000 :: st) h x :=
  DOk.go1 (fun q => by
    subst hp
    refine Ok.goZ (fun {_ _ _ _ _ _ _ _ _ _ _ _ _ _ _ _ σ _ _} C Z hS k1 => ?_) q
    exact va_tlen C.1 C.2.1 (Z.2 _ rfl) hS rfl hd k1) (fun _ q => oR_i (oR_t q)) k
theorem dk_scrI {Lc : Nat} {xs : Nat → Int32} (n : Nat) (hd : decode M.1 pc = .ok (.iaload, 1)) (hp : pc + 1 = n) (k : DOk (some (Lc, xs)) d M n L (.int (xs i.toNatClampNeg) :: st) h x) : DOk (some (Lc, xs)) d M pc L (.int i :: .ref 1003000 :: st) h (chk (inb i Lc) x) := dk_chk fun hin =>
  DOk.go1 (fun q => by
    subst hp
    refine Ok.goZ (fun {_ _ _ _ _ _ _ _ _ _ _ _ _ _ _ _ σ _ _} C Z hS k1 => ?_) q
    exact va_ti C.1 C.2.1 (Z.2 _ rfl) hS (inb_in hin) rfl hd k1) (fun _ q => oR_i (oR_2 q)) k
end DYN5
