/-! what holds of a method's frame, and the judgement Ok: from here the machine comes to the frame's return with the answer of x -/
def RM (d mc ms : Nat) : Room := { frames := d, cells := mc, slots := ms, locals := 40 * d }
def RmOk (d mc ms : Nat) (R : Room) : Prop := d ≤ R.frames ∧ 40 * d ≤ R.locals ∧ mc ≤ R.cells ∧ ms ≤ R.slots
abbrev SXT : Type := Option (Nat × (Nat → Int32))
def Zs (SX : SXT) (σ : Nat → Nat) (A : Nat → Prop) (U : State) (H : Heap) : Prop := (vk_S strN strLen strByt (fun i => σ (1000000 + i)) (fun i => σ (1000100 + i)) A U H ∧ va_Z "java/lang/String" "COMPACT_STRINGS" "Z" (.int 1) A U H ∧ (va_Z "jdk/internal/util/Preconditions" "SIOOBE_FORMATTER" "Ljava/util/function/BiFunction;" .null A U H ∨ va_Z "jdk/internal/util/Preconditions" "SIOOBE_FORMATTER" "Ljava/util/function/BiFunction;" (.ref (σ 1002001)) A U H) ∧ vk_S lwN lwLen lwByt (fun i => σ (1000200 + i)) (fun i => σ (1000300 + i)) A U H ∧ va_Z "java/lang/Integer" "DigitTens" "[B" (.ref (σ 1002002)) A U H ∧ va_T .byte (σ 1002002) 100 (fun j => .int (digT.getD j 0)) A U H ∧ va_Z "java/lang/Integer" "DigitOnes" "[B" (.ref (σ 1002003)) A U H ∧ va_T .byte (σ 1002003) 100 (fun j => .int (digO.getD j 0)) A U H) ∧ ∀ q, SX = some q → va_T .int (σ 1003000) q.1 (fun j => .int (q.2 j)) A U H
theorem Zs.drop {SX : SXT} {σ : Nat → Nat} {A : Nat → Prop} {U : State} {H : Heap} (h : Zs SX σ A U H) : Zs none σ A U H := ⟨h.1, fun q hq => by cases hq⟩
theorem Zs.kept {SX : SXT} {σ : Nat → Nat} {A : Nat → Prop} {U : State} {H H1 : Heap} (h : Zs SX σ A U H) (hq : ∀ a : Nat, a < H.size → ¬ A a → H1[a]? = H[a]?) : Zs SX σ A U H1 := by
  have hz := hq
  obtain ⟨⟨h1, h2, h3, h4, h5, h6, h7, h8⟩, h9⟩ := h
  exact ⟨⟨h1.kept hz, h2.kept hz, h3.imp (fun q => q.kept hz) (fun q => q.kept hz), h4.kept hz, h5.kept hz, h6.kept hz, h7.kept hz, h8.kept hz⟩, fun q hq => (h9 q hq).kept hz⟩
theorem Zs.moved {SX : SXT} {σ : Nat → Nat} {A : Nat → Prop} {u U : State} {H : Heap} (hvm : u.vm.Alike U.vm) (h : Zs SX σ A u H) : Zs SX σ A U H := by
  obtain ⟨⟨h1, h2, h3, h4, h5, h6, h7, h8⟩, h9⟩ := h
  exact ⟨⟨h1.moved hvm, h2.moved hvm, h3.imp (fun q => q.moved hvm) (fun q => q.moved hvm), h4.moved hvm, h5.moved hvm, h6.moved hvm, h7.moved hvm, h8.moved hvm⟩, fun q hq => (h9 q hq).moved hvm⟩
theorem Zs.narrow {SX : SXT} {σ : Nat → Nat} {A B : Nat → Prop} {U : State} {H : Heap} (h : Zs SX σ A U H) (hAB : ∀ q, B q → A q) : Zs SX σ B U H := by
  obtain ⟨⟨h1, h2, h3, h4, h5, h6, h7, h8⟩, h9⟩ := h
  exact ⟨⟨h1.narrow hAB, h2.narrow hAB, h3.imp (fun q => q.narrow hAB) (fun q => q.narrow hAB), h4.narrow hAB, h5.narrow hAB, h6.narrow hAB, h7.narrow hAB, h8.narrow hAB⟩, fun q hq => (h9 q hq).narrow hAB⟩
theorem Zs.agr {SX : SXT} {σ σ' : Nat → Nat} {A : Nat → Prop} {U : State} {H : Heap} (h : Zs SX σ A U H) (ha : ∀ j, 1000000 ≤ j → σ' j = σ j) : Zs SX σ' A U H := by
  have e1 : (fun i => σ' (1000000 + i)) = (fun i => σ (1000000 + i)) := by
    funext i
    exact ha _ (by omega)
  have e2 : (fun i => σ' (1000100 + i)) = (fun i => σ (1000100 + i)) := by
    funext i
    exact ha _ (by omega)
  have e3 : (fun i => σ' (1000200 + i)) = (fun i => σ (1000200 + i)) := by
    funext i
    exact ha _ (by omega)
  have e4 : (fun i => σ' (1000300 + i)) = (fun i => σ (1000300 + i)) := by
    funext i
    exact ha _ (by omega)
  unfold Zs at h ⊢
  rw [e1, e2, e3, e4, ha 1002001 (by omega), ha 1002002 (by omega), ha 1002003 (by omega), ha 1003000 (by omega)]
  exact h
def Vk (σ : Nat → Nat) (U : State) : Prop := ∀ (i : Nat) (q : String × Nat × String), strAll[i]? = some q → vk_R q.1 q.2.1 q.2.2 (σ (strNo i)) U
def va_AOI (U : State) : Prop := (Cond.arrayOver (.array .int)).before #[] U = true
def Nw (U : State) : Prop := ((∀ q ∈ nestL, va_Nw (.methodLinkNest q.1 q.2.1 q.2.2.1 q.2.2.2) U) ∧ ∀ q ∈ fnestL, va_Nw (.fieldLinkNest q.1 q.2.1 q.2.2.1 q.2.2.2.1 q.2.2.2.2.1 q.2.2.2.2.2) U) ∧ va_AO "EncoresLaw$House" U ∧ va_AO "Encores$Moment" U ∧ va_Nw (.castable "[I" "java/lang/Cloneable") U ∧ va_AOI U ∧ va_Nw (.castable "[B" "java/lang/Cloneable") U
theorem va_AOI.use {A : Array Value} {U : State} (h : va_AOI U) : (Cond.arrayOver (.array .int)).before A U = true := h
theorem Vk.warm {σ : Nat → Nat} {s U : State} (hW : s.WarmedH U.vm) (h : Vk σ s) : Vk σ U := fun i q hq => (h i q hq).warm hW
theorem Vk.same {σ : Nat → Nat} {u U : State} (hv : U.vm = u.vm) (h : Vk σ u) : Vk σ U := fun i q hq => vk_R.same hv (h i q hq)
theorem Vk.agr {σ σ' : Nat → Nat} {U : State} (h : Vk σ U) (ha : ∀ j, 1000000 ≤ j → σ' j = σ j) : Vk σ' U := fun i q hq => by rw [ha _ (strNo_ge i)]; exact h i q hq
theorem va_AOI.moved {u U : State} (hvm : u.vm.Alike U.vm) (h : va_AOI u) : va_AOI U := by
  obtain ⟨comp, c, k, h1, h2, h3, h4, h5⟩ := arrayOverA_spec (t := .int) h
  obtain ⟨k', hk', he⟩ := hvm.2.2 _ _ h3
  have hi : (U.vm.classes.findIdx? fun (x : Class) => match x.kind with | .array component _ => component == comp | _ => false) = some c := by
    refine (va_idx_bare U.vm comp).symm.trans ?_
    first | rw [hvm.bare_eq] | rw [← hvm.bare_eq]
    rw [va_idx_bare]
    exact h2
  have hkind : k'.kind = .array comp (.array .int) := by rw [he]; exact h4
  have f1 : U.vm.findClass (FieldType.array .int).toString = some comp := by rw [hvm.findClass]; exact h1
  have f2 : U.vm.findClass ("[" ++ (FieldType.array .int).toString) = some c := by rw [hvm.findClass]; exact h5
  unfold va_AOI Cond.before Cond.holds
  simp only [Cond.value]
  rw [f1, Option.bind_some]
  refine (congrArg (fun o : Option Nat => (o.bind (fun c => (U.vm.classes[c]?).map fun (k : Class) => match k.kind with | .array _ ty => decide (ty = FieldType.array .int) && decide (U.vm.findClass ("[" ++ (FieldType.array .int).toString) = some c) | _ => false) == some true)) hi).trans ?_
  simp [hk', hkind, f2]
theorem Nw.warm {s U : State} (hW : s.WarmedH U.vm) (h : Nw s) : Nw U := ⟨⟨fun q hq => va_Nw.warmM hW (h.1.1 q hq), fun q hq => va_Nw.warmF hW (h.1.2 q hq)⟩, va_AO.moved hW.alike h.2.1, va_AO.moved hW.alike h.2.2.1, va_Nw.warmC hW h.2.2.2.1, va_AOI.moved hW.alike h.2.2.2.2.1, va_Nw.warmC hW h.2.2.2.2.2⟩
theorem Nw.same {u U : State} (hv : U.vm = u.vm) (h : Nw u) : Nw U := ⟨⟨fun q hq => va_Nw.same rfl hv.symm (h.1.1 q hq), fun q hq => va_Nw.same rfl hv.symm (h.1.2 q hq)⟩, va_AO.moved (by rw [hv]; exact Vm.Alike.refl _) h.2.1, va_AO.moved (by rw [hv]; exact Vm.Alike.refl _) h.2.2.1, va_Nw.same rfl hv.symm h.2.2.2.1, va_AOI.moved (by rw [hv]; exact Vm.Alike.refl _) h.2.2.2.2.1, va_Nw.same rfl hv.symm h.2.2.2.2.2⟩
abbrev tys0 (D : va_G) : List (ClassId × FieldType) := [(D.1 100, .int), (D.1 101, .object "Encores$Moment"), (D.1 102, .byte), (D.1 103, .array .int), (D.1 104, .object "EncoresLaw$House")]
def Ctx (M : MD) (p : Program) (s : State) (m : MethodId) (args : Array Value) (meth : Method) (c : Code) (D : va_G) (σ : Nat → Nat) : Prop :=
  p.tables.exec = Jvm.exec ∧ c.code = M.1 ∧ c.maxLocals = M.2.2.1 ∧ s.vm.findClass M.2.1.cls = some m.cls ∧ (∀ w ∈ TB, w.before args s = true) ∧ va_K D vwCl (tys0 D) s ∧ (M.2.1.name = "<init>" → meth.name = "<init>") ∧ Vk σ s ∧ Nw s
def csz (Sh : List SE) : Nat := Sh.length
def ssz : List SE → Nat
  | [] => 0
  | e :: Sh => e.2.1 + ssz Sh
def prT (ty : FieldType) : Prop := (∀ nm, ty ≠ .object nm) ∧ ∀ t, ty ≠ .array t
def rfT (ty : FieldType) : Prop := (∃ nm, ty = .object nm) ∨ ∃ t, ty = .array t
abbrev Ans : Type := Option (Int32 × Mem)
def RetQ (M : MD) (v : Int32) (μ' : Mem) (Sh Sh' : List SE) (p : Program) (l : Launch) (e : Env) (R : Room) (s : State) (m : MethodId) (args : Array Value) (below : List Frame) (meth : Method) (c : Code) (Q : State → Prop) (D : va_G) (σ : Nat → Nat) (A : Nat → Prop) (mc ms : Nat) : Prop :=
  ∀ (H' : Heap) (locs' : List Loc) (ls' : Array Slot) (σ' : Nat → Nat) (pcr : Nat), agr (csz Sh) (csz Sh') σ σ' → va_P D vwCl (wd σ' D Sh' μ') H' → va_D A (wd σ' D Sh' μ') → va_S A s.heap H' locs' →
    (M.2.2.2 = none → decode M.1 pcr = .ok (.return_, 1) → W p l e R s m args below meth c H' locs' mc ms Q (F0 m pcr ls' [])) ∧
    (∀ ty, M.2.2.2 = some ty → prT ty → narrow ty (.int v) = .int v → decode M.1 pcr = .ok (.ireturn, 1) → W p l e R s m args below meth c H' locs' mc ms Q (F0 m pcr ls' [.int v])) ∧
    (∀ ty, M.2.2.2 = some ty → rfT ty → decode M.1 pcr = .ok (.areturn, 1) → W p l e R s m args below meth c H' locs' mc ms Q (F0 m pcr ls' [if v = -1 then .null else .ref (σ' v.toNatClampNeg)]))
def Ok (SX : SXT) (Sh' : List SE) (d : Nat) (M : MD) (pc : Nat) (L : List (Option Value)) (st : List Value) (Sh : List SE) (μ : Mem) (x : Ans) : Prop :=
  ∀ (v : Int32) (μ' : Mem), x = some (v, μ') →
  ∀ (p : Program) (l : Launch) (e : Env) (R : Room) (s : State) (m : MethodId) (args : Array Value) (below : List Frame) (meth : Method) (c : Code) (H : Heap) (locs : List Loc) (cells slots : Nat) (Q : State → Prop) (D : va_G) (σ : Nat → Nat) (A : Nat → Prop) (mc ms : Nat) (ls : Array Slot),
  Ctx M p s m args meth c D σ → Zs SX σ A s s.heap → (∀ q : Nat, s.heap.size ≤ q → A q) → RmOk d mc ms R → va_P D vwCl (wd σ D Sh μ) H → va_D A (wd σ D Sh μ) → va_S A s.heap H locs → lvR σ ls M.2.2.1 L →
  cells + csz Sh' = mc + csz Sh → slots + ssz Sh' = ms + ssz Sh → RetQ M v μ' Sh Sh' p l e R s m args below meth c Q D σ A mc ms →
  W p l e R s m args below meth c H locs cells slots Q (F0 m pc ls (st.map (av σ)))
section OK
variable {SX : SXT} {Sh' Sh : List SE} {d : Nat} {M : MD} {pc : Nat} {L : List (Option Value)} {st : List Value} {μ : Mem} {x : Ans}
theorem Ok.none : Ok SX Sh' d M pc L st Sh μ none := fun v μ' h => by cases h
theorem Ok.less {L' : List (Option Value)} (hl : ∀ (i : Nat) (v : Value), L'[i]? = some (some v) → L[i]? = some (some v)) (k : Ok SX Sh' d M pc L' st Sh μ x) : Ok SX Sh' d M pc L st Sh μ x :=
  fun v μ' hx p l e R s m args below meth c H locs cells slots Q D σ A mc ms ls C Z hA hR hP hD hS hL h1 h2 hQ => k v μ' hx p l e R s m args below meth c H locs cells slots Q D σ A mc ms ls C Z hA hR hP hD hS (hL.less hl) h1 h2 hQ
def lsub : List (Option Value) → List (Option Value) → Prop
  | [], _ => True
  | none :: L', _ :: L => lsub L' L
  | some v :: L', o :: L => o = some v ∧ lsub L' L
  | none :: L', [] => lsub L' []
  | some _ :: _, [] => False
theorem lsub_get : ∀ (L' L : List (Option Value)), lsub L' L → ∀ (i : Nat) (v : Value), L'[i]? = some (some v) → L[i]? = some (some v)
  | [], _, _, i, v, h => by simp at h
  | none :: L', _ :: L, hs, 0, v, h => by simp at h
  | none :: L', _ :: L, hs, i + 1, v, h => by simpa using lsub_get L' L hs i v (by simpa using h)
  | some w :: L', o :: L, hs, 0, v, h => by
    obtain ⟨rfl, -⟩ := hs
    simpa using h
  | some w :: L', o :: L, hs, i + 1, v, h => by simpa using lsub_get L' L hs.2 i v (by simpa using h)
  | none :: L', [], hs, 0, v, h => by simp at h
  | none :: L', [], hs, i + 1, v, h => by
    have := lsub_get L' [] hs i v (by simpa using h)
    simp at this
  | some _ :: _, [], hs, _, _, _ => hs.elim
theorem ok_less (L' : List (Option Value)) (hl : lsub L' L) (k : Ok SX Sh' d M pc L' st Sh μ x) : Ok SX Sh' d M pc L st Sh μ x := Ok.less (lsub_get L' L hl) k
/-- one instruction that moves the frame alone -/
def Go (M : MD) (pc : Nat) (L : List (Option Value)) (st : List Value) (n : Nat) (st' : List Value) (Sh : List SE) (μ : Mem) : Prop :=
  ∀ {p : Program} {l : Launch} {e : Env} {R : Room} {s : State} {m : MethodId} {args : Array Value} {below : List Frame} {meth : Method} {c : Code} {H : Heap} {locs : List Loc} {cells slots : Nat} {Q : State → Prop} {D : va_G} {σ : Nat → Nat} {ls : Array Slot},
  Ctx M p s m args meth c D σ → va_P D vwCl (wd σ D Sh μ) H → lvR σ ls M.2.2.1 L → W p l e R s m args below meth c H locs cells slots Q (F0 m n ls (st'.map (av σ))) → W p l e R s m args below meth c H locs cells slots Q (F0 m pc ls (st.map (av σ)))
theorem Ok.go {n : Nat} {st' : List Value} (g : Go M pc L st n st' Sh μ) (k : Ok SX Sh' d M n L st' Sh μ x) : Ok SX Sh' d M pc L st Sh μ x :=
  fun v μ' hx p l e R s m args below meth c H locs cells slots Q D σ A mc ms ls C Z hA hR hP hD hS hL h1 h2 hQ => g C hP hL (k v μ' hx p l e R s m args below meth c H locs cells slots Q D σ A mc ms ls C Z hA hR hP hD hS hL h1 h2 hQ)
variable {a b : Int32} {r : Nat} {w w2 : Value}
theorem ok_iconst (n : Nat) {z : Int} (a : Int32) (hd : decode M.1 pc = .ok (.iconst z, 1)) (hp : pc + 1 = n) (hv : Int32.ofInt z = a) (k : Ok SX Sh' d M n L (.int a :: st) Sh μ x) : Ok SX Sh' d M pc L st Sh μ x := by
  subst hp; exact Ok.go (fun C _ _ => lv_iconst C.1 C.2.1 hd hv) k
theorem ok_bipush (n : Nat) {z : Int} (a : Int32) (hd : decode M.1 pc = .ok (.bipush z, 2)) (hp : pc + 2 = n) (hv : (Int8.ofInt z).toInt32 = a) (k : Ok SX Sh' d M n L (.int a :: st) Sh μ x) : Ok SX Sh' d M pc L st Sh μ x := by
  subst hp; exact Ok.go (fun C _ _ => lv_bipush C.1 C.2.1 hd hv) k
theorem ok_sipush (n : Nat) {z : Int} (a : Int32) (hd : decode M.1 pc = .ok (.sipush z, 3)) (hp : pc + 3 = n) (hv : (Int16.ofInt z).toInt32 = a) (k : Ok SX Sh' d M n L (.int a :: st) Sh μ x) : Ok SX Sh' d M pc L st Sh μ x := by
  subst hp; exact Ok.go (fun C _ _ => lv_sipush C.1 C.2.1 hd hv) k
theorem ok_ldc (n : Nat) {own : String} {i : Nat} (a : Int32) (hd : decode M.1 pc = .ok (.ldc i, 2)) (hp : pc + 2 = n) (ho : M.2.1.cls = own) (hw : Cond.constant own i a ∈ TB) (k : Ok SX Sh' d M n L (.int a :: st) Sh μ x) : Ok SX Sh' d M pc L st Sh μ x := by
  subst hp; subst ho; exact Ok.go (fun C _ _ => lv_ldc C.1 C.2.1 C.2.2.2.1 (C.2.2.2.2.1 _ hw) hd) k
theorem ok_ldcw (n : Nat) {own : String} {i : Nat} (a : Int32) (hd : decode M.1 pc = .ok (.ldc_w i, 3)) (hp : pc + 3 = n) (ho : M.2.1.cls = own) (hw : Cond.constant own i a ∈ TB) (k : Ok SX Sh' d M n L (.int a :: st) Sh μ x) : Ok SX Sh' d M pc L st Sh μ x := by
  subst hp; subst ho; exact Ok.go (fun C _ _ => lv_ldcw C.1 C.2.1 C.2.2.2.1 (C.2.2.2.2.1 _ hw) hd) k
theorem ok_ldc2 (n : Nat) {own : String} {i : Nat} (a : Int64) (hd : decode M.1 pc = .ok (.ldc2_w i, 3)) (hp : pc + 3 = n) (ho : M.2.1.cls = own) (hw : Cond.constantLong own i a ∈ TB) (k : Ok SX Sh' d M n L (.long a :: st) Sh μ x) : Ok SX Sh' d M pc L st Sh μ x := by
  subst hp; subst ho; exact Ok.go (fun C _ _ => lv_ldc2 C.1 C.2.1 C.2.2.2.1 (C.2.2.2.2.1 _ hw) hd) k
theorem ok_lconst (n : Nat) {z : Fin 2} (a : Int64) (hd : decode M.1 pc = .ok (.lconst z, 1)) (hp : pc + 1 = n) (hv : Int64.ofNat (z : Nat) = a) (k : Ok SX Sh' d M n L (.long a :: st) Sh μ x) : Ok SX Sh' d M pc L st Sh μ x := by
  subst hp; exact Ok.go (fun C _ _ => lv_lconst C.1 C.2.1 hd hv) k
theorem ok_iload_n (n i : Nat) {z : Fin 4} (hd : decode M.1 pc = .ok (.iload_n z, 1)) (hp : pc + 1 = n) (hi : (z : Nat) = i) (hl : L[i]? = some (some (.int a))) (k : Ok SX Sh' d M n L (.int a :: st) Sh μ x) : Ok SX Sh' d M pc L st Sh μ x := by
  subst hp; exact Ok.go (fun C _ h => lv_iload_n C.1 C.2.1 hd hi (h.at hl)) k
theorem ok_iload (n i : Nat) (hd : decode M.1 pc = .ok (.iload i, 2)) (hp : pc + 2 = n) (hl : L[i]? = some (some (.int a))) (k : Ok SX Sh' d M n L (.int a :: st) Sh μ x) : Ok SX Sh' d M pc L st Sh μ x := by
  subst hp; exact Ok.go (fun C _ h => lv_iload C.1 C.2.1 hd (h.at hl)) k
theorem ok_aload_n (n i : Nat) {z : Fin 4} (hd : decode M.1 pc = .ok (.aload_n z, 1)) (hp : pc + 1 = n) (hi : (z : Nat) = i) (hl : L[i]? = some (some (.ref r))) (k : Ok SX Sh' d M n L (.ref r :: st) Sh μ x) : Ok SX Sh' d M pc L st Sh μ x := by
  subst hp; exact Ok.go (fun C _ h => lv_aload_n C.1 C.2.1 hd hi (h.at hl)) k
theorem ok_lload_n (n i : Nat) {a : Int64} {z : Fin 4} (hd : decode M.1 pc = .ok (.lload_n z, 1)) (hp : pc + 1 = n) (hi : (z : Nat) = i) (hl : L[i]? = some (some (.long a))) (k : Ok SX Sh' d M n L (.long a :: st) Sh μ x) : Ok SX Sh' d M pc L st Sh μ x := by
  subst hp; exact Ok.go (fun C _ h => lv_lload_n C.1 C.2.1 hd hi (h.at hl)) k
theorem ok_iadd (n : Nat) (hd : decode M.1 pc = .ok (.iadd, 1)) (hp : pc + 1 = n) (k : Ok SX Sh' d M n L (.int (a + b) :: st) Sh μ x) : Ok SX Sh' d M pc L (.int b :: .int a :: st) Sh μ x := by
  subst hp; exact Ok.go (fun C _ _ => lv_iadd C.1 C.2.1 hd) k
theorem ok_isub (n : Nat) (hd : decode M.1 pc = .ok (.isub, 1)) (hp : pc + 1 = n) (k : Ok SX Sh' d M n L (.int (a - b) :: st) Sh μ x) : Ok SX Sh' d M pc L (.int b :: .int a :: st) Sh μ x := by
  subst hp; exact Ok.go (fun C _ _ => lv_isub C.1 C.2.1 hd) k
theorem ok_imul (n : Nat) (hd : decode M.1 pc = .ok (.imul, 1)) (hp : pc + 1 = n) (k : Ok SX Sh' d M n L (.int (a * b) :: st) Sh μ x) : Ok SX Sh' d M pc L (.int b :: .int a :: st) Sh μ x := by
  subst hp; exact Ok.go (fun C _ _ => lv_imul C.1 C.2.1 hd) k
theorem ok_iand (n : Nat) (hd : decode M.1 pc = .ok (.iand, 1)) (hp : pc + 1 = n) (k : Ok SX Sh' d M n L (.int (a &&& b) :: st) Sh μ x) : Ok SX Sh' d M pc L (.int b :: .int a :: st) Sh μ x := by
  subst hp; exact Ok.go (fun C _ _ => lv_iand C.1 C.2.1 hd) k
theorem ok_ior (n : Nat) (hd : decode M.1 pc = .ok (.ior, 1)) (hp : pc + 1 = n) (k : Ok SX Sh' d M n L (.int (a ||| b) :: st) Sh μ x) : Ok SX Sh' d M pc L (.int b :: .int a :: st) Sh μ x := by
  subst hp; exact Ok.go (fun C _ _ => lv_ior C.1 C.2.1 hd) k
theorem ok_ixor (n : Nat) (hd : decode M.1 pc = .ok (.ixor, 1)) (hp : pc + 1 = n) (k : Ok SX Sh' d M n L (.int (a ^^^ b) :: st) Sh μ x) : Ok SX Sh' d M pc L (.int b :: .int a :: st) Sh μ x := by
  subst hp; exact Ok.go (fun C _ _ => lv_ixor C.1 C.2.1 hd) k
theorem ok_ishl (n : Nat) (hd : decode M.1 pc = .ok (.ishl, 1)) (hp : pc + 1 = n) (k : Ok SX Sh' d M n L (.int (a <<< (b &&& 31)) :: st) Sh μ x) : Ok SX Sh' d M pc L (.int b :: .int a :: st) Sh μ x := by
  subst hp; exact Ok.go (fun C _ _ => lv_ishl C.1 C.2.1 hd) k
theorem ok_ishr (n : Nat) (hd : decode M.1 pc = .ok (.ishr, 1)) (hp : pc + 1 = n) (k : Ok SX Sh' d M n L (.int (a >>> (b &&& 31)) :: st) Sh μ x) : Ok SX Sh' d M pc L (.int b :: .int a :: st) Sh μ x := by
  subst hp; exact Ok.go (fun C _ _ => lv_ishr C.1 C.2.1 hd) k
def ushr (a b : Int32) : Int32 := (a.toUInt32 >>> (b.toUInt32 &&& Int32.toUInt32 31)).toInt32
theorem ok_iushr (n : Nat) (hd : decode M.1 pc = .ok (.iushr, 1)) (hp : pc + 1 = n) (k : Ok SX Sh' d M n L (.int (ushr a b) :: st) Sh μ x) : Ok SX Sh' d M pc L (.int b :: .int a :: st) Sh μ x := by
  subst hp; exact Ok.go (fun C _ _ => lv_iushr C.1 C.2.1 hd rfl) k
def chk {α : Type} (b : Bool) (x : Option α) : Option α := match b with
  | true => x
  | false => none
theorem ok_chk {b : Bool} (k : b = true → Ok SX Sh' d M pc L st Sh μ x) : Ok SX Sh' d M pc L st Sh μ (chk b x) := by
  cases b with
  | true => exact k rfl
  | false => exact Ok.none
def irm (a b : Int32) : Int32 := a - a / b * b
theorem ok_idiv (n : Nat) (hd : decode M.1 pc = .ok (.idiv, 1)) (hp : pc + 1 = n) (k : Ok SX Sh' d M n L (.int (a / b) :: st) Sh μ x) : Ok SX Sh' d M pc L (.int b :: .int a :: st) Sh μ (chk (decide (b ≠ 0)) x) := by
  subst hp; exact ok_chk fun h => Ok.go (fun C _ _ => lv_idiv C.1 C.2.1 hd (of_decide_eq_true h)) k
theorem ok_irem (n : Nat) (hd : decode M.1 pc = .ok (.irem, 1)) (hp : pc + 1 = n) (k : Ok SX Sh' d M n L (.int (irm a b) :: st) Sh μ x) : Ok SX Sh' d M pc L (.int b :: .int a :: st) Sh μ (chk (decide (b ≠ 0)) x) := by
  subst hp; exact ok_chk fun h => Ok.go (fun C _ _ => lv_irem C.1 C.2.1 hd (of_decide_eq_true h)) k
theorem ok_idivc (n : Nat) (hd : decode M.1 pc = .ok (.idiv, 1)) (hp : pc + 1 = n) (h : b ≠ 0) (k : Ok SX Sh' d M n L (.int (a / b) :: st) Sh μ x) : Ok SX Sh' d M pc L (.int b :: .int a :: st) Sh μ x := by
  subst hp; exact Ok.go (fun C _ _ => lv_idiv C.1 C.2.1 hd h) k
theorem ok_iremc (n : Nat) (hd : decode M.1 pc = .ok (.irem, 1)) (hp : pc + 1 = n) (h : b ≠ 0) (k : Ok SX Sh' d M n L (.int (irm a b) :: st) Sh μ x) : Ok SX Sh' d M pc L (.int b :: .int a :: st) Sh μ x := by
  subst hp; exact Ok.go (fun C _ _ => lv_irem C.1 C.2.1 hd h) k
theorem ok_i2l (n : Nat) (hd : decode M.1 pc = .ok (.i2l, 1)) (hp : pc + 1 = n) (k : Ok SX Sh' d M n L (.long a.toInt64 :: st) Sh μ x) : Ok SX Sh' d M pc L (.int a :: st) Sh μ x := by
  subst hp; exact Ok.go (fun C _ _ => lv_i2l C.1 C.2.1 hd rfl) k
theorem ok_l2i {a : Int64} (n : Nat) (hd : decode M.1 pc = .ok (.l2i, 1)) (hp : pc + 1 = n) (k : Ok SX Sh' d M n L (.int a.toInt32 :: st) Sh μ x) : Ok SX Sh' d M pc L (.long a :: st) Sh μ x := by
  subst hp; exact Ok.go (fun C _ _ => lv_l2i C.1 C.2.1 hd rfl) k
theorem ok_lmul {a b : Int64} (n : Nat) (hd : decode M.1 pc = .ok (.lmul, 1)) (hp : pc + 1 = n) (k : Ok SX Sh' d M n L (.long (a * b) :: st) Sh μ x) : Ok SX Sh' d M pc L (.long b :: .long a :: st) Sh μ x := by
  subst hp; exact Ok.go (fun C _ _ => lv_lmul C.1 C.2.1 hd) k
def lrm (a b : Int64) : Int64 := a - a / b * b
theorem ok_lremc {a b : Int64} (n : Nat) (hd : decode M.1 pc = .ok (.lrem, 1)) (hp : pc + 1 = n) (h : b ≠ 0) (k : Ok SX Sh' d M n L (.long (lrm a b) :: st) Sh μ x) : Ok SX Sh' d M pc L (.long b :: .long a :: st) Sh μ x := by
  subst hp; exact Ok.go (fun C _ _ => lv_lrem C.1 C.2.1 hd h) k
theorem ok_dup (n : Nat) (hd : decode M.1 pc = .ok (.dup, 1)) (hp : pc + 1 = n) (hc : w.category = 1) (k : Ok SX Sh' d M n L (w :: w :: st) Sh μ x) : Ok SX Sh' d M pc L (w :: st) Sh μ x := by
  subst hp; exact Ok.go (fun C _ _ => lv_dup C.1 C.2.1 hd ((av_cat _ w).trans hc)) k
theorem ok_dup2 (n : Nat) (hd : decode M.1 pc = .ok (.dup2, 1)) (hp : pc + 1 = n) (hc : w.category = 1) (hc2 : w2.category = 1) (k : Ok SX Sh' d M n L (w :: w2 :: w :: w2 :: st) Sh μ x) : Ok SX Sh' d M pc L (w :: w2 :: st) Sh μ x := by
  subst hp; exact Ok.go (fun C _ _ => lv_dup2_11 C.1 C.2.1 hd ((av_cat _ w).trans hc) ((av_cat _ w2).trans hc2)) k
theorem ok_pop (n : Nat) (hd : decode M.1 pc = .ok (.pop, 1)) (hp : pc + 1 = n) (hc : w.category = 1) (k : Ok SX Sh' d M n L st Sh μ x) : Ok SX Sh' d M pc L (w :: st) Sh μ x := by
  subst hp; exact Ok.go (fun C _ _ => lv_pop C.1 C.2.1 hd ((av_cat _ w).trans hc)) k
theorem ok_goto (t : Nat) {o : Int} (hd : decode M.1 pc = .ok (.goto o, 3)) (ht : (pc : Int) + o = (t : Int)) (k : Ok SX Sh' d M t L st Sh μ x) : Ok SX Sh' d M pc L st Sh μ x := Ok.go (fun C _ _ => lv_goto C.1 C.2.1 hd ht) k
theorem ok_null (n : Nat) (hd : decode M.1 pc = .ok (.aconst_null, 1)) (hp : pc + 1 = n) (k : Ok SX Sh' d M n L (.null :: st) Sh μ x) : Ok SX Sh' d M pc L st Sh μ x := by
  subst hp; exact Ok.go (fun C _ _ => lv_null C.1 C.2.1 hd) k
/-! stores of locals -/
def GoL (M : MD) (pc : Nat) (L : List (Option Value)) (st : List Value) (n : Nat) (L' : List (Option Value)) (st' : List Value) : Prop :=
  ∀ {p : Program} {l : Launch} {e : Env} {R : Room} {s : State} {m : MethodId} {args : Array Value} {below : List Frame} {meth : Method} {c : Code} {H : Heap} {locs : List Loc} {cells slots : Nat} {Q : State → Prop} {D : va_G} {σ : Nat → Nat} {ls : Array Slot},
  Ctx M p s m args meth c D σ → lvR σ ls M.2.2.1 L → (∀ ls', lvR σ ls' M.2.2.1 L' → W p l e R s m args below meth c H locs cells slots Q (F0 m n ls' (st'.map (av σ)))) → W p l e R s m args below meth c H locs cells slots Q (F0 m pc ls (st.map (av σ)))
theorem Ok.goL {n : Nat} {L' : List (Option Value)} {st' : List Value} (g : GoL M pc L st n L' st') (k : Ok SX Sh' d M n L' st' Sh μ x) : Ok SX Sh' d M pc L st Sh μ x :=
  fun v μ' hx p l e R s m args below meth c H locs cells slots Q D σ A mc ms ls C Z hA hR hP hD hS hL h1 h2 hQ => g C hL (fun ls' hL' => k v μ' hx p l e R s m args below meth c H locs cells slots Q D σ A mc ms ls' C Z hA hR hP hD hS hL' h1 h2 hQ)
theorem ok_istore (n i : Nat) (L' : List (Option Value)) (hd : decode M.1 pc = .ok (.istore i, 2)) (hp : pc + 2 = n) (hi : i < M.2.2.1) (hl : lset L i (.int a) = L') (k : Ok SX Sh' d M n L' st Sh μ x) : Ok SX Sh' d M pc L (.int a :: st) Sh μ x := by
  subst hp; subst hl; exact Ok.goL (fun C h kk => lv_istore C.1 C.2.1 hd h.has hi rfl (fun ls' q => kk ls' (lvR.set1 (v := .int a) q))) k
theorem ok_istore_n (n i : Nat) {z : Fin 4} (L' : List (Option Value)) (hd : decode M.1 pc = .ok (.istore_n z, 1)) (hp : pc + 1 = n) (hz : (z : Nat) = i) (hi : i < M.2.2.1) (hl : lset L i (.int a) = L') (k : Ok SX Sh' d M n L' st Sh μ x) : Ok SX Sh' d M pc L (.int a :: st) Sh μ x := by
  subst hp; subst hl; exact Ok.goL (fun C h kk => lv_istore_n C.1 C.2.1 hd hz h.has hi rfl (fun ls' q => kk ls' (lvR.set1 (v := .int a) q))) k
theorem ok_astore_n (n i : Nat) {z : Fin 4} (L' : List (Option Value)) (hd : decode M.1 pc = .ok (.astore_n z, 1)) (hp : pc + 1 = n) (hz : (z : Nat) = i) (hi : i < M.2.2.1) (hl : lset L i (.ref r) = L') (k : Ok SX Sh' d M n L' st Sh μ x) : Ok SX Sh' d M pc L (.ref r :: st) Sh μ x := by
  subst hp; subst hl; exact Ok.goL (fun C h kk => lv_astore_n C.1 C.2.1 hd hz h.has hi rfl (fun ls' q => kk ls' (lvR.set1 (v := .ref r) q))) k
theorem ok_lstore_n {a : Int64} (n i : Nat) {z : Fin 4} (L' : List (Option Value)) (hd : decode M.1 pc = .ok (.lstore_n z, 1)) (hp : pc + 1 = n) (hz : (z : Nat) = i) (hi : i + 1 < M.2.2.1) (hl : lset2 L i (.long a) = L') (k : Ok SX Sh' d M n L' st Sh μ x) : Ok SX Sh' d M pc L (.long a :: st) Sh μ x := by
  subst hp; subst hl; exact Ok.goL (fun C h kk => lv_lstore_n C.1 C.2.1 hd hz h.has hi rfl (fun ls' q => kk ls' (lvR.set2 (v := .long a) q))) k
theorem ok_iinc (n i : Nat) {z : Int} {a : Int32} (b : Int32) (L' : List (Option Value)) (hd : decode M.1 pc = .ok (.iinc i z, 3)) (hp : pc + 3 = n) (hg : L[i]? = some (some (.int a))) (hv : Int32.ofInt z = b) (hi : i < M.2.2.1) (hl : lset L i (.int (a + b)) = L') (k : Ok SX Sh' d M n L' st Sh μ x) : Ok SX Sh' d M pc L st Sh μ x := by
  subst hp; subst hl; subst hv
  refine Ok.goL (fun {_ _ _ _ _ _ _ _ _ _ _ _ _ _ _ _ σ _} C h kk => ?_) k
  have hm := asc_in σ L 0 i _ hg
  obtain ⟨k, hk⟩ := List.getElem?_of_mem hm
  rw [Nat.zero_add] at hk
  exact lv_iinc C.1 C.2.1 hd h.has (k := k) hk rfl hi rfl (fun ls' q => kk ls' (lvR.set1 (v := .int (a + Int32.ofInt z)) q))
/-! branches -/
theorem Ok.br {t n : Nat} {st' : List Value} {P : Prop} {x1 x2 : Ans} [hdec : Decidable P] (g : ∀ {p : Program} {l : Launch} {e : Env} {R : Room} {s : State} {m : MethodId} {args : Array Value} {below : List Frame} {meth : Method} {c : Code} {H : Heap} {locs : List Loc} {cells slots : Nat} {Q : State → Prop} {D : va_G} {σ : Nat → Nat} {ls : Array Slot},
    Ctx M p s m args meth c D σ → (P → W p l e R s m args below meth c H locs cells slots Q (F0 m t ls (st'.map (av σ)))) → (¬ P → W p l e R s m args below meth c H locs cells slots Q (F0 m n ls (st'.map (av σ)))) → W p l e R s m args below meth c H locs cells slots Q (F0 m pc ls (st.map (av σ))))
    (kt : P → Ok SX Sh' d M t L st' Sh μ x1) (kf : ¬ P → Ok SX Sh' d M n L st' Sh μ x2) : Ok SX Sh' d M pc L st Sh μ (if P then x1 else x2) := by
  intro v μ' hx p l e R s m args below meth c H locs cells slots Q D σ A mc ms ls C Z hA hR hP hD hS hL h1 h2 hQ
  refine g C (fun q => kt q v μ' (by rw [if_pos q] at hx; exact hx) p l e R s m args below meth c H locs cells slots Q D σ A mc ms ls C Z hA hR hP hD hS hL h1 h2 hQ) (fun q => kf q v μ' (by rw [if_neg q] at hx; exact hx) p l e R s m args below meth c H locs cells slots Q D σ A mc ms ls C Z hA hR hP hD hS hL h1 h2 hQ)
end OK
