/-! contracts and calls -/
def cw (M : MD) : List Cond := Cond.code M.2.1 M.1 M.2.2.1 M.2.2.2 :: TB
theorem cw_good {M : MD} (h : Cond.code M.2.1 M.1 M.2.2.1 M.2.2.2 ∈ TB) : GoodIn TB (cw M) := by
  intro w hw
  rcases List.mem_cons.mp hw with rfl | hw
  · exact tb_good _ h
  · exact tb_good _ hw
def PreU (SX : SXT) (D : va_G) (σ : Nat → Nat) (Sh : List SE) (μ : Mem) (sz : Nat) (U : State) : Prop := U.heap.size = sz ∧ va_P D vwCl (wd σ D Sh μ) U.heap ∧ va_K D vwCl (tys0 D) U ∧ va_D (fun _ => True) (wd σ D Sh μ) ∧ Zs SX σ (va_A (wd σ D Sh μ) sz) U U.heap ∧ Vk σ U ∧ Nw U
def rvO (M : MD) (σ : Nat → Nat) (v : Int32) : Option Value := match M.2.2.2 with
  | none => none
  | some (.object _) => some (if v = -1 then .null else .ref (σ v.toNatClampNeg))
  | some (.array _) => some (if v = -1 then .null else .ref (σ v.toNatClampNeg))
  | some _ => some (.int v)
def psh (M : MD) (v : Int32) : List Value := match M.2.2.2 with
  | none => []
  | some (.object _) => [if v = -1 then .null else .ref v.toNatClampNeg]
  | some (.array _) => [if v = -1 then .null else .ref v.toNatClampNeg]
  | some _ => [.int v]
theorem rvO_psh (M : MD) (σ : Nat → Nat) (v : Int32) : (rvO M σ v).toList = (psh M v).map (av σ) := by
  unfold rvO psh
  split
  · rfl
  · split <;> rfl
  · split <;> rfl
  · rfl
def PostU (M : MD) (D : va_G) (σ : Nat → Nat) (Sh Sh' : List SE) (μ μ' : Mem) (v : Int32) (sz : Nat) : Array Value → State → Outcome → State → Prop := fun _ st oc t => ∃ σ' : Nat → Nat, agr (csz Sh) (csz Sh') σ σ' ∧ oc = .returned (rvO M σ' v) ∧ va_P D vwCl (wd σ' D Sh' μ') t.heap ∧ va_D (va_A (wd σ D Sh μ) sz) (wd σ' D Sh' μ') ∧ va_F (va_A (wd σ D Sh μ) sz) st t
def CM (SX : SXT) (d : Nat) (M : MD) (Sh' Sh : List SE) (As : List Value) (μ : Mem) (x : Ans) : Prop := ∀ (v : Int32) (μ' : Mem), x = some (v, μ') → csz Sh ≤ csz Sh' ∧ ssz Sh ≤ ssz Sh' ∧
  ∀ (l : Launch) (D : va_G) (σ : Nat → Nat) (sz : Nat), Met l M.2.1 (cw M) (RM d (csz Sh' - csz Sh) (ssz Sh' - ssz Sh)) (va_Pc (As.map (av σ)) (PreU SX D σ Sh μ sz)) (PostU M D σ Sh Sh' μ μ' v sz) (csz Sh' - csz Sh) (ssz Sh' - ssz Sh) (va_A (wd σ D Sh μ) sz)
theorem PreU.blind {SX : SXT} {D : va_G} {σ : Nat → Nat} {Sh : List SE} {μ : Mem} {sz : Nat} {av : List Value} : FrameBlind (va_Pc av (PreU SX D σ Sh μ sz)) := by
  intro a U g mk h
  obtain ⟨h0, h1, h2, h3, h4, h5, h6, h7⟩ := h
  refine ⟨h0, h1, h2, va_K.moved (u := U) (U := U.calling g mk a) (Vm.Alike.refl U.vm) h3, h4, ?_, Vk.same rfl h6, Nw.same rfl h7⟩
  exact Zs.moved (u := U) (U := U.calling g mk a) (Vm.Alike.refl U.vm) h5
theorem lv_args_in (σ : Nat → Nat) : ∀ (As : List Value) (k : Nat), (∀ v ∈ As, v.category = 1) → ∀ (i : Nat) (v : Value), As[i]? = some v → (k + i, av σ v) ∈ lv_args k (As.map (av σ))
  | [], _, _, i, v, h => by simp at h
  | a :: As, k, hc, 0, v, h => by
    have : a = v := by simpa using h
    subst this
    exact List.mem_cons_self
  | a :: As, k, hc, i + 1, v, h => by
    have h1 : (av σ a).category = 1 := (av_cat σ a).trans (hc a List.mem_cons_self)
    have := lv_args_in σ As (k + 1) (fun v hv => hc v (List.mem_cons_of_mem _ hv)) i v (by simpa using h)
    refine List.mem_cons_of_mem _ ?_
    rw [h1, if_neg (by decide), show k + (i + 1) = k + 1 + i by omega]
    exact this
theorem lg_sl_len (σ : Nat → Nat) : ∀ (As : List Value), (∀ v ∈ As, v.category = 1) → (lg_sl (As.map (av σ))).length = As.length
  | [], _ => rfl
  | a :: As, hc => by
    have h1 : (av σ a).category = 1 := (av_cat σ a).trans (hc a List.mem_cons_self)
    have := lg_sl_len σ As (fun v hv => hc v (List.mem_cons_of_mem _ hv))
    have e : lg_sl ((a :: As).map (av σ)) = Slot.val (av σ a) :: lg_sl (As.map (av σ)) := by
      show List.flatMap _ (av σ a :: As.map (av σ)) = _
      rw [List.flatMap_cons, h1, if_neg (by decide)]
      rfl
    rw [e, List.length_cons, this, List.length_cons]
theorem CM.ofOk {SX : SXT} {d : Nat} {M : MD} {Sh' Sh : List SE} {As : List Value} {μ : Mem} {x : Ans} {n : Nat} (km : KM M n) (hz : csz Sh ≤ csz Sh' ∧ ssz Sh ≤ ssz Sh') (hc : ∀ v ∈ As, v.category = 1) (hlen : As.length ≤ M.2.2.1) (h : Ok SX Sh' d M 0 (As.map some ++ List.replicate (M.2.2.1 - As.length) none) [] Sh μ x) : CM SX d M Sh' Sh As μ x := by
  intro v μ' hx
  refine ⟨hz.1, hz.2, fun l D σ sz => ?_⟩
  refine Met.ofW (cc := M.1) (maxL := M.2.2.1) (ret := M.2.2.2) km.2.2.2 rfl ?_
  intro p e s m args below meth c s₁ B hml hP
  obtain ⟨rfl, hsz, hP, hK, hD0, hZ, hV, hN⟩ := hP
  have hexec := B.exec
  have hb := B.bytes
  have hr := B.returns
  have hts := atoms_spec (ws := cw M) B.pre
  have hown : s.vm.findClass M.2.1.cls = some m.cls := findClass_of_methodNamed B.named
  have hlocks := B.notSynchronized
  have hin : meth.name = M.2.1.name := (name_of_methodNamed B.named B.method).1
  subst hsz
  have hD := hD0.self (sz := s.heap.size)
  rw [lg_entry_eq]
  have hl := lv_entry (As.map (av σ)) (n := M.2.2.1) (by rw [lg_sl_len σ As hc]; exact hlen)
  have hL : lvR σ ((lg_sl (As.map (av σ)) ++ List.replicate (M.2.2.1 - (lg_sl (As.map (av σ))).length) Slot.unset).toArray) M.2.2.1 (As.map some ++ List.replicate (M.2.2.1 - As.length) none) := by
    refine ⟨hl.1, hl.2.1, fun i v hi => ?_⟩
    by_cases q : i < As.length
    · rw [List.getElem?_append_left (by simpa using q), List.getElem?_map] at hi
      have hv : As[i]? = some v := by
        cases hq : As[i]? with
        | none => rw [hq] at hi; cases hi
        | some w => rw [hq] at hi; cases hi; rfl
      have := hl.2.2 _ (lv_args_in σ As 0 hc i v hv)
      simpa using this
    · rw [List.getElem?_append_right (by simpa using q), List.getElem?_replicate] at hi
      split at hi <;> simp at hi
  refine h v μ' hx p l e _ s m _ below meth c s.heap [] 0 0 _ D σ (va_A (wd σ D Sh μ) s.heap.size) (csz Sh' - csz Sh) (ssz Sh' - ssz Sh) _ ⟨hexec, hb, hml, hown, fun w hw => hts w (List.mem_cons_of_mem _ hw), hK, fun h => hin.trans h, hV, hN⟩ hZ (fun q hq => Or.inr hq) ⟨Nat.le_refl _, Nat.le_refl _, Nat.le_refl _, Nat.le_refl _⟩ hP hD va_S.rf hL (by omega) (by omega) ?_
  intro H' locs' ls' σ' pcr ha hP' hD' hS'
  refine ⟨fun hr0 hd => ?_, fun ty hr0 hty hn hd => ?_, fun ty hr0 hty hd => ?_⟩
  · exact W.vret hexec hb (hr.trans hr0) (fun t ht hW => ⟨σ', ha, by simp [rvO, hr0], by rw [ht]; exact hP', hD', hS'.F ht⟩) hS'.2.2 hd hlocks
  · refine W.zret hexec hb (hr.trans hr0) hn (fun t ht hW => ⟨σ', ha, ?_, by rw [ht]; exact hP', hD', hS'.F ht⟩) hS'.2.2 hd hlocks
    unfold rvO
    rw [hr0]
    cases ty <;> first | rfl | exact absurd rfl (hty.1 _) | exact absurd rfl (hty.2 _)
  · refine W.aret hexec hb (hr.trans hr0) hty ?_ (fun t ht hW => ⟨σ', ha, by rcases hty with ⟨nm, rfl⟩ | ⟨t, rfl⟩ <;> simp [rvO, hr0], by rw [ht]; exact hP', hD', hS'.F ht⟩) hS'.2.2 hd hlocks
    split
    · exact Or.inl rfl
    · exact Or.inr ⟨_, rfl⟩
def bd {β : Type} (x : Ans) (k : Int32 → Mem → Option β) : Option β := match x with
  | none => none
  | some q => k q.1 q.2
def okR (n : Nat) (L : List (Option Value)) (st : List Value) : Prop := (∀ (i k : Nat), L[i]? = some (some (.ref k)) → k < n ∨ 1000000 ≤ k) ∧ ∀ k, Value.ref k ∈ st → k < n ∨ 1000000 ≤ k
theorem okR.st {n n' : Nat} {L : List (Option Value)} {st : List Value} {σ σ' : Nat → Nat} (h : okR n L st) (ha : agr n n' σ σ') : st.map (av σ') = st.map (av σ) := by
  refine List.map_congr_left fun v hv => ?_
  cases v <;> try rfl
  rename_i k
  exact congrArg Value.ref (ha.1 k (h.2 k hv))
section CALL
variable {SX : SXT} {Sh' Sh Sh1 : List SE} {d : Nat} {M M' : MD} {pc : Nat} {L : List (Option Value)} {st st0 : List Value} {μ : Mem} {y : Ans} {f : Int32 → Mem → Ans} {own : String} {idx n np : Nat}
theorem Ok.call {As : List Value} (hp : pc + 3 = n) (hC : CM SX d M' Sh1 Sh As μ y) (hgr : csz Sh1 ≤ csz Sh' ∧ ssz Sh1 ≤ ssz Sh') (hn : csz Sh1 = csz Sh ∨ okR (csz Sh) L st)
    (g : ∀ {p : Program} {l : Launch} {e : Env} {R : Room} {s : State} {m : MethodId} {args : Array Value} {below : List Frame} {meth : Method} {c : Code} {H : Heap} {locs : List Loc} {cells slots : Nat} {D : va_G} {σ : Nat → Nat} {A : Nat → Prop} {ls : Array Slot} {mc ms : Nat} {Pc : Array Value → State → Prop} {Qc : Array Value → State → Outcome → State → Prop} {free : Addr → Prop},
      Ctx M p s m args meth c D σ → Zs SX σ A s s.heap → va_P D vwCl (wd σ D Sh μ) H → va_S A s.heap H locs → lvR σ ls M.2.2.1 L → Met l M'.2.1 (cw M') (RM d mc ms) Pc Qc mc ms free → FrameBlind Pc → d + 1 ≤ R.frames → 40 * (d + 1) ≤ R.locals → cells + mc ≤ R.cells ∧ slots + ms ≤ R.slots → (∀ U : State, U.heap = H → s.WarmedH U.vm → Pc (As.map (av σ)).toArray U) →
      va_Run p l e R s m args below meth c H locs cells slots mc ms (F0 m pc ls (st0.map (av σ))) (st.map (av σ)) (Qc (As.map (av σ)).toArray) free)
    (k : ∀ v μ1, y = some (v, μ1) → Ok SX Sh' (d + 1) M n L (psh M' v ++ st) Sh1 μ1 (f v μ1)) : Ok SX Sh' (d + 1) M pc L st0 Sh μ (bd y f) := by
  subst hp
  intro v μ' hx p l e R s m args below meth c H locs cells slots Q D σ A mc ms ls C Z hA hR hP hD hS hL h1 h2 hQ
  obtain ⟨r1, r2, r3, r4⟩ := id hR
  cases hy : y with
  | none => rw [hy] at hx; cases hx
  | some q =>
  obtain ⟨v1, μ1⟩ := q
  rw [hy] at hx
  obtain ⟨z1, z2, hM⟩ := hC v1 μ1 hy
  have hM := hM l D σ H.size
  have hpre : ∀ U : State, U.heap = H → s.WarmedH U.vm → va_Pc (As.map (av σ)) (PreU SX D σ Sh μ H.size) (As.map (av σ)).toArray U := by
    intro U hU hW
    refine ⟨rfl, by rw [hU], by rw [hU]; exact hP, va_K.moved hW.alike C.2.2.2.2.2.1, hD.weaken (fun _ _ _ _ => trivial), ?_, C.2.2.2.2.2.2.2.1.warm hW, C.2.2.2.2.2.2.2.2.warm hW⟩
    rw [hU]
    refine ((Z.kept hS.2.1).moved hW.alike).narrow (fun q hq => ?_)
    rcases hq with ⟨k, e, hk⟩ | hq
    · exact hD.2 k _ hk
    · exact hA q (Nat.le_trans hS.1 hq)
  have hAA : ∀ q, va_A (wd σ D Sh μ) H.size q → A q := by
    intro q hq
    rcases hq with ⟨k, e, hk⟩ | hq
    · exact hD.2 k _ hk
    · exact hA q (Nat.le_trans hS.1 hq)
  have hrun := g (ls := ls) (locs := locs) (cells := cells) (slots := slots) (e := e) (p := p) (l := l) (R := R) (below := below) (A := A) C Z hP hS hL hM PreU.blind (by omega) (by omega) (by omega) hpre
  intro T hT X
  obtain ⟨v2, st₀, t, T', LL, e0, X', hLL, e1, e2, ⟨σ1, ha, ho, hP1, hD1, hF1, hF2⟩, hst⟩ := hrun T hT X
  cases ho
  rw [e0] at hF1 hF2
  have hσ : ∀ (st : List Value), (csz Sh1 = csz Sh ∨ okR (csz Sh) L st) → st.map (av σ) = st.map (av σ1) := by
    intro st hh
    rcases hh with q | q
    · rw [ha.2 q]
    · exact (q.st ha).symm
  have hL1 : lvR σ1 ls M.2.2.1 L := by
    rcases hn with q | q
    · rw [ha.2 q]; exact hL
    · exact hL.moved (fun i k hk => ha.1 k (q.1 i k hk))
  have hb : ∀ j, 1000000 ≤ j → σ1 j = σ j := fun j hj => ha.1 j (Or.inr hj)
  have C1 : Ctx M p s m args meth c D σ1 := ⟨C.1, C.2.1, C.2.2.1, C.2.2.2.1, C.2.2.2.2.1, C.2.2.2.2.2.1, C.2.2.2.2.2.2.1, C.2.2.2.2.2.2.2.1.agr hb, C.2.2.2.2.2.2.2.2⟩
  have hS1 : va_S A s.heap T'.heap (locs ++ LL) := by
    refine ⟨Nat.le_trans hS.1 (by rw [e1]; exact hF1), fun q h1 h2 => ?_, fun q hq => ?_⟩
    · rw [e1, hF2 q (Nat.lt_of_lt_of_le h1 hS.1) (fun z => h2 (hAA q z))]
      exact hS.2.1 q h1 h2
    · rcases List.mem_append.mp hq with h | h
      · exact hS.2.2 q h
      · exact hAA _ (hLL q h)
  have hk := k v1 μ1 hy v μ' hx p l e R s m args below meth c T'.heap (locs ++ LL) (cells + (csz Sh1 - csz Sh)) (slots + (ssz Sh1 - ssz Sh)) Q D σ1 A mc ms ls C1 (Z.agr hb) hA hR (by rw [e1]; exact hP1) (hD1.weaken (fun k q hk h => hAA q.1 h)) hS1 hL1 (by omega) (by omega) (fun H' locs' ls' σ' pcr ha' => hQ H' locs' ls' σ' pcr ⟨fun j hj => by rw [ha'.1 j (by omega)]; exact ha.1 j hj, fun q => by rw [ha'.2 (by omega)]; exact ha.2 (by omega)⟩)
  obtain ⟨t2, a1, b1⟩ := hk T' rfl X'
  refine ⟨t2, hst t2 ?_, b1⟩
  rw [List.map_append, ← rvO_psh, ← hσ st hn] at a1
  exact a1
theorem callB_M {R : Room} {s : State} {args : Array Value} {mc ms : Nat} (hts : ∀ w ∈ TB, w.before args s = true) (km : KM M' np) (hl : Cond.methodLink own idx M'.2.1 ∈ TB) (hm : M'.2.2.1 ≤ 21) (hR : d + 1 ≤ R.frames ∧ 40 * (d + 1) ≤ R.locals) : CallB R s args own idx M'.2.1 M'.1 M'.2.2.1 M'.2.2.2 (cw M') (RM d mc ms) mc ms np := by
  refine callB_of np hts (cw_good km.1) rfl rfl rfl (hts _ km.2.1) (hts _ hl) km.2.2.1 ⟨hR.1, ?_⟩
  show 8 + (M'.2.2.1 + 11) + 40 * d ≤ R.locals
  omega
theorem ok_callV {As : List Value} {ci r : Nat} {e0 : SE} (n : Nat) (hd : decode M.1 pc = .ok (.invokevirtual idx, 3)) (hp : pc + 3 = n) (ho : M.2.1.cls = own) (km : KM M' np) (ki : Cond.instanceMethod M'.2.1 ∈ TB) (kv : Cond.selects M'.2.1.cls M'.2.1 M'.2.1 ∈ TB) (hl : Cond.methodLink own idx M'.2.1 ∈ TB) (hm : M'.2.2.1 ≤ 21) (hS0 : Sh[r]? = some e0) (he : e0.1 = ci) (hci : ci < 15) (hcl : (vwC ci).1 = M'.2.1.cls) (hst0 : st0 = As.reverse ++ .ref r :: st) (hAs : As.length = np) (h8 : (st.map Value.category).sum ≤ 8) (hC : CM SX d M' Sh1 Sh (.ref r :: As) μ y) (hgr : csz Sh1 ≤ csz Sh' ∧ ssz Sh1 ≤ ssz Sh') (hn : csz Sh1 = csz Sh ∨ okR (csz Sh) L st)
    (k : ∀ v μ1, y = some (v, μ1) → Ok SX Sh' (d + 1) M n L (psh M' v ++ st) Sh1 μ1 (f v μ1)) : Ok SX Sh' (d + 1) M pc L st0 Sh μ (bd y f) := by
  subst hst0; subst ho; subst he
  refine Ok.call hp hC hgr hn (fun {_ _ _ _ _ _ _ _ _ _ _ _ _ _ D σ _ _ _ _ _ _ _} C Z hP hS hL hM hbl r1 r2 hf hpre => ?_) k
  refine va_runV (As := As.map (av σ)) (b := σ r) (C := M'.2.1.cls) (n := np) ⟨C.1, C.2.1, C.2.2.1, C.2.2.2.1, C.2.2.2.2.1⟩ hM ⟨callB_M C.2.2.2.2.1 km hl hm ⟨r1, r2⟩, C.2.2.2.2.1 _ ki, C.2.2.2.2.1 _ kv⟩ ⟨hbl, ?_, hpre⟩ rfl (by simpa using hAs) hL.1 ?_ (lv_room (st8 h8)) hd hf
  · rw [← hcl]
    exact va_recv C.2.2.2.2.2.1 hP (kc e0.1 hci).1 ((wd_at hS0).trans (by rw [ent_obj (show e0.1 < 100 by omega)]))
  · simp [av]
theorem ok_callS {As : List Value} (n : Nat) (hd : decode M.1 pc = .ok (.invokestatic idx, 3)) (hp : pc + 3 = n) (ho : M.2.1.cls = own) (km : KM M' np) (ks : Cond.static M'.2.1 ∈ TB) (hl : Cond.methodLink own idx M'.2.1 ∈ TB) (hm : M'.2.2.1 ≤ 21) (hst0 : st0 = As.reverse ++ st) (hAs : As.length = np) (h8 : (st.map Value.category).sum ≤ 8) (hC : CM SX d M' Sh1 Sh As μ y) (hgr : csz Sh1 ≤ csz Sh' ∧ ssz Sh1 ≤ ssz Sh') (hn : csz Sh1 = csz Sh ∨ okR (csz Sh) L st)
    (k : ∀ v μ1, y = some (v, μ1) → Ok SX Sh' (d + 1) M n L (psh M' v ++ st) Sh1 μ1 (f v μ1)) : Ok SX Sh' (d + 1) M pc L st0 Sh μ (bd y f) := by
  subst hst0; subst ho
  refine Ok.call hp hC hgr hn (fun {_ _ _ _ _ _ _ _ _ _ _ _ _ _ D σ _ _ _ _ _ _ _} C Z hP hS hL hM hbl r1 r2 hf hpre => ?_) k
  refine va_runS (As := As.map (av σ)) (n := np) ⟨C.1, C.2.1, C.2.2.1, C.2.2.2.1, C.2.2.2.2.1⟩ hM ⟨callB_M C.2.2.2.2.1 km hl hm ⟨r1, r2⟩, C.2.2.2.2.1 _ ks⟩ ⟨hbl, hpre⟩ rfl (by simpa using hAs) hL.1 ?_ (lv_room (st8 h8)) hd hf
  simp
theorem ok_callI {As : List Value} {r : Nat} (n : Nat) (hd : decode M.1 pc = .ok (.invokespecial idx, 3)) (hp : pc + 3 = n) (ho : M.2.1.cls = own) (km : KM M' np) (ki : Cond.instanceMethod M'.2.1 ∈ TB) (hl : Cond.methodLink own idx M'.2.1 ∈ TB) (hm : M'.2.2.1 ≤ 21) (hnm : M'.2.1.name = "<init>") (hrt : M'.2.2.2 = none) (hst0 : st0 = As.reverse ++ .ref r :: st) (hAs : As.length = np) (h8 : (st.map Value.category).sum ≤ 8) (hC : CM SX d M' Sh1 Sh (.ref r :: As) μ y) (hgr : csz Sh1 ≤ csz Sh' ∧ ssz Sh1 ≤ ssz Sh') (hn : csz Sh1 = csz Sh ∨ okR (csz Sh) L st)
    (k : ∀ v μ1, y = some (v, μ1) → Ok SX Sh' (d + 1) M n L st Sh1 μ1 (f v μ1)) : Ok SX Sh' (d + 1) M pc L st0 Sh μ (bd y f) := by
  subst hst0; subst ho
  refine Ok.call (M' := M') hp hC hgr hn (fun {_ _ _ R s _ args _ _ _ _ _ _ _ D σ _ _ mc ms _ _ _} C Z hP hS hL hM hbl r1 r2 hf hpre => ?_) (fun v μ1 q => by rw [show psh M' v = [] by simp [psh, hrt]]; exact k v μ1 q)
  have hcb := callB_M (R := R) (s := s) (args := args) (mc := mc) (ms := ms) C.2.2.2.2.1 km hl hm ⟨r1, r2⟩
  rw [hrt] at hcb
  refine va_runI (As := As.map (av σ)) (b := σ r) (n := np) ⟨C.1, C.2.1, C.2.2.1, C.2.2.2.1, C.2.2.2.2.1⟩ hM ⟨hcb, hnm, C.2.2.2.2.1 _ ki⟩ ⟨hbl, hpre⟩ rfl (by simpa using hAs) hL.1 ?_ (lv_room (st8 h8)) hd hf
  simp [av]
theorem cnB_M {R : Room} {s : State} {args : Array Value} {mc ms : Nat} {host : String} (hts : ∀ w ∈ TB, w.before args s = true) (km : KM M' np) (hl : va_Nw (.methodLinkNest own idx M'.2.1 host) s) (hm : M'.2.2.1 ≤ 21) (hR : d + 1 ≤ R.frames ∧ 40 * (d + 1) ≤ R.locals) : va_CN R s args own idx M'.2.1 host M'.1 M'.2.2.1 M'.2.2.2 (cw M') (RM d mc ms) mc ms np := by
  refine va_cnB np hts (cw_good km.1) rfl rfl rfl hl (hts _ km.2.1) km.2.2.1 ⟨hR.1, ?_⟩
  show 8 + (M'.2.2.1 + 11) + 40 * d ≤ R.locals
  omega
theorem ok_callSN {As : List Value} {host : String} (n i : Nat) (hd : decode M.1 pc = .ok (.invokestatic idx, 3)) (hp : pc + 3 = n) (ho : M.2.1.cls = own) (km : KM M' np) (ks : Cond.static M'.2.1 ∈ TB) (hl : nestL[i]? = some (own, idx, M'.2.1, host)) (hm : M'.2.2.1 ≤ 21) (hst0 : st0 = As.reverse ++ st) (hAs : As.length = np) (h8 : (st.map Value.category).sum ≤ 8) (hC : CM SX d M' Sh1 Sh As μ y) (hgr : csz Sh1 ≤ csz Sh' ∧ ssz Sh1 ≤ ssz Sh') (hn : csz Sh1 = csz Sh ∨ okR (csz Sh) L st)
    (k : ∀ v μ1, y = some (v, μ1) → Ok SX Sh' (d + 1) M n L (psh M' v ++ st) Sh1 μ1 (f v μ1)) : Ok SX Sh' (d + 1) M pc L st0 Sh μ (bd y f) := by
  subst hst0; subst ho
  refine Ok.call hp hC hgr hn (fun {_ _ _ _ _ _ _ _ _ _ _ _ _ _ D σ _ _ _ _ _ _ _} C Z hP hS hL hM hbl r1 r2 hf hpre => ?_) k
  have hN := C.2.2.2.2.2.2.2.2.1.1 _ (List.mem_of_getElem? hl)
  refine va_runSN (As := As.map (av σ)) (n := np) (host := host) ⟨C.1, C.2.1, C.2.2.1, C.2.2.2.1, C.2.2.2.2.1⟩ hM ⟨cnB_M C.2.2.2.2.1 km hN hm ⟨r1, r2⟩, C.2.2.2.2.1 _ ks, trivial⟩ ⟨hbl, hpre⟩ rfl (by simpa using hAs) hL.1 ?_ (lv_room (st8 h8)) hd hf
  simp
theorem ok_callIN {As : List Value} {r : Nat} {host : String} (n i : Nat) (hd : decode M.1 pc = .ok (.invokespecial idx, 3)) (hp : pc + 3 = n) (ho : M.2.1.cls = own) (km : KM M' np) (ki : Cond.instanceMethod M'.2.1 ∈ TB) (hl : nestL[i]? = some (own, idx, M'.2.1, host)) (hm : M'.2.2.1 ≤ 21) (hnm : M'.2.1.name = "<init>") (hrt : M'.2.2.2 = none) (hst0 : st0 = As.reverse ++ .ref r :: st) (hAs : As.length = np) (h8 : (st.map Value.category).sum ≤ 8) (hC : CM SX d M' Sh1 Sh (.ref r :: As) μ y) (hgr : csz Sh1 ≤ csz Sh' ∧ ssz Sh1 ≤ ssz Sh') (hn : csz Sh1 = csz Sh ∨ okR (csz Sh) L st)
    (k : ∀ v μ1, y = some (v, μ1) → Ok SX Sh' (d + 1) M n L st Sh1 μ1 (f v μ1)) : Ok SX Sh' (d + 1) M pc L st0 Sh μ (bd y f) := by
  subst hst0; subst ho
  refine Ok.call (M' := M') hp hC hgr hn (fun {_ _ _ R s _ args _ _ _ _ _ _ _ D σ _ _ mc ms _ _ _} C Z hP hS hL hM hbl r1 r2 hf hpre => ?_) (fun v μ1 q => by rw [show psh M' v = [] by simp [psh, hrt]]; exact k v μ1 q)
  have hN := C.2.2.2.2.2.2.2.2.1.1 _ (List.mem_of_getElem? hl)
  have hcb := cnB_M (R := R) (s := s) (args := args) (mc := mc) (ms := ms) C.2.2.2.2.1 km hN hm ⟨r1, r2⟩
  rw [hrt] at hcb
  refine va_runIN (As := As.map (av σ)) (b := σ r) (n := np) (host := host) ⟨C.1, C.2.1, C.2.2.1, C.2.2.2.1, C.2.2.2.2.1⟩ hM ⟨hcb, hnm, C.2.2.2.2.1 _ ki⟩ ⟨hbl, hpre⟩ rfl (by simpa using hAs) hL.1 ?_ (lv_room (st8 h8)) hd hf
  simp [av]
end CALL
