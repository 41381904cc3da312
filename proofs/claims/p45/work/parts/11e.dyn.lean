section DYN4
variable {SX : SXT} {d : Nat} {M M' : MD} {pc : Nat} {L : List (Option Value)} {st st0 : List Value} {h : DS} {x x1 x2 y : DA} {a b i : Int32} {r r2 : Nat} {w w2 : Value} {own : String} {idx ci j np : Nat} {f : Int32 → DS → DA}
/-! clone of a row of ints, the cast behind it -/
def cA (h : DS) (t r : Nat) : Option DS := match aN h t r with
  | some n => addC h (t, n, []) (h.2.2 r)
  | none => none
theorem dk_clone (n : Nat) {f : DS → DA} (hd : decode M.1 pc = .ok (.invokevirtual idx, 3)) (hp : pc + 3 = n) (ho : M.2.1.cls = own) (hl : Cond.methodLink own idx ⟨"[I", "clone", "()Ljava/lang/Object;"⟩ ∈ TB) (hst : (st.map Value.category).sum ≤ 8) (k : ∀ h1, cA h 100 r = some h1 → DOk SX (d + 1) M n L (.ref h.2.1.length :: st) h1 (f h1)) : DOk SX (d + 1) M pc L (.ref r :: st) h (bo (cA h 100 r) f) := by
  unfold cA at *
  cases hn : aN h 100 r with
  | none => exact DOk.nil
  | some N =>
    rw [hn] at k
    obtain ⟨rs, hr⟩ := aN_some hn
    refine DOk.mk (st' := st) (fun j q hq => by simp at hq) (fun hl0 hok hlen {Sh' x'} hz q => ?_) (fun _ q => oR_t q) k
    subst hp; subst ho
    intro v μ' hx p l e R s m args below meth c H locs cells slots Q D σ A mc ms ls C Z hA hR hP hD hS hL h1 h2 hQ
    obtain ⟨r1, r2, r3, r4⟩ := id hR
    have hw := C.2.2.2.2.1
    have h8 := st8 (σ := σ) hst
    have hcz : csz (h.2.1 ++ [((100, N, []) : SE)]) = csz h.2.1 + 1 := by simp [csz]
    have hsz : ssz (h.2.1 ++ [((100, N, []) : SE)]) = ssz h.2.1 + N := by rw [ssz_app]; simp [ssz]
    have hz1 := hz.1
    have hz2 : ssz h.2.1 + N ≤ ssz Sh' := hz.2
    have hcN : s.vm.findClass "[I" = some (D.1 100) := (C.2.2.2.2.2.1.2 0 _ rfl).2
    refine va_clone (ty := .int) C.1 C.2.1 (C.2.2.1.trans hL.1.symm) C.2.2.2.1 (hw _ hl) (hw _ sm__I_clone___Ljava_lang_Object_) (hw _ nat_clone) (hw _ ki_clone) (hw _ kv_clone_I) C.2.2.2.2.2.2.2.2.2.2.2.1 C.2.2.2.2.2.1 hP hD hS hA r 0 (x := (N, .inl (h.2.2 r))) (wd_atA (Or.inl rfl) hr) rfl hcN (fun i v hv => ?_) (by omega) (by omega) (by omega) (by show slots + N ≤ R.slots; omega) hd (fun q' H1 gK g1 g2 g3 => ?_)
    · obtain ⟨hi, hv⟩ := Array.getElem?_eq_some_iff.mp hv
      have : v = .int (h.2.2 r i) := by
        rw [← hv]
        simp [vp_cell, arrV]
      rw [this]; rfl
    · have hag : agr (csz h.2.1) (csz Sh') σ (fun j => if j = h.2.1.length then q' else σ j) := by
        refine ⟨fun j hj => ?_, fun z => by omega⟩
        have hne : ¬ j = h.2.1.length := by
          intro e
          rcases hj with h | h
          · unfold csz at h; omega
          · omega
        simp [hne]
      have hb : ∀ j, 1000000 ≤ j → (fun j => if j = h.2.1.length then q' else σ j) j = σ j := fun j hj => hag.1 j (Or.inr hj)
      have he : ∀ ws : va_W, ws = wd σ D h.2.1 h.2.2 ++ [(q', .inl (D.1 100, N, .inl (h.2.2 r)))] → ws = wd (fun j => if j = h.2.1.length then q' else σ j) D (h.2.1 ++ [(100, N, [])]) (fun a j => if a = h.2.1.length then h.2.2 r j else h.2.2 a j) := by
        rintro ws rfl
        rw [wd_cm (μ := h.2.2) (ν := fun a j => if a = h.2.1.length then h.2.2 r j else h.2.2 a j) (fun k hk => by
          funext j
          rw [if_neg (Nat.ne_of_lt hk)])]
        refine wd_push hl0.2.2.1 ?_
        rw [ent_arrT (Or.inl rfl)]
        refine congrArg (fun z : Nat → Int32 => (Sum.inl (D.1 100, (N, Sum.inl z)) : va_E)) (funext fun j => ?_)
        show h.2.2 r j = if h.2.1.length = h.2.1.length then h.2.2 r j else h.2.2 h.2.1.length j
        rw [if_pos rfl]
      rw [he _ rfl] at g1 g2
      have hst' : st.map (av (fun j => if j = h.2.1.length then q' else σ j)) = st.map (av σ) := (oR_t hok).st hag
      have := q v μ' hx p l e R s m args below meth c H1 locs (cells + 1) (slots + N) Q D (fun j => if j = h.2.1.length then q' else σ j) A mc ms ls ⟨C.1, C.2.1, C.2.2.1, C.2.2.2.1, C.2.2.2.2.1, C.2.2.2.2.2.1, C.2.2.2.2.2.2.1, C.2.2.2.2.2.2.2.1.agr hb, C.2.2.2.2.2.2.2.2⟩ (Z.agr hb) hA hR g1 g2 g3 (hL.moved (fun i k hk => hag.1 k ((oR_t hok).1 i k hk))) (by omega) (by omega) (fun H' locs' ls' σ' pcr ha' => hQ H' locs' ls' σ' pcr ⟨fun j hj => (ha'.1 j (by rw [hcz]; omega)).trans (hag.1 j hj), fun z => by omega⟩)
      simp only [List.map_cons, av, if_pos] at this
      rw [hst'] at this
      exact this
def cB (h : DS) (r : Nat) : Option DS := match aN h 102 r with
  | some n => if ∀ q, q < n → fits .byte (.int (h.2.2 r q)) = true then addC h (102, n, []) (h.2.2 r) else none
  | none => none
theorem dk_cloneB (n : Nat) {f : DS → DA} (hd : decode M.1 pc = .ok (.invokevirtual idx, 3)) (hp : pc + 3 = n) (ho : M.2.1.cls = own) (hl : Cond.methodLink own idx ⟨"[B", "clone", "()Ljava/lang/Object;"⟩ ∈ TB) (hst : (st.map Value.category).sum ≤ 8) (k : ∀ h1, cB h r = some h1 → DOk SX (d + 1) M n L (.ref h.2.1.length :: st) h1 (f h1)) : DOk SX (d + 1) M pc L (.ref r :: st) h (bo (cB h r) f) := by
  unfold cB at *
  cases hn : aN h 102 r with
  | none => exact DOk.nil
  | some N =>
    rw [hn] at k
    dsimp only at k ⊢
    by_cases hf : ∀ q, q < N → fits .byte (.int (h.2.2 r q)) = true
    rotate_left
    · rw [if_neg hf]
      exact DOk.nil
    rw [if_pos hf] at k ⊢
    obtain ⟨rs, hr⟩ := aN_some hn
    refine DOk.mk (st' := st) (fun j q hq => by simp at hq) (fun hl0 hok hlen {Sh' x'} hz q => ?_) (fun _ q => oR_t q) k
    subst hp; subst ho
    intro v μ' hx p l e R s m args below meth c H locs cells slots Q D σ A mc ms ls C Z hA hR hP hD hS hL h1 h2 hQ
    obtain ⟨r1, r2, r3, r4⟩ := id hR
    have hw := C.2.2.2.2.1
    have h8 := st8 (σ := σ) hst
    have hcz : csz (h.2.1 ++ [((102, N, []) : SE)]) = csz h.2.1 + 1 := by simp [csz]
    have hsz : ssz (h.2.1 ++ [((102, N, []) : SE)]) = ssz h.2.1 + N := by rw [ssz_app]; simp [ssz]
    have hz1 := hz.1
    have hz2 : ssz h.2.1 + N ≤ ssz Sh' := hz.2
    have hcN : s.vm.findClass "[B" = some (D.1 102) := (C.2.2.2.2.2.1.2 2 _ rfl).2
    refine va_clone (ty := .byte) C.1 C.2.1 (C.2.2.1.trans hL.1.symm) C.2.2.2.1 (hw _ hl) (hw _ sm__B_clone___Ljava_lang_Object_) (hw _ nat_clone) (hw _ ki_clone) (hw _ kv_clone_B) C.2.2.2.2.2.2.2.2.2.2.2.2.2 C.2.2.2.2.2.1 hP hD hS hA r 2 (x := (N, .inl (h.2.2 r))) (wd_atA (Or.inr rfl) hr) rfl hcN (fun i v hv => ?_) (by omega) (by omega) (by omega) (by show slots + N ≤ R.slots; omega) hd (fun q' H1 gK g1 g2 g3 => ?_)
    · obtain ⟨hi, hv⟩ := Array.getElem?_eq_some_iff.mp hv
      have : v = .int (h.2.2 r i) := by
        rw [← hv]
        simp [vp_cell, arrV]
      have hi' : i < N := by simpa [vp_cell, arrV] using hi
      rw [this]
      exact hf i hi'
    · have hag : agr (csz h.2.1) (csz Sh') σ (fun j => if j = h.2.1.length then q' else σ j) := by
        refine ⟨fun j hj => ?_, fun z => by omega⟩
        have hne : ¬ j = h.2.1.length := by
          intro e
          rcases hj with h | h
          · unfold csz at h; omega
          · omega
        simp [hne]
      have hb : ∀ j, 1000000 ≤ j → (fun j => if j = h.2.1.length then q' else σ j) j = σ j := fun j hj => hag.1 j (Or.inr hj)
      have he : ∀ ws : va_W, ws = wd σ D h.2.1 h.2.2 ++ [(q', .inl (D.1 102, N, .inl (h.2.2 r)))] → ws = wd (fun j => if j = h.2.1.length then q' else σ j) D (h.2.1 ++ [(102, N, [])]) (fun a j => if a = h.2.1.length then h.2.2 r j else h.2.2 a j) := by
        rintro ws rfl
        rw [wd_cm (μ := h.2.2) (ν := fun a j => if a = h.2.1.length then h.2.2 r j else h.2.2 a j) (fun k hk => by
          funext j
          rw [if_neg (Nat.ne_of_lt hk)])]
        refine wd_push hl0.2.2.1 ?_
        rw [ent_arrT (Or.inr rfl)]
        refine congrArg (fun z : Nat → Int32 => (Sum.inl (D.1 102, (N, Sum.inl z)) : va_E)) (funext fun j => ?_)
        show h.2.2 r j = if h.2.1.length = h.2.1.length then h.2.2 r j else h.2.2 h.2.1.length j
        rw [if_pos rfl]
      rw [he _ rfl] at g1 g2
      have hst' : st.map (av (fun j => if j = h.2.1.length then q' else σ j)) = st.map (av σ) := (oR_t hok).st hag
      have := q v μ' hx p l e R s m args below meth c H1 locs (cells + 1) (slots + N) Q D (fun j => if j = h.2.1.length then q' else σ j) A mc ms ls ⟨C.1, C.2.1, C.2.2.1, C.2.2.2.1, C.2.2.2.2.1, C.2.2.2.2.2.1, C.2.2.2.2.2.2.1, C.2.2.2.2.2.2.2.1.agr hb, C.2.2.2.2.2.2.2.2⟩ (Z.agr hb) hA hR g1 g2 g3 (hL.moved (fun i k hk => hag.1 k ((oR_t hok).1 i k hk))) (by omega) (by omega) (fun H' locs' ls' σ' pcr ha' => hQ H' locs' ls' σ' pcr ⟨fun j hj => (ha'.1 j (by rw [hcz]; omega)).trans (hag.1 j hj), fun z => by omega⟩)
      simp only [List.map_cons, av, if_pos] at this
      rw [hst'] at this
      exact this
theorem dk_castB (n : Nat) (hd : decode M.1 pc = .ok (.checkcast idx, 3)) (hp : pc + 3 = n) (ho : M.2.1.cls = own) (hl : Cond.classLink own idx "[B" ∈ TB) {N : Nat} {rs : List (Option Nat)} (hS : h.2.1[r]? = some (102, N, rs)) (k : DOk SX d M n L (.ref r :: st) h x) : DOk SX d M pc L (.ref r :: st) h x :=
  DOk.go1 (fun q => by
    subst hp; subst ho
    refine Ok.go (fun {_ _ _ _ _ _ _ _ _ _ _ _ _ _ _ D σ _} C hP _ kk => ?_) q
    exact va_castA C.1 C.2.1 C.2.2.2.1 (C.2.2.2.2.1 _ hl) hP r (wd_atA (Or.inr rfl) hS) (C.2.2.2.2.2.1.2 2 _ rfl).2 hd kk) (fun _ q => q) k
theorem dk_castI (n : Nat) (hd : decode M.1 pc = .ok (.checkcast idx, 3)) (hp : pc + 3 = n) (ho : M.2.1.cls = own) (hl : Cond.classLink own idx "[I" ∈ TB) {N : Nat} {rs : List (Option Nat)} (hS : h.2.1[r]? = some (100, N, rs)) (k : DOk SX d M n L (.ref r :: st) h x) : DOk SX d M pc L (.ref r :: st) h x :=
  DOk.go1 (fun q => by
    subst hp; subst ho
    refine Ok.go (fun {_ _ _ _ _ _ _ _ _ _ _ _ _ _ _ D σ _} C hP _ kk => ?_) q
    exact va_castA C.1 C.2.1 C.2.2.2.1 (C.2.2.2.2.1 _ hl) hP r (wd_atA (Or.inl rfl) hS) (C.2.2.2.2.2.1.2 0 _ rfl).2 hd kk) (fun _ q => q) k
/-! contracts -/
def DCM (SX : SXT) (d : Nat) (M : MD) (As : List Value) (h : DS) (x : DA) : Prop := ∀ (v : Int32) (h' : DS), x = some (v, h') → lk h → (∀ k, Value.ref k ∈ As → k < csz h.2.1 ∨ 1000000 ≤ k) → lk h' ∧ vok M v (csz h'.2.1) ∧ CM SX d M h'.2.1 h.2.1 As h.2.2 (some (v, h'.2.2))
theorem DCM.ofDOk {As : List Value} {n : Nat} (km : KM M n) (hc : ∀ v ∈ As, v.category = 1) (hlen : As.length ≤ M.2.2.1) (k : DOk SX d M 0 (As.map some ++ List.replicate (M.2.2.1 - As.length) none) [] h x) : DCM SX d M As h x := by
  intro v h' hx hl hAs
  obtain ⟨a1, a2, a3, a4⟩ := k v h' hx hl ⟨fun i k hk => by
    by_cases q : i < As.length
    · rw [List.getElem?_append_left (by simpa using q), List.getElem?_map] at hk
      cases hq : As[i]? with
      | none => rw [hq] at hk; cases hk
      | some w =>
        rw [hq] at hk
        cases hk
        exact hAs k (List.mem_of_getElem? hq)
    · rw [List.getElem?_append_right (by simpa using q), List.getElem?_replicate] at hk
      split at hk <;> simp at hk, fun k hk => absurd hk List.not_mem_nil⟩
  exact ⟨a1, a3, CM.ofOk km a2 hc hlen a4⟩
theorem DOk.call {As : List Value} {n : Nat} (hC : DCM SX d M' As h y) (hAs : ∀ m, okR m L st0 → (∀ k, Value.ref k ∈ As → k < m ∨ 1000000 ≤ k) ∧ okR m L st)
    (g : ∀ {Sh' Sh1 : List SE} {v1 : Int32} {μ1 : Mem} {x' : Ans}, CM SX d M' Sh1 h.2.1 As h.2.2 (some (v1, μ1)) → (csz Sh1 ≤ csz Sh' ∧ ssz Sh1 ≤ ssz Sh') → (csz Sh1 = csz h.2.1 ∨ okR (csz h.2.1) L st) → Ok SX Sh' (d + 1) M n L (psh M' v1 ++ st) Sh1 μ1 x' → Ok SX Sh' (d + 1) M pc L st0 h.2.1 h.2.2 x')
    (k : ∀ v1 h1, y = some (v1, h1) → DOk SX (d + 1) M n L (psh M' v1 ++ st) h1 (f v1 h1)) : DOk SX (d + 1) M pc L st0 h (bd3 y f) := by
  intro v h' hx hl hok
  cases hy : y with
  | none => rw [hy] at hx; cases hx
  | some q =>
    obtain ⟨v1, h1⟩ := q
    rw [hy] at hx
    obtain ⟨b1, b2⟩ := hAs _ hok
    obtain ⟨c1, c2, c3⟩ := hC v1 h1 hy hl b1
    have hz : csz h.2.1 ≤ csz h1.2.1 ∧ ssz h.2.1 ≤ ssz h1.2.1 := ⟨(c3 v1 h1.2.2 rfl).1, (c3 v1 h1.2.2 rfl).2.1⟩
    have hok1 : okR (csz h1.2.1) L (psh M' v1 ++ st) := by
      have b3 : okR (csz h1.2.1) L st := oR_m hz.1 b2
      unfold psh
      split
      · exact b3
      · rename_i nm he
        show okR _ L ((if v1 = -1 then Value.null else .ref v1.toNatClampNeg) :: st)
        split
        · exact oR_n b3
        · rename_i hne
          exact oR_r ((c2 _ he (Or.inl ⟨_, rfl⟩)).resolve_left hne) b3
      · rename_i nm he
        show okR _ L ((if v1 = -1 then Value.null else .ref v1.toNatClampNeg) :: st)
        split
        · exact oR_n b3
        · rename_i hne
          exact oR_r ((c2 _ he (Or.inr ⟨_, rfl⟩)).resolve_left hne) b3
      · exact oR_i b3
    obtain ⟨a1, a2, a3, a4⟩ := k v1 h1 hy v h' hx c1 hok1
    exact ⟨a1, ⟨Nat.le_trans hz.1 a2.1, Nat.le_trans hz.2 a2.2⟩, a3, g c3 a2 (Or.inr b2) a4⟩
theorem oR_call {As st : List Value} {m : Nat} (h : okR m L (As.reverse ++ st)) : (∀ k, Value.ref k ∈ As → k < m ∨ 1000000 ≤ k) ∧ okR m L st := ⟨fun k hk => h.2 k (List.mem_append_left _ (List.mem_reverse.mpr hk)), oR_ap h⟩
theorem oR_callV {As st : List Value} {m r : Nat} (h : okR m L (As.reverse ++ .ref r :: st)) : (∀ k, Value.ref k ∈ (.ref r :: As) → k < m ∨ 1000000 ≤ k) ∧ okR m L st := ⟨fun k hk => by
  rcases List.mem_cons.mp hk with e | e
  · cases e; exact h.2 _ (List.mem_append_right _ List.mem_cons_self)
  · exact h.2 k (List.mem_append_left _ (List.mem_reverse.mpr e)), oR_t (oR_ap h)⟩
theorem dk_callS {As : List Value} (n : Nat) (hd : decode M.1 pc = .ok (.invokestatic idx, 3)) (hp : pc + 3 = n) (ho : M.2.1.cls = own) (km : KM M' np) (ks : Cond.static M'.2.1 ∈ TB) (hl : Cond.methodLink own idx M'.2.1 ∈ TB) (hm : M'.2.2.1 ≤ 21) (hst0 : st0 = As.reverse ++ st) (hAs : As.length = np) (h8 : (st.map Value.category).sum ≤ 8) (hC : DCM SX d M' As h y)
    (k : ∀ v h1, y = some (v, h1) → DOk SX (d + 1) M n L (psh M' v ++ st) h1 (f v h1)) : DOk SX (d + 1) M pc L st0 h (bd3 y f) := by
  subst hst0
  exact DOk.call hC (fun _ q => oR_call q) (fun c g hn q => ok_callS (y := some (_, _)) (f := fun _ _ => _) n hd hp ho km ks hl hm rfl hAs h8 c g hn (fun v μ1 e => by cases e; exact q)) k
theorem dk_callSN {As : List Value} {host : String} (n i : Nat) (hd : decode M.1 pc = .ok (.invokestatic idx, 3)) (hp : pc + 3 = n) (ho : M.2.1.cls = own) (km : KM M' np) (ks : Cond.static M'.2.1 ∈ TB) (hl : nestL[i]? = some (own, idx, M'.2.1, host)) (hm : M'.2.2.1 ≤ 21) (hst0 : st0 = As.reverse ++ st) (hAs : As.length = np) (h8 : (st.map Value.category).sum ≤ 8) (hC : DCM SX d M' As h y)
    (k : ∀ v h1, y = some (v, h1) → DOk SX (d + 1) M n L (psh M' v ++ st) h1 (f v h1)) : DOk SX (d + 1) M pc L st0 h (bd3 y f) := by
  subst hst0
  exact DOk.call hC (fun _ q => oR_call q) (fun c g hn q => ok_callSN (y := some (_, _)) (f := fun _ _ => _) n i hd hp ho km ks hl hm rfl hAs h8 c g hn (fun v μ1 e => by cases e; exact q)) k
/-- a receiver whose class is known is looked for when the call is made -/
def isT (h : DS) (ci r : Nat) : Bool := match h.2.1[r]? with
  | some e => decide (e.1 = ci)
  | none => false
theorem isT_some (q : isT h ci r = true) : ∃ e, h.2.1[r]? = some e ∧ e.1 = ci := by
  unfold isT at q
  split at q
  · rename_i e he
    exact ⟨e, he, of_decide_eq_true q⟩
  · cases q
theorem dk_callV {As : List Value} (ci n : Nat) (hd : decode M.1 pc = .ok (.invokevirtual idx, 3)) (hp : pc + 3 = n) (ho : M.2.1.cls = own) (km : KM M' np) (ki : Cond.instanceMethod M'.2.1 ∈ TB) (kv : Cond.selects M'.2.1.cls M'.2.1 M'.2.1 ∈ TB) (hl : Cond.methodLink own idx M'.2.1 ∈ TB) (hm : M'.2.2.1 ≤ 21) (hci : ci < 15) (hcl : (vwC ci).1 = M'.2.1.cls) (hst0 : st0 = As.reverse ++ .ref r :: st) (hAs : As.length = np) (h8 : (st.map Value.category).sum ≤ 8) (hC : DCM SX d M' (.ref r :: As) h y)
    (k : ∀ v h1, y = some (v, h1) → DOk SX (d + 1) M n L (psh M' v ++ st) h1 (f v h1)) : DOk SX (d + 1) M pc L st0 h (chk (isT h ci r) (bd3 y f)) := by
  refine dk_chk fun hT => ?_
  obtain ⟨e, he, hec⟩ := isT_some hT
  subst hst0
  exact DOk.call hC (fun _ q => oR_callV q) (fun c g hn q => ok_callV (y := some (_, _)) (f := fun _ _ => _) n hd hp ho km ki kv hl hm he hec hci hcl rfl hAs h8 c g hn (fun v μ1 e => by cases e; exact q)) k
theorem dk_callI {As : List Value} (n : Nat) (hd : decode M.1 pc = .ok (.invokespecial idx, 3)) (hp : pc + 3 = n) (ho : M.2.1.cls = own) (km : KM M' np) (ki : Cond.instanceMethod M'.2.1 ∈ TB) (hl : Cond.methodLink own idx M'.2.1 ∈ TB) (hm : M'.2.2.1 ≤ 21) (hnm : M'.2.1.name = "<init>") (hrt : M'.2.2.2 = none) (hst0 : st0 = As.reverse ++ .ref r :: st) (hAs : As.length = np) (h8 : (st.map Value.category).sum ≤ 8) (hC : DCM SX d M' (.ref r :: As) h y)
    (k : ∀ v h1, y = some (v, h1) → DOk SX (d + 1) M n L st h1 (f v h1)) : DOk SX (d + 1) M pc L st0 h (bd3 y f) := by
  subst hst0
  exact DOk.call hC (fun _ q => oR_callV q) (fun c g hn q => ok_callI (y := some (_, _)) (f := fun _ _ => _) n hd hp ho km ki hl hm hnm hrt rfl hAs h8 c g hn (fun v μ1 e => by
    cases e
    rw [show ∀ z, psh M' z = [] from fun z => by simp [psh, hrt]] at q
    exact q)) (fun v h1 e => by rw [show psh M' v = [] by simp [psh, hrt]]; exact k v h1 e)
theorem dk_callIN {As : List Value} {host : String} (n i : Nat) (hd : decode M.1 pc = .ok (.invokespecial idx, 3)) (hp : pc + 3 = n) (ho : M.2.1.cls = own) (km : KM M' np) (ki : Cond.instanceMethod M'.2.1 ∈ TB) (hl : nestL[i]? = some (own, idx, M'.2.1, host)) (hm : M'.2.2.1 ≤ 21) (hnm : M'.2.1.name = "<init>") (hrt : M'.2.2.2 = none) (hst0 : st0 = As.reverse ++ .ref r :: st) (hAs : As.length = np) (h8 : (st.map Value.category).sum ≤ 8) (hC : DCM SX d M' (.ref r :: As) h y)
    (k : ∀ v h1, y = some (v, h1) → DOk SX (d + 1) M n L st h1 (f v h1)) : DOk SX (d + 1) M pc L st0 h (bd3 y f) := by
  subst hst0
  exact DOk.call hC (fun _ q => oR_callV q) (fun c g hn q => ok_callIN (y := some (_, _)) (f := fun _ _ => _) n i hd hp ho km ki hl hm hnm hrt rfl hAs h8 c g hn (fun v μ1 e => by
    cases e
    rw [show ∀ z, psh M' z = [] from fun z => by simp [psh, hrt]] at q
    exact q)) (fun v h1 e => by rw [show psh M' v = [] by simp [psh, hrt]]; exact k v h1 e)
/-- a method that a class above declares -/
theorem dk_callU {As : List Value} {M0 : MethodName} (n : Nat) (hd : decode M.1 pc = .ok (.invokevirtual idx, 3)) (hp : pc + 3 = n) (ho : M.2.1.cls = own) (km : KM M' np) (ki : Cond.instanceMethod M'.2.1 ∈ TB) (kv : Cond.selects "java/lang/StringBuilder" M'.2.1 M'.2.1 ∈ TB) (hs : Cond.sameMethod M'.2.1.cls M'.2.1.cls M'.2.1.name M'.2.1.desc ∈ TB) (hl : Cond.methodLink own idx M'.2.1 ∈ TB) (hm : M'.2.2.1 ≤ 21) (hst0 : st0 = As.reverse ++ .ref r :: st) (hAs : As.length = np) (h8 : (st.map Value.category).sum ≤ 8) (hC : DCM SX d M' (.ref r :: As) h y)
    (k : ∀ v h1, y = some (v, h1) → DOk SX (d + 1) M n L (psh M' v ++ st) h1 (f v h1)) : DOk SX (d + 1) M pc L st0 h (chk (isT h 13 r) (bd3 y f)) := by
  refine dk_chk fun hT => ?_
  obtain ⟨e, he, hec⟩ := isT_some hT
  subst hst0
  refine DOk.call hC (fun _ q => oR_callV q) (fun {Sh' Sh1 v1 μ1 x'} c g hn q => ?_) k
  subst ho
  refine Ok.call (y := some (_, _)) (f := fun _ _ => x') hp c g hn (fun {_ _ _ R s _ args _ _ _ _ _ _ _ D σ _ _ mc ms _ _ _} C Z hP hS hL hM hbl r1 r2 hf hpre => ?_) (fun v μ1 e => by cases e; exact q)
  have hts := C.2.2.2.2.1
  have hcu : va_CU R s args M.2.1.cls "java/lang/StringBuilder" M'.2.1.cls idx M'.2.1 M'.2.1 M'.1 M'.2.2.1 M'.2.2.2 (cw M') (RM d mc ms) mc ms np := by
    refine va_cwU np hts (fun w hw => ?_) rfl rfl rfl rfl km.2.2.1 ⟨r1, by show 8 + (M'.2.2.1 + 11) + 40 * d ≤ R.locals; omega⟩
    unfold va_wsU at hw
    rcases List.mem_append.mp hw with hw | hw
    · simp only [List.mem_cons, List.mem_nil_iff, or_false] at hw
      rcases hw with rfl | rfl | rfl | rfl | rfl
      · exact tb_good _ hl
      · exact tb_good _ hs
      · exact tb_good _ kv
      · exact tb_good _ ki
      · exact tb_good _ km.2.1
    · exact cw_good km.1 w hw
  refine va_runU (As := As.map (av σ)) (b := σ r) ⟨C.1, C.2.1, C.2.2.1, C.2.2.2.1, hts⟩ hM hcu ⟨hbl, ?_, hpre⟩ rfl (by simpa using hAs) hL.1 ?_ (lv_room (st8 h8)) hd hf
  · exact va_recv C.2.2.2.2.2.1 hP (kc 13 (by decide)).1 ((wd_at he).trans (by rw [ent_obj (show e.1 < 100 by omega), hec]))
  · simp [av]
/-- a class's method above, called by its own class -/
theorem dk_callSU {As : List Value} (n : Nat) (hd : decode M.1 pc = .ok (.invokespecial idx, 3)) (hp : pc + 3 = n) (ho : M.2.1.cls = "java/lang/StringBuilder") (km : KM M' np) (ki : Cond.instanceMethod M'.2.1 ∈ TB) (hs : Cond.sameMethod M'.2.1.cls M'.2.1.cls M'.2.1.name M'.2.1.desc ∈ TB) (hc : M'.2.1.cls = "java/lang/AbstractStringBuilder") (hni : M'.2.1.name ≠ "<init>") (hl : Cond.methodLink "java/lang/StringBuilder" idx M'.2.1 ∈ TB) (hm : M'.2.2.1 ≤ 21) (hst0 : st0 = As.reverse ++ .ref r :: st) (hAs : As.length = np) (h8 : (st.map Value.category).sum ≤ 8) (hC : DCM SX d M' (.ref r :: As) h y)
    (k : ∀ v h1, y = some (v, h1) → DOk SX (d + 1) M n L (psh M' v ++ st) h1 (f v h1)) : DOk SX (d + 1) M pc L st0 h (chk (isT h 13 r) (bd3 y f)) := by
  refine dk_chk fun hT => ?_
  obtain ⟨e, he, hec⟩ := isT_some hT
  subst hst0
  refine DOk.call hC (fun _ q => oR_callV q) (fun {Sh' Sh1 v1 μ1 x'} c g hn q => ?_) k
  refine Ok.call (y := some (_, _)) (f := fun _ _ => x') hp c g hn (fun {_ _ _ R s _ args _ _ _ _ _ _ _ D σ _ _ mc ms _ _ _} C Z hP hS hL hM hbl r1 r2 hf hpre => ?_) (fun v μ1 e => by cases e; exact q)
  have hts := C.2.2.2.2.1
  have hcs : va_CS R s args "java/lang/StringBuilder" idx M'.2.1 M'.1 M'.2.2.1 M'.2.2.2 (cw M') (RM d mc ms) mc ms np := by
    refine va_cwSU np hts (fun w hw => ?_) rfl rfl rfl ⟨hni, km.2.2.1.2.2⟩ ⟨r1, by show 8 + (M'.2.2.1 + 11) + 40 * d ≤ R.locals; omega⟩
    unfold va_wsSU at hw
    rcases List.mem_append.mp hw with hw | hw
    · simp only [List.mem_cons, List.mem_nil_iff, or_false] at hw
      rcases hw with rfl | rfl | rfl | rfl | rfl
      · exact tb_good _ hl
      · exact tb_good _ hs
      · rw [hc]; exact tb_good _ sc_java_lang_StringBuilder
      · exact tb_good _ ki
      · exact tb_good _ km.2.1
    · exact cw_good km.1 w hw
  have hown := C.2.2.2.1
  rw [ho] at hown
  refine va_runSU (As := As.map (av σ)) (b := σ r) (C := "java/lang/StringBuilder") (cC := D.1 13) (C.2.2.2.2.2.1.1 13 _ (kc 13 (by decide)).1).2 ⟨C.1, C.2.1, C.2.2.1, hown, hts⟩ hM hcs ⟨hbl, ?_, hpre⟩ rfl (by simpa using hAs) hL.1 ?_ (lv_room (st8 h8)) hd hf
  · exact va_recv C.2.2.2.2.2.1 hP (kc 13 (by decide)).1 ((wd_at he).trans (by rw [ent_obj (show e.1 < 100 by omega), hec]))
  · simp [av]
end DYN4
