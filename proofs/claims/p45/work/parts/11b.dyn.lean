/-! A WORLD THAT GROWS: the class's cells 0 to 122 as they are, behind them what the law makes; every look and every write is tested -/
theorem wd_atA {σ : Nat → Nat} {D : va_G} {Sh : List SE} {μ : Mem} {k n t : Nat} {rs : List (Option Nat)} (ht : t = 100 ∨ t = 102) (h : Sh[k]? = some (t, n, rs)) : (wd σ D Sh μ)[k]? = some (σ k, .inl (D.1 t, n, .inl (μ k))) := (wd_at h).trans (by rw [ent_arrT ht])
theorem wd_atQ {σ : Nat → Nat} {D : va_G} {Sh : List SE} {μ : Mem} {k n t : Nat} {rs : List (Option Nat)} (ht : t = 101 ∨ t = 103 ∨ t = 104) (h : Sh[k]? = some (t, n, rs)) : (wd σ D Sh μ)[k]? = some (σ k, .inl (D.1 t, n, .inr (.inr (.inr (.inr (fun j => (rs.getD j none).map σ)))))) := (wd_at h).trans (by rw [ent_rarrT ht])
abbrev DS : Type := Mem × List SE × Mem
abbrev DA : Type := Option (Int32 × DS)
def lk (h : DS) : Prop := (∀ k, k < 123 → h.2.2 k = h.1 k) ∧ (∀ k, k < 123 → h.2.1[k]? = SG[k]?) ∧ wfS h.2.1 ∧ h.2.1.length < 1000000
def vok (M : MD) (v : Int32) (n : Nat) : Prop := ∀ ty, M.2.2.2 = some ty → rfT ty → v = -1 ∨ (v.toNatClampNeg < n ∨ 1000000 ≤ v.toNatClampNeg)
def DOk (SX : SXT) (d : Nat) (M : MD) (pc : Nat) (L : List (Option Value)) (st : List Value) (h : DS) (x : DA) : Prop :=
  ∀ (v : Int32) (h' : DS), x = some (v, h') → lk h → okR (csz h.2.1) L st → lk h' ∧ (csz h.2.1 ≤ csz h'.2.1 ∧ ssz h.2.1 ≤ ssz h'.2.1) ∧ vok M v (csz h'.2.1) ∧ Ok SX h'.2.1 d M pc L st h.2.1 h.2.2 (some (v, h'.2.2))
def bo {α β : Type} (x : Option α) (k : α → Option β) : Option β := match x with
  | none => none
  | some a => k a
def bd3 (x : DA) (k : Int32 → DS → DA) : DA := match x with
  | none => none
  | some q => k q.1 q.2
/-! what refers to cells that are there -/
theorem oR_i {n : Nat} {L : List (Option Value)} {st : List Value} {a : Int32} (h : okR n L st) : okR n L (.int a :: st) := ⟨h.1, fun k hk => by
  rcases List.mem_cons.mp hk with e | e
  · cases e
  · exact h.2 k e⟩
theorem oR_g {n : Nat} {L : List (Option Value)} {st : List Value} {a : Int64} (h : okR n L st) : okR n L (.long a :: st) := ⟨h.1, fun k hk => by
  rcases List.mem_cons.mp hk with e | e
  · cases e
  · exact h.2 k e⟩
theorem oR_n {n : Nat} {L : List (Option Value)} {st : List Value} (h : okR n L st) : okR n L (.null :: st) := ⟨h.1, fun k hk => by
  rcases List.mem_cons.mp hk with e | e
  · cases e
  · exact h.2 k e⟩
theorem oR_t {n : Nat} {L : List (Option Value)} {st : List Value} {v : Value} (h : okR n L (v :: st)) : okR n L st := ⟨h.1, fun k hk => h.2 k (List.mem_cons_of_mem _ hk)⟩
theorem oR_r {n : Nat} {L : List (Option Value)} {st : List Value} {r : Nat} (hr : r < n ∨ 1000000 ≤ r) (h : okR n L st) : okR n L (.ref r :: st) := ⟨h.1, fun k hk => by
  rcases List.mem_cons.mp hk with e | e
  · cases e; exact hr
  · exact h.2 k e⟩
theorem oR_l {n i : Nat} {L : List (Option Value)} {st : List Value} {v : Value} (hl : L[i]? = some (some v)) (h : okR n L st) : okR n L (v :: st) := ⟨h.1, fun k hk => by
  rcases List.mem_cons.mp hk with e | e
  · exact h.1 i k (by rw [hl, e])
  · exact h.2 k e⟩
theorem oR_d {n : Nat} {L : List (Option Value)} {st : List Value} {v : Value} (h : okR n L (v :: st)) : okR n L (v :: v :: st) := ⟨h.1, fun k hk => by
  rcases List.mem_cons.mp hk with e | e
  · exact h.2 k (by rw [e]; exact List.mem_cons_self)
  · exact h.2 k e⟩
theorem oR_h {n : Nat} {L : List (Option Value)} {st : List Value} {r : Nat} (h : okR n L (.ref r :: st)) : r < n ∨ 1000000 ≤ r := h.2 r List.mem_cons_self
theorem oR_m {n n' : Nat} {L : List (Option Value)} {st : List Value} (hn : n ≤ n') (h : okR n L st) : okR n' L st := ⟨fun i k hk => (h.1 i k hk).imp (fun q => Nat.lt_of_lt_of_le q hn) id, fun k hk => (h.2 k hk).imp (fun q => Nat.lt_of_lt_of_le q hn) id⟩
theorem kil_ref {o : Option Value} {k : Nat} (h : kil o = some (Value.ref k)) : o = some (Value.ref k) := by
  unfold kil at h
  split at h
  · cases h
  · cases h
  · exact h
theorem lset_ref : ∀ (L : List (Option Value)) (i : Nat) (v : Value) (j k : Nat), (lset L i v)[j]? = some (some (Value.ref k)) → v = Value.ref k ∨ ∃ j' : Nat, L[j']? = some (some (Value.ref k))
  | [], _, _, _, _, h => by simp [lset] at h
  | o :: L, 0, v, 0, k, h => by
    simp [lset] at h
    exact Or.inl h
  | o :: L, 0, v, j + 1, k, h => Or.inr ⟨j + 1, by simpa [lset] using h⟩
  | o :: L, 1, v, 0, k, h => by
    simp [lset] at h
    exact Or.inr ⟨0, by simpa using kil_ref h⟩
  | o :: L, 1, v, j + 1, k, h => by
    rcases lset_ref L 0 v j k (by simpa [lset] using h) with q | ⟨j', q⟩
    · exact Or.inl q
    · exact Or.inr ⟨j' + 1, by simpa using q⟩
  | o :: L, i + 2, v, 0, k, h => Or.inr ⟨0, by simpa [lset] using h⟩
  | o :: L, i + 2, v, j + 1, k, h => by
    rcases lset_ref L (i + 1) v j k (by simpa [lset] using h) with q | ⟨j', q⟩
    · exact Or.inl q
    · exact Or.inr ⟨j' + 1, by simpa using q⟩
theorem oR_s {n i : Nat} {L L' : List (Option Value)} {st : List Value} {v : Value} (hl : lset L i v = L') (h : okR n L (v :: st)) : okR n L' st := by
  subst hl
  refine ⟨fun j k hk => ?_, (oR_t h).2⟩
  rcases lset_ref L i v j k hk with e | ⟨j', e⟩
  · exact h.2 k (by rw [e]; exact List.mem_cons_self)
  · exact h.1 j' k e
theorem oR_w {n : Nat} {L L' : List (Option Value)} {st : List Value} (hl : ∀ (i : Nat) (v : Value), L'[i]? = some (some v) → L[i]? = some (some v)) (h : okR n L st) : okR n L' st := ⟨fun i k hk => h.1 i k (hl i _ hk), h.2⟩
theorem oR_ap {n : Nat} {L : List (Option Value)} : ∀ {A st : List Value}, okR n L (A ++ st) → okR n L st
  | [], _, h => h
  | _ :: A, st, h => oR_ap (A := A) (oR_t h)
section DYN
variable {SX : SXT} {d : Nat} {M : MD} {pc : Nat} {L : List (Option Value)} {st : List Value} {h : DS} {x x1 x2 : DA} {a b : Int32} {r r2 : Nat} {w w2 : Value} {own : String} {idx ci j : Nat}
theorem DOk.nil : DOk SX d M pc L st h none := fun v h' q => by cases q
theorem DOk.go1 {n : Nat} {L' : List (Option Value)} {st' : List Value} (g : ∀ {Sh' : List SE} {x' : Ans}, Ok SX Sh' d M n L' st' h.2.1 h.2.2 x' → Ok SX Sh' d M pc L st h.2.1 h.2.2 x') (ho : ∀ m, okR m L st → okR m L' st') (k : DOk SX d M n L' st' h x) : DOk SX d M pc L st h x := by
  intro v h' hx hl hok
  obtain ⟨a1, a2, a3, a4⟩ := k v h' hx hl (ho _ hok)
  exact ⟨a1, a2, a3, g a4⟩
theorem dk_less (L' : List (Option Value)) (hl : lsub L' L) (k : DOk SX d M pc L' st h x) : DOk SX d M pc L st h x := DOk.go1 (fun q => ok_less L' hl q) (fun _ q => oR_w (lsub_get L' L hl) q) k
theorem dk_iconst (n : Nat) {z : Int} (a : Int32) (hd : decode M.1 pc = .ok (.iconst z, 1)) (hp : pc + 1 = n) (hv : Int32.ofInt z = a) (k : DOk SX d M n L (.int a :: st) h x) : DOk SX d M pc L st h x := DOk.go1 (fun q => ok_iconst n a hd hp hv q) (fun _ q => oR_i q) k
theorem dk_bipush (n : Nat) {z : Int} (a : Int32) (hd : decode M.1 pc = .ok (.bipush z, 2)) (hp : pc + 2 = n) (hv : (Int8.ofInt z).toInt32 = a) (k : DOk SX d M n L (.int a :: st) h x) : DOk SX d M pc L st h x := DOk.go1 (fun q => ok_bipush n a hd hp hv q) (fun _ q => oR_i q) k
theorem dk_sipush (n : Nat) {z : Int} (a : Int32) (hd : decode M.1 pc = .ok (.sipush z, 3)) (hp : pc + 3 = n) (hv : (Int16.ofInt z).toInt32 = a) (k : DOk SX d M n L (.int a :: st) h x) : DOk SX d M pc L st h x := DOk.go1 (fun q => ok_sipush n a hd hp hv q) (fun _ q => oR_i q) k
theorem dk_ldc (n : Nat) {own : String} {i : Nat} (a : Int32) (hd : decode M.1 pc = .ok (.ldc i, 2)) (hp : pc + 2 = n) (ho : M.2.1.cls = own) (hw : Cond.constant own i a ∈ TB) (k : DOk SX d M n L (.int a :: st) h x) : DOk SX d M pc L st h x := DOk.go1 (fun q => ok_ldc n a hd hp ho hw q) (fun _ q => oR_i q) k
theorem dk_ldcw (n : Nat) {own : String} {i : Nat} (a : Int32) (hd : decode M.1 pc = .ok (.ldc_w i, 3)) (hp : pc + 3 = n) (ho : M.2.1.cls = own) (hw : Cond.constant own i a ∈ TB) (k : DOk SX d M n L (.int a :: st) h x) : DOk SX d M pc L st h x := DOk.go1 (fun q => ok_ldcw n a hd hp ho hw q) (fun _ q => oR_i q) k
theorem dk_ldcS (n k0 r : Nat) {q : String × Nat × String} (hd : decode M.1 pc = .ok (.ldc idx, 2)) (hp : pc + 2 = n) (hk : strAll[k0]? = some q) (hq : (q.1, q.2.1) = (M.2.1.cls, idx)) (hr : strNo k0 = r) (k : DOk SX d M n L (.ref r :: st) h x) : DOk SX d M pc L st h x := by
  subst hr
  exact DOk.go1 (fun q => ok_ldcS n k0 hd hp hk hq q) (fun _ q => oR_r (Or.inr (strNo_ge k0)) q) k
theorem dk_iload_n (n i : Nat) {z : Fin 4} (hd : decode M.1 pc = .ok (.iload_n z, 1)) (hp : pc + 1 = n) (hi : (z : Nat) = i) (hl : L[i]? = some (some (.int a))) (k : DOk SX d M n L (.int a :: st) h x) : DOk SX d M pc L st h x := DOk.go1 (fun q => ok_iload_n n i hd hp hi hl q) (fun _ q => oR_i q) k
theorem dk_iload (n i : Nat) (hd : decode M.1 pc = .ok (.iload i, 2)) (hp : pc + 2 = n) (hl : L[i]? = some (some (.int a))) (k : DOk SX d M n L (.int a :: st) h x) : DOk SX d M pc L st h x := DOk.go1 (fun q => ok_iload n i hd hp hl q) (fun _ q => oR_i q) k
theorem dk_aload_n (n i : Nat) {z : Fin 4} (hd : decode M.1 pc = .ok (.aload_n z, 1)) (hp : pc + 1 = n) (hi : (z : Nat) = i) (hl : L[i]? = some (some (.ref r))) (k : DOk SX d M n L (.ref r :: st) h x) : DOk SX d M pc L st h x := DOk.go1 (fun q => ok_aload_n n i hd hp hi hl q) (fun _ q => oR_l hl q) k
theorem ok_aload {Sh' Sh : List SE} {μ : Mem} {x : Ans} (n i : Nat) (hd : decode M.1 pc = .ok (.aload i, 2)) (hp : pc + 2 = n) (hl : L[i]? = some (some (.ref r))) (k : Ok SX Sh' d M n L (.ref r :: st) Sh μ x) : Ok SX Sh' d M pc L st Sh μ x := by
  subst hp; exact Ok.go (fun C _ h => lv_aload C.1 C.2.1 hd (h.at hl)) k
theorem dk_aload (n i : Nat) (hd : decode M.1 pc = .ok (.aload i, 2)) (hp : pc + 2 = n) (hl : L[i]? = some (some (.ref r))) (k : DOk SX d M n L (.ref r :: st) h x) : DOk SX d M pc L st h x := DOk.go1 (fun q => ok_aload n i hd hp hl q) (fun _ q => oR_l hl q) k
theorem dk_iadd (n : Nat) (hd : decode M.1 pc = .ok (.iadd, 1)) (hp : pc + 1 = n) (k : DOk SX d M n L (.int (a + b) :: st) h x) : DOk SX d M pc L (.int b :: .int a :: st) h x := DOk.go1 (fun q => ok_iadd n hd hp q) (fun _ q => oR_i (oR_t (oR_t q))) k
theorem dk_isub (n : Nat) (hd : decode M.1 pc = .ok (.isub, 1)) (hp : pc + 1 = n) (k : DOk SX d M n L (.int (a - b) :: st) h x) : DOk SX d M pc L (.int b :: .int a :: st) h x := DOk.go1 (fun q => ok_isub n hd hp q) (fun _ q => oR_i (oR_t (oR_t q))) k
theorem dk_imul (n : Nat) (hd : decode M.1 pc = .ok (.imul, 1)) (hp : pc + 1 = n) (k : DOk SX d M n L (.int (a * b) :: st) h x) : DOk SX d M pc L (.int b :: .int a :: st) h x := DOk.go1 (fun q => ok_imul n hd hp q) (fun _ q => oR_i (oR_t (oR_t q))) k
theorem dk_iand (n : Nat) (hd : decode M.1 pc = .ok (.iand, 1)) (hp : pc + 1 = n) (k : DOk SX d M n L (.int (a &&& b) :: st) h x) : DOk SX d M pc L (.int b :: .int a :: st) h x := DOk.go1 (fun q => ok_iand n hd hp q) (fun _ q => oR_i (oR_t (oR_t q))) k
theorem dk_ior (n : Nat) (hd : decode M.1 pc = .ok (.ior, 1)) (hp : pc + 1 = n) (k : DOk SX d M n L (.int (a ||| b) :: st) h x) : DOk SX d M pc L (.int b :: .int a :: st) h x := DOk.go1 (fun q => ok_ior n hd hp q) (fun _ q => oR_i (oR_t (oR_t q))) k
theorem dk_ishl (n : Nat) (hd : decode M.1 pc = .ok (.ishl, 1)) (hp : pc + 1 = n) (k : DOk SX d M n L (.int (a <<< (b &&& 31)) :: st) h x) : DOk SX d M pc L (.int b :: .int a :: st) h x := DOk.go1 (fun q => ok_ishl n hd hp q) (fun _ q => oR_i (oR_t (oR_t q))) k
theorem dk_ishr (n : Nat) (hd : decode M.1 pc = .ok (.ishr, 1)) (hp : pc + 1 = n) (k : DOk SX d M n L (.int (a >>> (b &&& 31)) :: st) h x) : DOk SX d M pc L (.int b :: .int a :: st) h x := DOk.go1 (fun q => ok_ishr n hd hp q) (fun _ q => oR_i (oR_t (oR_t q))) k
theorem dk_iushr (n : Nat) (hd : decode M.1 pc = .ok (.iushr, 1)) (hp : pc + 1 = n) (k : DOk SX d M n L (.int (ushr a b) :: st) h x) : DOk SX d M pc L (.int b :: .int a :: st) h x := DOk.go1 (fun q => ok_iushr n hd hp q) (fun _ q => oR_i (oR_t (oR_t q))) k
theorem ok_ineg {Sh' Sh : List SE} {μ : Mem} {x : Ans} (n : Nat) (hd : decode M.1 pc = .ok (.ineg, 1)) (hp : pc + 1 = n) (k : Ok SX Sh' d M n L (.int (0 - a) :: st) Sh μ x) : Ok SX Sh' d M pc L (.int a :: st) Sh μ x := by
  subst hp; exact Ok.go (fun C _ _ => lv_ineg C.1 C.2.1 hd) k
theorem dk_ineg (n : Nat) (hd : decode M.1 pc = .ok (.ineg, 1)) (hp : pc + 1 = n) (k : DOk SX d M n L (.int (0 - a) :: st) h x) : DOk SX d M pc L (.int a :: st) h x := DOk.go1 (fun q => ok_ineg n hd hp q) (fun _ q => oR_i (oR_t q)) k
theorem dk_idivc (n : Nat) (hd : decode M.1 pc = .ok (.idiv, 1)) (hp : pc + 1 = n) (hz : b ≠ 0) (k : DOk SX d M n L (.int (a / b) :: st) h x) : DOk SX d M pc L (.int b :: .int a :: st) h x := DOk.go1 (fun q => ok_idivc n hd hp hz q) (fun _ q => oR_i (oR_t (oR_t q))) k
theorem dk_iremc (n : Nat) (hd : decode M.1 pc = .ok (.irem, 1)) (hp : pc + 1 = n) (hz : b ≠ 0) (k : DOk SX d M n L (.int (irm a b) :: st) h x) : DOk SX d M pc L (.int b :: .int a :: st) h x := DOk.go1 (fun q => ok_iremc n hd hp hz q) (fun _ q => oR_i (oR_t (oR_t q))) k
theorem dk_chk {b : Bool} (k : b = true → DOk SX d M pc L st h x) : DOk SX d M pc L st h (chk b x) := by
  cases b with
  | true => exact k rfl
  | false => exact DOk.nil
theorem dk_irem (n : Nat) (hd : decode M.1 pc = .ok (.irem, 1)) (hp : pc + 1 = n) (k : DOk SX d M n L (.int (irm a b) :: st) h x) : DOk SX d M pc L (.int b :: .int a :: st) h (chk (decide (b ≠ 0)) x) := dk_chk fun hz => dk_iremc n hd hp (of_decide_eq_true hz) k
theorem dk_i2c (n : Nat) (hd : decode M.1 pc = .ok (.i2c, 1)) (hp : pc + 1 = n) (k : DOk SX d M n L (.int (a.toUInt32 % 65536).toInt32 :: st) h x) : DOk SX d M pc L (.int a :: st) h x := DOk.go1 (fun q => ok_i2c n hd hp q) (fun _ q => oR_i (oR_t q)) k
theorem dk_dup (n : Nat) (hd : decode M.1 pc = .ok (.dup, 1)) (hp : pc + 1 = n) (hc : w.category = 1) (k : DOk SX d M n L (w :: w :: st) h x) : DOk SX d M pc L (w :: st) h x := DOk.go1 (fun q => ok_dup n hd hp hc q) (fun _ q => oR_d q) k
theorem oR_d2 {n : Nat} {L : List (Option Value)} {st : List Value} {v u : Value} (h : okR n L (v :: u :: st)) : okR n L (v :: u :: v :: u :: st) := ⟨h.1, fun k hk => by
  simp only [List.mem_cons] at hk
  rcases hk with e | e | e | e | e
  · exact h.2 k (by rw [e]; simp)
  · exact h.2 k (by rw [e]; simp)
  · exact h.2 k (by rw [e]; simp)
  · exact h.2 k (by rw [e]; simp)
  · exact h.2 k (by simp [e])⟩
theorem dk_dup2 (n : Nat) (hd : decode M.1 pc = .ok (.dup2, 1)) (hp : pc + 1 = n) (hc : w.category = 1) (hc2 : w2.category = 1) (k : DOk SX d M n L (w :: w2 :: w :: w2 :: st) h x) : DOk SX d M pc L (w :: w2 :: st) h x := DOk.go1 (fun q => ok_dup2 n hd hp hc hc2 q) (fun _ q => oR_d2 q) k
theorem ok_dup_x1 {Sh' Sh : List SE} {μ : Mem} {x : Ans} (n : Nat) (hd : decode M.1 pc = .ok (.dup_x1, 1)) (hp : pc + 1 = n) (hc : w.category = 1) (hc2 : w2.category = 1) (k : Ok SX Sh' d M n L (w :: w2 :: w :: st) Sh μ x) : Ok SX Sh' d M pc L (w :: w2 :: st) Sh μ x := by
  subst hp; exact Ok.go (fun C _ _ => lv_dup_x1 C.1 C.2.1 hd ((av_cat _ w).trans hc) ((av_cat _ w2).trans hc2)) k
theorem oR_x {n : Nat} {L : List (Option Value)} {st : List Value} {v u : Value} (h : okR n L (v :: u :: st)) : okR n L (v :: u :: v :: st) := ⟨h.1, fun k hk => by
  simp only [List.mem_cons] at hk
  rcases hk with e | e | e | e
  · exact h.2 k (by rw [e]; simp)
  · exact h.2 k (by rw [e]; simp)
  · exact h.2 k (by rw [e]; simp)
  · exact h.2 k (by simp [e])⟩
theorem dk_dup_x1 (n : Nat) (hd : decode M.1 pc = .ok (.dup_x1, 1)) (hp : pc + 1 = n) (hc : w.category = 1) (hc2 : w2.category = 1) (k : DOk SX d M n L (w :: w2 :: w :: st) h x) : DOk SX d M pc L (w :: w2 :: st) h x := DOk.go1 (fun q => ok_dup_x1 n hd hp hc hc2 q) (fun _ q => oR_x q) k
theorem dk_pop (n : Nat) (hd : decode M.1 pc = .ok (.pop, 1)) (hp : pc + 1 = n) (hc : w.category = 1) (k : DOk SX d M n L st h x) : DOk SX d M pc L (w :: st) h x := DOk.go1 (fun q => ok_pop n hd hp hc q) (fun _ q => oR_t q) k
theorem dk_goto (t : Nat) {o : Int} (hd : decode M.1 pc = .ok (.goto o, 3)) (ht : (pc : Int) + o = (t : Int)) (k : DOk SX d M t L st h x) : DOk SX d M pc L st h x := DOk.go1 (fun q => ok_goto t hd ht q) (fun _ q => q) k
theorem dk_null (n : Nat) (hd : decode M.1 pc = .ok (.aconst_null, 1)) (hp : pc + 1 = n) (k : DOk SX d M n L (.null :: st) h x) : DOk SX d M pc L st h x := DOk.go1 (fun q => ok_null n hd hp q) (fun _ q => oR_n q) k
theorem dk_istore (n i : Nat) (L' : List (Option Value)) (hd : decode M.1 pc = .ok (.istore i, 2)) (hp : pc + 2 = n) (hi : i < M.2.2.1) (hl : lset L i (.int a) = L') (k : DOk SX d M n L' st h x) : DOk SX d M pc L (.int a :: st) h x := DOk.go1 (fun q => ok_istore n i L' hd hp hi hl q) (fun _ q => oR_s hl q) k
theorem dk_istore_n (n i : Nat) {z : Fin 4} (L' : List (Option Value)) (hd : decode M.1 pc = .ok (.istore_n z, 1)) (hp : pc + 1 = n) (hz : (z : Nat) = i) (hi : i < M.2.2.1) (hl : lset L i (.int a) = L') (k : DOk SX d M n L' st h x) : DOk SX d M pc L (.int a :: st) h x := DOk.go1 (fun q => ok_istore_n n i L' hd hp hz hi hl q) (fun _ q => oR_s hl q) k
theorem dk_astore_n (n i : Nat) {z : Fin 4} (L' : List (Option Value)) (hd : decode M.1 pc = .ok (.astore_n z, 1)) (hp : pc + 1 = n) (hz : (z : Nat) = i) (hi : i < M.2.2.1) (hl : lset L i (.ref r) = L') (k : DOk SX d M n L' st h x) : DOk SX d M pc L (.ref r :: st) h x := DOk.go1 (fun q => ok_astore_n n i L' hd hp hz hi hl q) (fun _ q => oR_s hl q) k
theorem ok_astore {Sh' Sh : List SE} {μ : Mem} {x : Ans} (n i : Nat) (L' : List (Option Value)) (hd : decode M.1 pc = .ok (.astore i, 2)) (hp : pc + 2 = n) (hi : i < M.2.2.1) (hl : lset L i (.ref r) = L') (k : Ok SX Sh' d M n L' st Sh μ x) : Ok SX Sh' d M pc L (.ref r :: st) Sh μ x := by
  subst hp; subst hl; exact Ok.goL (fun C h kk => lv_astore C.1 C.2.1 hd h.has hi rfl (fun ls' q => kk ls' (lvR.set1 (v := .ref r) q))) k
theorem dk_astore (n i : Nat) (L' : List (Option Value)) (hd : decode M.1 pc = .ok (.astore i, 2)) (hp : pc + 2 = n) (hi : i < M.2.2.1) (hl : lset L i (.ref r) = L') (k : DOk SX d M n L' st h x) : DOk SX d M pc L (.ref r :: st) h x := DOk.go1 (fun q => ok_astore n i L' hd hp hi hl q) (fun _ q => oR_s hl q) k
theorem dk_iinc (n i : Nat) {z : Int} {a : Int32} (b : Int32) (L' : List (Option Value)) (hd : decode M.1 pc = .ok (.iinc i z, 3)) (hp : pc + 3 = n) (hg : L[i]? = some (some (.int a))) (hv : Int32.ofInt z = b) (hi : i < M.2.2.1) (hl : lset L i (.int (a + b)) = L') (k : DOk SX d M n L' st h x) : DOk SX d M pc L st h x := DOk.go1 (fun q => ok_iinc n i b L' hd hp hg hv hi hl q) (fun _ q => oR_s hl (oR_i q)) k
/-! branches -/
theorem DOk.br {t n : Nat} {st' : List Value} {P : Prop} [hdec : Decidable P] (g : ∀ {Sh' : List SE} (y1 y2 : Ans), (P → Ok SX Sh' d M t L st' h.2.1 h.2.2 y1) → (¬ P → Ok SX Sh' d M n L st' h.2.1 h.2.2 y2) → Ok SX Sh' d M pc L st h.2.1 h.2.2 (if P then y1 else y2)) (ho : ∀ m, okR m L st → okR m L st')
    (kt : P → DOk SX d M t L st' h x1) (kf : ¬ P → DOk SX d M n L st' h x2) : DOk SX d M pc L st h (if P then x1 else x2) := by
  intro v h' hx hl hok
  by_cases q : P
  · rw [if_pos q] at hx
    obtain ⟨a1, a2, a3, a4⟩ := kt q v h' hx hl (ho _ hok)
    have := g (Sh' := h'.2.1) (some (v, h'.2.2)) Option.none (fun _ => a4) (fun z => absurd q z)
    rw [if_pos q] at this
    exact ⟨a1, a2, a3, this⟩
  · rw [if_neg q] at hx
    obtain ⟨a1, a2, a3, a4⟩ := kf q v h' hx hl (ho _ hok)
    have := g (Sh' := h'.2.1) Option.none (some (v, h'.2.2)) (fun z => absurd z q) (fun _ => a4)
    rw [if_neg q] at this
    exact ⟨a1, a2, a3, this⟩
theorem oR_2 {n : Nat} {L : List (Option Value)} {st : List Value} {v u : Value} (h : okR n L (v :: u :: st)) : okR n L st := oR_t (oR_t h)
theorem dk_icmp_eq (t n : Nat) {o : Int} (hd : decode M.1 pc = .ok (.if_icmp .eq o, 3)) (ht : (pc : Int) + o = (t : Int)) (hp : pc + 3 = n) (kt : a = b → DOk SX d M t L st h x1) (kf : ¬ a = b → DOk SX d M n L st h x2) : DOk SX d M pc L (.int b :: .int a :: st) h (if a = b then x1 else x2) := DOk.br (fun _ _ k1 k2 => ok_icmp_eq t n hd ht hp k1 k2) (fun _ q => oR_2 q) kt kf
theorem dk_icmp_ne (t n : Nat) {o : Int} (hd : decode M.1 pc = .ok (.if_icmp .ne o, 3)) (ht : (pc : Int) + o = (t : Int)) (hp : pc + 3 = n) (kt : ¬ a = b → DOk SX d M t L st h x2) (kf : a = b → DOk SX d M n L st h x1) : DOk SX d M pc L (.int b :: .int a :: st) h (if a = b then x1 else x2) := DOk.br (t := n) (n := t) (fun _ _ k1 k2 => ok_icmp_ne t n hd ht hp k2 k1) (fun _ q => oR_2 q) kf kt
theorem dk_icmp_lt (t n : Nat) {o : Int} (hd : decode M.1 pc = .ok (.if_icmp .lt o, 3)) (ht : (pc : Int) + o = (t : Int)) (hp : pc + 3 = n) (kt : a < b → DOk SX d M t L st h x1) (kf : ¬ a < b → DOk SX d M n L st h x2) : DOk SX d M pc L (.int b :: .int a :: st) h (if a < b then x1 else x2) := DOk.br (fun _ _ k1 k2 => ok_icmp_lt t n hd ht hp k1 k2) (fun _ q => oR_2 q) kt kf
theorem dk_icmp_ge (t n : Nat) {o : Int} (hd : decode M.1 pc = .ok (.if_icmp .ge o, 3)) (ht : (pc : Int) + o = (t : Int)) (hp : pc + 3 = n) (kt : b ≤ a → DOk SX d M t L st h x1) (kf : ¬ b ≤ a → DOk SX d M n L st h x2) : DOk SX d M pc L (.int b :: .int a :: st) h (if b ≤ a then x1 else x2) := DOk.br (fun _ _ k1 k2 => ok_icmp_ge t n hd ht hp k1 k2) (fun _ q => oR_2 q) kt kf
theorem dk_icmp_gt (t n : Nat) {o : Int} (hd : decode M.1 pc = .ok (.if_icmp .gt o, 3)) (ht : (pc : Int) + o = (t : Int)) (hp : pc + 3 = n) (kt : b < a → DOk SX d M t L st h x1) (kf : ¬ b < a → DOk SX d M n L st h x2) : DOk SX d M pc L (.int b :: .int a :: st) h (if b < a then x1 else x2) := DOk.br (fun _ _ k1 k2 => ok_icmp_gt t n hd ht hp k1 k2) (fun _ q => oR_2 q) kt kf
theorem dk_icmp_le (t n : Nat) {o : Int} (hd : decode M.1 pc = .ok (.if_icmp .le o, 3)) (ht : (pc : Int) + o = (t : Int)) (hp : pc + 3 = n) (kt : a ≤ b → DOk SX d M t L st h x1) (kf : ¬ a ≤ b → DOk SX d M n L st h x2) : DOk SX d M pc L (.int b :: .int a :: st) h (if a ≤ b then x1 else x2) := DOk.br (fun _ _ k1 k2 => ok_icmp_le t n hd ht hp k1 k2) (fun _ q => oR_2 q) kt kf
theorem dk_if_eq (t n : Nat) {o : Int} (hd : decode M.1 pc = .ok (.ifCond .eq o, 3)) (ht : (pc : Int) + o = (t : Int)) (hp : pc + 3 = n) (kt : a = 0 → DOk SX d M t L st h x1) (kf : ¬ a = 0 → DOk SX d M n L st h x2) : DOk SX d M pc L (.int a :: st) h (if a = 0 then x1 else x2) := DOk.br (fun _ _ k1 k2 => ok_if_eq t n hd ht hp k1 k2) (fun _ q => oR_t q) kt kf
theorem dk_if_ne (t n : Nat) {o : Int} (hd : decode M.1 pc = .ok (.ifCond .ne o, 3)) (ht : (pc : Int) + o = (t : Int)) (hp : pc + 3 = n) (kt : ¬ a = 0 → DOk SX d M t L st h x2) (kf : a = 0 → DOk SX d M n L st h x1) : DOk SX d M pc L (.int a :: st) h (if a = 0 then x1 else x2) := DOk.br (t := n) (n := t) (fun _ _ k1 k2 => ok_if_ne t n hd ht hp k2 k1) (fun _ q => oR_t q) kf kt
theorem dk_if_lt (t n : Nat) {o : Int} (hd : decode M.1 pc = .ok (.ifCond .lt o, 3)) (ht : (pc : Int) + o = (t : Int)) (hp : pc + 3 = n) (kt : a < 0 → DOk SX d M t L st h x1) (kf : ¬ a < 0 → DOk SX d M n L st h x2) : DOk SX d M pc L (.int a :: st) h (if a < 0 then x1 else x2) := DOk.br (fun _ _ k1 k2 => ok_if_lt t n hd ht hp k1 k2) (fun _ q => oR_t q) kt kf
theorem dk_if_ge (t n : Nat) {o : Int} (hd : decode M.1 pc = .ok (.ifCond .ge o, 3)) (ht : (pc : Int) + o = (t : Int)) (hp : pc + 3 = n) (kt : 0 ≤ a → DOk SX d M t L st h x1) (kf : ¬ 0 ≤ a → DOk SX d M n L st h x2) : DOk SX d M pc L (.int a :: st) h (if 0 ≤ a then x1 else x2) := DOk.br (fun _ _ k1 k2 => ok_if_ge t n hd ht hp k1 k2) (fun _ q => oR_t q) kt kf
theorem dk_if_gt (t n : Nat) {o : Int} (hd : decode M.1 pc = .ok (.ifCond .gt o, 3)) (ht : (pc : Int) + o = (t : Int)) (hp : pc + 3 = n) (kt : 0 < a → DOk SX d M t L st h x1) (kf : ¬ 0 < a → DOk SX d M n L st h x2) : DOk SX d M pc L (.int a :: st) h (if 0 < a then x1 else x2) := DOk.br (fun _ _ k1 k2 => ok_if_gt t n hd ht hp k1 k2) (fun _ q => oR_t q) kt kf
theorem dk_if_le (t n : Nat) {o : Int} (hd : decode M.1 pc = .ok (.ifCond .le o, 3)) (ht : (pc : Int) + o = (t : Int)) (hp : pc + 3 = n) (kt : a ≤ 0 → DOk SX d M t L st h x1) (kf : ¬ a ≤ 0 → DOk SX d M n L st h x2) : DOk SX d M pc L (.int a :: st) h (if a ≤ 0 then x1 else x2) := DOk.br (fun _ _ k1 k2 => ok_if_le t n hd ht hp k1 k2) (fun _ q => oR_t q) kt kf
/-! null or a cell -/
def rv (o : Option Nat) : Value := match o with
  | none => .null
  | some r => .ref r
def onn (o : Option Nat) (u : DA) (f : Nat → DA) : DA := match o with
  | none => u
  | some r => f r
theorem rv_cat (o : Option Nat) : (rv o).category = 1 := by cases o <;> rfl
theorem rv_av (σ : Nat → Nat) (o : Option Nat) : av σ (rv o) = va_rf (o.map σ) := by cases o <;> rfl
theorem oR_o {n : Nat} {L : List (Option Value)} {st : List Value} {o : Option Nat} (hr : ∀ r, o = some r → r < n ∨ 1000000 ≤ r) (h : okR n L st) : okR n L (rv o :: st) := by
  cases o with
  | none => exact oR_n h
  | some r => exact oR_r (hr r rfl) h
theorem ok_ifnonnullN {Sh' Sh : List SE} {μ : Mem} {x : Ans} (n : Nat) {o : Int} (hd : decode M.1 pc = .ok (.ifnonnull o, 3)) (hp : pc + 3 = n) (k : Ok SX Sh' d M n L st Sh μ x) : Ok SX Sh' d M pc L (.null :: st) Sh μ x := by
  subst hp; exact Ok.go (fun C _ _ => lv_ifnonnullN C.1 C.2.1 hd) k
theorem ok_ifnonnull {Sh' Sh : List SE} {μ : Mem} {x : Ans} (t : Nat) {o : Int} (hd : decode M.1 pc = .ok (.ifnonnull o, 3)) (ht : (pc : Int) + o = (t : Int)) (k : Ok SX Sh' d M t L st Sh μ x) : Ok SX Sh' d M pc L (.ref r :: st) Sh μ x := Ok.go (fun C _ _ => lv_ifnonnull C.1 C.2.1 hd ht) k
theorem ok_ifnullN {Sh' Sh : List SE} {μ : Mem} {x : Ans} (t : Nat) {o : Int} (hd : decode M.1 pc = .ok (.ifnull o, 3)) (ht : (pc : Int) + o = (t : Int)) (k : Ok SX Sh' d M t L st Sh μ x) : Ok SX Sh' d M pc L (.null :: st) Sh μ x := Ok.go (fun C _ _ => lv_ifnullN C.1 C.2.1 hd ht) k
theorem dk_ifnonnull (t n : Nat) {z : Int} {o : Option Nat} {f : Nat → DA} (hd : decode M.1 pc = .ok (.ifnonnull z, 3)) (ht : (pc : Int) + z = (t : Int)) (hp : pc + 3 = n) (k0 : o = none → DOk SX d M n L st h x) (k1 : ∀ r, o = some r → DOk SX d M t L st h (f r)) : DOk SX d M pc L (rv o :: st) h (onn o x f) := by
  cases o with
  | none => exact DOk.go1 (fun q => ok_ifnonnullN n hd hp q) (fun _ q => oR_t q) (k0 rfl)
  | some r => exact DOk.go1 (fun q => ok_ifnonnull t hd ht q) (fun _ q => oR_t q) (k1 r rfl)
theorem dk_ifnull (t n : Nat) {z : Int} {o : Option Nat} {f : Nat → DA} (hd : decode M.1 pc = .ok (.ifnull z, 3)) (ht : (pc : Int) + z = (t : Int)) (hp : pc + 3 = n) (k0 : o = none → DOk SX d M t L st h x) (k1 : ∀ r, o = some r → DOk SX d M n L st h (f r)) : DOk SX d M pc L (rv o :: st) h (onn o x f) := by
  cases o with
  | none => exact DOk.go1 (fun q => ok_ifnullN t hd ht q) (fun _ q => oR_t q) (k0 rfl)
  | some r => exact DOk.go1 (fun q => ok_ifnull n hd hp q) (fun _ q => oR_t q) (k1 r rfl)
theorem dk_ifnonnullR (t : Nat) {z : Int} (hd : decode M.1 pc = .ok (.ifnonnull z, 3)) (ht : (pc : Int) + z = (t : Int)) (k : DOk SX d M t L st h x) : DOk SX d M pc L (.ref r :: st) h x := DOk.go1 (fun q => ok_ifnonnull t hd ht q) (fun _ q => oR_t q) k
theorem ok_aload_nN {Sh' Sh : List SE} {μ : Mem} {x : Ans} (n i : Nat) {z : Fin 4} (hd : decode M.1 pc = .ok (.aload_n z, 1)) (hp : pc + 1 = n) (hi : (z : Nat) = i) (hl : L[i]? = some (some .null)) (k : Ok SX Sh' d M n L (.null :: st) Sh μ x) : Ok SX Sh' d M pc L st Sh μ x := by
  subst hp; exact Ok.go (fun C _ h => lv_aload_nN C.1 C.2.1 hd hi (h.at hl)) k
theorem ok_aloadN {Sh' Sh : List SE} {μ : Mem} {x : Ans} (n i : Nat) (hd : decode M.1 pc = .ok (.aload i, 2)) (hp : pc + 2 = n) (hl : L[i]? = some (some .null)) (k : Ok SX Sh' d M n L (.null :: st) Sh μ x) : Ok SX Sh' d M pc L st Sh μ x := by
  subst hp; exact Ok.go (fun C _ h => lv_aloadN C.1 C.2.1 hd (h.at hl)) k
theorem dk_aload_no (n i : Nat) {o : Option Nat} {z : Fin 4} (hd : decode M.1 pc = .ok (.aload_n z, 1)) (hp : pc + 1 = n) (hi : (z : Nat) = i) (hl : L[i]? = some (some (rv o))) (k : DOk SX d M n L (rv o :: st) h x) : DOk SX d M pc L st h x := by
  cases o with
  | none => exact DOk.go1 (fun q => ok_aload_nN n i hd hp hi hl q) (fun _ q => oR_l hl q) k
  | some r => exact dk_aload_n n i hd hp hi hl k
theorem dk_aloado (n i : Nat) {o : Option Nat} (hd : decode M.1 pc = .ok (.aload i, 2)) (hp : pc + 2 = n) (hl : L[i]? = some (some (rv o))) (k : DOk SX d M n L (rv o :: st) h x) : DOk SX d M pc L st h x := by
  cases o with
  | none => exact DOk.go1 (fun q => ok_aloadN n i hd hp hl q) (fun _ q => oR_l hl q) k
  | some r => exact dk_aload n i hd hp hl k
theorem ok_astore_nN {Sh' Sh : List SE} {μ : Mem} {x : Ans} (n i : Nat) {z : Fin 4} (L' : List (Option Value)) (hd : decode M.1 pc = .ok (.astore_n z, 1)) (hp : pc + 1 = n) (hz : (z : Nat) = i) (hi : i < M.2.2.1) (hl : lset L i .null = L') (k : Ok SX Sh' d M n L' st Sh μ x) : Ok SX Sh' d M pc L (.null :: st) Sh μ x := by
  subst hp; subst hl; exact Ok.goL (fun C h kk => lv_astore_nN C.1 C.2.1 hd hz h.has hi rfl (fun ls' q => kk ls' (lvR.set1 (v := .null) q))) k
theorem ok_astoreN {Sh' Sh : List SE} {μ : Mem} {x : Ans} (n i : Nat) (L' : List (Option Value)) (hd : decode M.1 pc = .ok (.astore i, 2)) (hp : pc + 2 = n) (hi : i < M.2.2.1) (hl : lset L i .null = L') (k : Ok SX Sh' d M n L' st Sh μ x) : Ok SX Sh' d M pc L (.null :: st) Sh μ x := by
  subst hp; subst hl; exact Ok.goL (fun C h kk => lv_astoreN C.1 C.2.1 hd h.has hi rfl (fun ls' q => kk ls' (lvR.set1 (v := .null) q))) k
theorem dk_astore_no (n i : Nat) (L' : List (Option Value)) {o : Option Nat} {z : Fin 4} (hd : decode M.1 pc = .ok (.astore_n z, 1)) (hp : pc + 1 = n) (hz : (z : Nat) = i) (hi : i < M.2.2.1) (hl : lset L i (rv o) = L') (k : DOk SX d M n L' st h x) : DOk SX d M pc L (rv o :: st) h x := by
  cases o with
  | none => exact DOk.go1 (fun q => ok_astore_nN n i L' hd hp hz hi hl q) (fun _ q => oR_s hl q) k
  | some r => exact dk_astore_n n i L' hd hp hz hi hl k
theorem dk_astoreo (n i : Nat) (L' : List (Option Value)) {o : Option Nat} (hd : decode M.1 pc = .ok (.astore i, 2)) (hp : pc + 2 = n) (hi : i < M.2.2.1) (hl : lset L i (rv o) = L') (k : DOk SX d M n L' st h x) : DOk SX d M pc L (rv o :: st) h x := by
  cases o with
  | none => exact DOk.go1 (fun q => ok_astoreN n i L' hd hp hi hl q) (fun _ q => oR_s hl q) k
  | some r => exact dk_astore n i L' hd hp hi hl k
/-! looks -/
def dI (h : DS) (r ci j : Nat) : Option Int32 := match h.2.1[r]? with
  | some e => if e.1 = ci ∧ j < e.2.1 ∧ isR ci j = false then some (h.2.2 r j) else none
  | none => none
def dR (h : DS) (r ci j : Nat) : Option (Option Nat) := match h.2.1[r]? with
  | some e => if e.1 = ci ∧ j < e.2.1 ∧ isR ci j = true then some (e.2.2.getD j none) else none
  | none => none
def nn (x : Option (Option Nat)) : Option Nat := match x with
  | some (some r) => some r
  | _ => none
theorem nn_some {x : Option (Option Nat)} {r : Nat} (h : nn x = some r) : x = some (some r) := by
  unfold nn at h
  split at h
  · cases h; rfl
  · cases h
theorem dI_some {a : Int32} (q : dI h r ci j = some a) : ∃ e, h.2.1[r]? = some e ∧ e.1 = ci ∧ j < e.2.1 ∧ isR ci j = false ∧ a = h.2.2 r j := by
  unfold dI at q
  split at q
  · rename_i e he
    split at q
    · rename_i hc
      cases q
      exact ⟨e, he, hc.1, hc.2.1, hc.2.2, rfl⟩
    · cases q
  · cases q
theorem dR_some {o : Option Nat} (q : dR h r ci j = some o) : ∃ e, h.2.1[r]? = some e ∧ e.1 = ci ∧ j < e.2.1 ∧ isR ci j = true ∧ o = e.2.2.getD j none := by
  unfold dR at q
  split at q
  · rename_i e he
    split at q
    · rename_i hc
      cases q
      exact ⟨e, he, hc.1, hc.2.1, hc.2.2, rfl⟩
    · cases q
  · cases q
theorem DOk.rd {α : Type} {y : Option α} {f : α → DA} {n : Nat} {st' : α → List Value} (g : ∀ a, y = some a → lk h → ∀ {Sh' : List SE} {x' : Ans}, Ok SX Sh' d M n L (st' a) h.2.1 h.2.2 x' → Ok SX Sh' d M pc L st h.2.1 h.2.2 x') (ho : ∀ a, y = some a → lk h → okR (csz h.2.1) L st → okR (csz h.2.1) L (st' a)) (k : ∀ a, y = some a → DOk SX d M n L (st' a) h (f a)) : DOk SX d M pc L st h (bo y f) := by
  intro v h' hx hl hok
  cases hy : y with
  | none => rw [hy] at hx; cases hx
  | some a =>
    rw [hy] at hx
    obtain ⟨a1, a2, a3, a4⟩ := k a hy v h' hx hl (ho a hy hl hok)
    exact ⟨a1, a2, a3, g a hy hl a4⟩
theorem dk_getI (n : Nat) {f : Int32 → DA} (hd : decode M.1 pc = .ok (.getfield idx, 3)) (hp : pc + 3 = n) (ho : M.2.1.cls = own) (fl : FL own idx ci j) (k : ∀ a, dI h r ci j = some a → DOk SX d M n L (.int a :: st) h (f a)) : DOk SX d M pc L (.ref r :: st) h (bo (dI h r ci j) f) :=
  DOk.rd (st' := fun a => .int a :: st) (fun a hy _ {_ _} q => by
    obtain ⟨e, h1, h2, h3, h4, rfl⟩ := dI_some hy
    exact ok_getI n hd hp ho fl h1 h2 h3 h4 q) (fun a _ _ q => oR_i (oR_t q)) k
theorem ok_getRo {Sh' Sh : List SE} {μ : Mem} {x : Ans} {e : SE} {o : Option Nat} (n : Nat) (hd : decode M.1 pc = .ok (.getfield idx, 3)) (hp : pc + 3 = n) (ho : M.2.1.cls = own) (fl : FL own idx ci j) (hS : Sh[r]? = some e) (he : e.1 = ci) (hj : j < e.2.1) (hr : isR ci j = true) (hq : o = e.2.2.getD j none) (k : Ok SX Sh' d M n L (rv o :: st) Sh μ x) : Ok SX Sh' d M pc L (.ref r :: st) Sh μ x :=
  ok_getV n hd hp ho fl hS he hj (fun σ => by
    subst he; subst hq
    rw [rv_av]
    unfold fld
    rw [if_pos hr]) k
theorem dk_getRo (n : Nat) {f : Option Nat → DA} (hd : decode M.1 pc = .ok (.getfield idx, 3)) (hp : pc + 3 = n) (ho : M.2.1.cls = own) (fl : FL own idx ci j) (k : ∀ o, dR h r ci j = some o → DOk SX d M n L (rv o :: st) h (f o)) : DOk SX d M pc L (.ref r :: st) h (bo (dR h r ci j) f) :=
  DOk.rd (st' := fun o => rv o :: st) (fun o hy _ {_ _} q => by
    obtain ⟨e, h1, h2, h3, h4, h5⟩ := dR_some hy
    exact ok_getRo n hd hp ho fl h1 h2 h3 h4 h5 q) (fun o hy hl q => oR_o (fun r' hr' => by
    obtain ⟨e, h1, h2, h3, h4, h5⟩ := dR_some hy
    exact Or.inl (hl.2.2.1 _ _ h1 j r' (by rw [← h5, hr']))) (oR_t q)) k
theorem dk_getR (n : Nat) {f : Nat → DA} (hd : decode M.1 pc = .ok (.getfield idx, 3)) (hp : pc + 3 = n) (ho : M.2.1.cls = own) (fl : FL own idx ci j) (k : ∀ o, nn (dR h r ci j) = some o → DOk SX d M n L (.ref o :: st) h (f o)) : DOk SX d M pc L (.ref r :: st) h (bo (nn (dR h r ci j)) f) :=
  DOk.rd (st' := fun o => .ref o :: st) (fun o hy _ {_ _} q => by
    obtain ⟨e, h1, h2, h3, h4, h5⟩ := dR_some (nn_some hy)
    exact ok_getRo n hd hp ho fl h1 h2 h3 h4 h5 q) (fun o hy hl q => oR_r (by
    obtain ⟨e, h1, h2, h3, h4, h5⟩ := dR_some (nn_some hy)
    exact Or.inl (hl.2.2.1 _ _ h1 j o h5.symm)) (oR_t q)) k
/-! arrays -/
def aN (h : DS) (t r : Nat) : Option Nat := match h.2.1[r]? with
  | some e => if e.1 = t then some e.2.1 else none
  | none => none
theorem aN_some {t n : Nat} (q : aN h t r = some n) : ∃ rs, h.2.1[r]? = some (t, n, rs) := by
  unfold aN at q
  split at q
  · rename_i e he
    split at q
    · rename_i hc
      cases q
      exact ⟨e.2.2, by rw [he, ← hc]⟩
    · cases q
  · cases q
def lA (h : DS) (t r : Nat) (i : Int32) : Option Int32 := match aN h t r with
  | some n => if inb i n = true then some (h.2.2 r i.toNatClampNeg) else none
  | none => none
theorem lA_some {t : Nat} {i a : Int32} (q : lA h t r i = some a) : ∃ n rs, h.2.1[r]? = some (t, n, rs) ∧ inb i n = true ∧ a = h.2.2 r i.toNatClampNeg := by
  unfold lA at q
  split at q
  · rename_i n hn
    split at q
    · rename_i hc
      cases q
      obtain ⟨rs, hr⟩ := aN_some hn
      exact ⟨n, rs, hr, hc, rfl⟩
    · cases q
  · cases q
def lQ (h : DS) (t r : Nat) (i : Int32) : Option Nat := match h.2.1[r]? with
  | some e => if e.1 = t ∧ inb i e.2.1 = true then e.2.2.getD i.toNatClampNeg none else none
  | none => none
theorem lQ_some {t q : Nat} {i : Int32} (hq : lQ h t r i = some q) : ∃ n rs, h.2.1[r]? = some (t, n, rs) ∧ inb i n = true ∧ rs.getD i.toNatClampNeg none = some q := by
  unfold lQ at hq
  split at hq
  · rename_i e he
    split at hq
    · rename_i hc
      exact ⟨e.2.1, e.2.2, by rw [he, ← hc.1], hc.2, hq⟩
    · cases hq
  · cases hq
theorem dk_alen (t n : Nat) {f : Nat → DA} (ht : t = 100 ∨ t = 102 ∨ t = 103 ∨ t = 104) (hd : decode M.1 pc = .ok (.arraylength, 1)) (hp : pc + 1 = n) (k : ∀ c, aN h t r = some c → DOk SX d M n L (.int (Int32.ofNat c) :: st) h (f c)) : DOk SX d M pc L (.ref r :: st) h (bo (aN h t r) f) :=
  DOk.rd (st' := fun c => .int (Int32.ofNat c) :: st) (fun c hy _ {_ _} q => by
    obtain ⟨rs, h1⟩ := aN_some hy
    subst hp
    refine Ok.go (fun {_ _ _ _ _ _ _ _ _ _ _ _ _ _ _ D σ _} C hP _ kk => ?_) q
    rcases ht with rfl | rfl | rfl | rfl
    · exact va_alen C.1 C.2.1 C.2.2.2.2.2.1 hP r 0 (wd_atA (Or.inl rfl) h1) rfl rfl hd kk
    · exact va_alen C.1 C.2.1 C.2.2.2.2.2.1 hP r 2 (wd_atA (Or.inr rfl) h1) rfl rfl hd kk
    · exact va_alen C.1 C.2.1 C.2.2.2.2.2.1 hP r 3 (wd_atQ (Or.inr (Or.inl rfl)) h1) rfl rfl hd kk
    · exact va_alen C.1 C.2.1 C.2.2.2.2.2.1 hP r 4 (wd_atQ (Or.inr (Or.inr rfl)) h1) rfl rfl hd kk) (fun _ _ _ q => oR_i (oR_t q)) k
theorem dk_iald (n : Nat) {i : Int32} {f : Int32 → DA} (hd : decode M.1 pc = .ok (.iaload, 1)) (hp : pc + 1 = n) (k : ∀ a, lA h 100 r i = some a → DOk SX d M n L (.int a :: st) h (f a)) : DOk SX d M pc L (.int i :: .ref r :: st) h (bo (lA h 100 r i) f) :=
  DOk.rd (st' := fun a => .int a :: st) (fun a hy _ {_ _} q => by
    obtain ⟨N, rs, h1, h2, rfl⟩ := lA_some hy
    exact ok_ialdc n _ hd hp h1 rfl h2 q) (fun _ _ _ q => oR_i (oR_2 q)) k
end DYN
