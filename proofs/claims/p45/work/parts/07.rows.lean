section OK2
variable {SX : SXT} {Sh' Sh : List SE} {d : Nat} {M : MD} {pc : Nat} {L : List (Option Value)} {st : List Value} {μ : Mem} {x x1 x2 : Ans} {a b : Int32} {r : Nat}
/-! branches -/
theorem ok_icmp_eq (t n : Nat) {o : Int} (hd : decode M.1 pc = .ok (.if_icmp .eq o, 3)) (ht : (pc : Int) + o = (t : Int)) (hp : pc + 3 = n) (kt : a = b → Ok SX Sh' d M t L st Sh μ x1) (kf : ¬ a = b → Ok SX Sh' d M n L st Sh μ x2) : Ok SX Sh' d M pc L (.int b :: .int a :: st) Sh μ (if a = b then x1 else x2) := by
  subst hp; exact Ok.br (fun C k1 k2 => lv_icmp_eq C.1 C.2.1 hd ht k1 k2) kt kf
theorem ok_icmp_ne (t n : Nat) {o : Int} (hd : decode M.1 pc = .ok (.if_icmp .ne o, 3)) (ht : (pc : Int) + o = (t : Int)) (hp : pc + 3 = n) (kt : ¬ a = b → Ok SX Sh' d M t L st Sh μ x2) (kf : a = b → Ok SX Sh' d M n L st Sh μ x1) : Ok SX Sh' d M pc L (.int b :: .int a :: st) Sh μ (if a = b then x1 else x2) := by
  subst hp; exact Ok.br (fun C k1 k2 => lv_icmp_ne C.1 C.2.1 hd ht k2 k1) kf kt
theorem ok_icmp_lt (t n : Nat) {o : Int} (hd : decode M.1 pc = .ok (.if_icmp .lt o, 3)) (ht : (pc : Int) + o = (t : Int)) (hp : pc + 3 = n) (kt : a < b → Ok SX Sh' d M t L st Sh μ x1) (kf : ¬ a < b → Ok SX Sh' d M n L st Sh μ x2) : Ok SX Sh' d M pc L (.int b :: .int a :: st) Sh μ (if a < b then x1 else x2) := by
  subst hp; exact Ok.br (fun C k1 k2 => lv_icmp_lt C.1 C.2.1 hd ht k1 k2) kt kf
theorem ok_icmp_ge (t n : Nat) {o : Int} (hd : decode M.1 pc = .ok (.if_icmp .ge o, 3)) (ht : (pc : Int) + o = (t : Int)) (hp : pc + 3 = n) (kt : b ≤ a → Ok SX Sh' d M t L st Sh μ x1) (kf : ¬ b ≤ a → Ok SX Sh' d M n L st Sh μ x2) : Ok SX Sh' d M pc L (.int b :: .int a :: st) Sh μ (if b ≤ a then x1 else x2) := by
  subst hp; exact Ok.br (fun C k1 k2 => lv_icmp_ge C.1 C.2.1 hd ht k1 k2) kt kf
theorem ok_icmp_gt (t n : Nat) {o : Int} (hd : decode M.1 pc = .ok (.if_icmp .gt o, 3)) (ht : (pc : Int) + o = (t : Int)) (hp : pc + 3 = n) (kt : b < a → Ok SX Sh' d M t L st Sh μ x1) (kf : ¬ b < a → Ok SX Sh' d M n L st Sh μ x2) : Ok SX Sh' d M pc L (.int b :: .int a :: st) Sh μ (if b < a then x1 else x2) := by
  subst hp; exact Ok.br (fun C k1 k2 => lv_icmp_gt C.1 C.2.1 hd ht k1 k2) kt kf
theorem ok_icmp_le (t n : Nat) {o : Int} (hd : decode M.1 pc = .ok (.if_icmp .le o, 3)) (ht : (pc : Int) + o = (t : Int)) (hp : pc + 3 = n) (kt : a ≤ b → Ok SX Sh' d M t L st Sh μ x1) (kf : ¬ a ≤ b → Ok SX Sh' d M n L st Sh μ x2) : Ok SX Sh' d M pc L (.int b :: .int a :: st) Sh μ (if a ≤ b then x1 else x2) := by
  subst hp; exact Ok.br (fun C k1 k2 => lv_icmp_le C.1 C.2.1 hd ht k1 k2) kt kf
theorem ok_if_eq (t n : Nat) {o : Int} (hd : decode M.1 pc = .ok (.ifCond .eq o, 3)) (ht : (pc : Int) + o = (t : Int)) (hp : pc + 3 = n) (kt : a = 0 → Ok SX Sh' d M t L st Sh μ x1) (kf : ¬ a = 0 → Ok SX Sh' d M n L st Sh μ x2) : Ok SX Sh' d M pc L (.int a :: st) Sh μ (if a = 0 then x1 else x2) := by
  subst hp; exact Ok.br (fun C k1 k2 => lv_if_eq C.1 C.2.1 hd ht k1 k2) kt kf
theorem ok_if_ne (t n : Nat) {o : Int} (hd : decode M.1 pc = .ok (.ifCond .ne o, 3)) (ht : (pc : Int) + o = (t : Int)) (hp : pc + 3 = n) (kt : ¬ a = 0 → Ok SX Sh' d M t L st Sh μ x2) (kf : a = 0 → Ok SX Sh' d M n L st Sh μ x1) : Ok SX Sh' d M pc L (.int a :: st) Sh μ (if a = 0 then x1 else x2) := by
  subst hp; exact Ok.br (fun C k1 k2 => lv_if_ne C.1 C.2.1 hd ht k2 k1) kf kt
theorem ok_if_lt (t n : Nat) {o : Int} (hd : decode M.1 pc = .ok (.ifCond .lt o, 3)) (ht : (pc : Int) + o = (t : Int)) (hp : pc + 3 = n) (kt : a < 0 → Ok SX Sh' d M t L st Sh μ x1) (kf : ¬ a < 0 → Ok SX Sh' d M n L st Sh μ x2) : Ok SX Sh' d M pc L (.int a :: st) Sh μ (if a < 0 then x1 else x2) := by
  subst hp; exact Ok.br (fun C k1 k2 => lv_if_lt C.1 C.2.1 hd ht k1 k2) kt kf
theorem ok_if_ge (t n : Nat) {o : Int} (hd : decode M.1 pc = .ok (.ifCond .ge o, 3)) (ht : (pc : Int) + o = (t : Int)) (hp : pc + 3 = n) (kt : 0 ≤ a → Ok SX Sh' d M t L st Sh μ x1) (kf : ¬ 0 ≤ a → Ok SX Sh' d M n L st Sh μ x2) : Ok SX Sh' d M pc L (.int a :: st) Sh μ (if 0 ≤ a then x1 else x2) := by
  subst hp; exact Ok.br (fun C k1 k2 => lv_if_ge C.1 C.2.1 hd ht k1 k2) kt kf
theorem ok_if_gt (t n : Nat) {o : Int} (hd : decode M.1 pc = .ok (.ifCond .gt o, 3)) (ht : (pc : Int) + o = (t : Int)) (hp : pc + 3 = n) (kt : 0 < a → Ok SX Sh' d M t L st Sh μ x1) (kf : ¬ 0 < a → Ok SX Sh' d M n L st Sh μ x2) : Ok SX Sh' d M pc L (.int a :: st) Sh μ (if 0 < a then x1 else x2) := by
  subst hp; exact Ok.br (fun C k1 k2 => lv_if_gt C.1 C.2.1 hd ht k1 k2) kt kf
theorem ok_if_le (t n : Nat) {o : Int} (hd : decode M.1 pc = .ok (.ifCond .le o, 3)) (ht : (pc : Int) + o = (t : Int)) (hp : pc + 3 = n) (kt : a ≤ 0 → Ok SX Sh' d M t L st Sh μ x1) (kf : ¬ a ≤ 0 → Ok SX Sh' d M n L st Sh μ x2) : Ok SX Sh' d M pc L (.int a :: st) Sh μ (if a ≤ 0 then x1 else x2) := by
  subst hp; exact Ok.br (fun C k1 k2 => lv_if_le C.1 C.2.1 hd ht k1 k2) kt kf
theorem ok_ifnull (n : Nat) {o : Int} (hd : decode M.1 pc = .ok (.ifnull o, 3)) (hp : pc + 3 = n) (k : Ok SX Sh' d M n L st Sh μ x) : Ok SX Sh' d M pc L (.ref r :: st) Sh μ x := by
  subst hp; exact Ok.go (fun C _ _ => lv_ifnull C.1 C.2.1 hd) k
/-! switches -/
def AllOk (SX : SXT) (Sh' : List SE) (d : Nat) (M : MD) (L : List (Option Value)) (st : List Value) (Sh : List SE) (μ : Mem) : List Nat → List Ans → Prop
  | t :: ts, x :: xs => Ok SX Sh' d M t L st Sh μ x ∧ AllOk SX Sh' d M L st Sh μ ts xs
  | [], [] => True
  | _, _ => False
theorem AllOk.get {ts : List Nat} {xs : List Ans} (h : AllOk SX Sh' d M L st Sh μ ts xs) : ∀ (j : Nat) (t : Nat), ts[j]? = some t → ∃ x, xs[j]? = some x ∧ Ok SX Sh' d M t L st Sh μ x := by
  induction ts generalizing xs with
  | nil => intro j t q; simp at q
  | cons t0 ts ih =>
    cases xs with
    | nil => exact h.elim
    | cons x0 xs =>
      intro j t q
      cases j with
      | zero =>
        have : t0 = t := by simpa using q
        subst this
        exact ⟨x0, rfl, h.1⟩
      | succ j => exact ih h.2 j t (by simpa using q)
def swt {α : Type} (i : Int) (xs : List α) (z : α) : α := if i < 0 then z else xs.getD i.toNat z
theorem ok_tsw (td : Nat) (ts : List Nat) {dflt lo hi : Int} {offs : Array Int} {len : Nat} {xs : List Ans} (hd : decode M.1 pc = .ok (.tableswitch dflt lo hi offs, len)) (ho : offs.toList = ts.map (fun (t : Nat) => (t : Int) - (pc : Int))) (hlen : hi = lo + ts.length - 1) (ht : (pc : Int) + dflt = (td : Int)) (hx : xs.length = ts.length) (k : AllOk SX Sh' d M L st Sh μ ts xs) (kd : Ok SX Sh' d M td L st Sh μ x) : Ok SX Sh' d M pc L (.int a :: st) Sh μ (swt (a.toInt - lo) xs x) := by
  intro v μ' hv p l e R s m args below meth c H locs cells slots Q D σ A mc ms ls C Z hA hR hP hD hS hL h1 h2 hQ
  by_cases hin : a.toInt < lo ∨ hi < a.toInt
  · refine lv_tableOut C.1 C.2.1 hd hin ht (kd v μ' ?_ p l e R s m args below meth c H locs cells slots Q D σ A mc ms ls C Z hA hR hP hD hS hL h1 h2 hQ)
    rw [← hv]
    unfold swt
    split
    · rfl
    · rw [List.getD_eq_getElem?_getD, List.getElem?_eq_none (by omega)]
      rfl
  · have g1 : ¬ a.toInt < lo := fun q => hin (Or.inl q)
    have g2 : ¬ hi < a.toInt := fun q => hin (Or.inr q)
    have hj : (a.toInt - lo).toNat < ts.length := by omega
    obtain ⟨t, hts⟩ : ∃ t, ts[(a.toInt - lo).toNat]? = some t := ⟨_, List.getElem?_eq_getElem hj⟩
    obtain ⟨x0, hx0, kx⟩ := k.get _ _ hts
    have hoff : offs[(a.toInt - lo).toNat]? = some ((t : Int) - (pc : Int)) := by
      rw [← Array.getElem?_toList, ho, List.getElem?_map, hts]
      rfl
    refine lv_tableIn C.1 C.2.1 hd g1 g2 hoff (tgt := t) (by omega) (kx v μ' ?_ p l e R s m args below meth c H locs cells slots Q D σ A mc ms ls C Z hA hR hP hD hS hL h1 h2 hQ)
    rw [← hv]
    unfold swt
    rw [if_neg (by omega), List.getD_eq_getElem?_getD, hx0]
    rfl
theorem ok_lsw {dflt : Int} {ps : Array (Int × Int)} {len : Nat} (hd : decode M.1 pc = .ok (.lookupswitch dflt ps, len)) (hp : (ps.toList.zip (ps.toList.drop 1)).all (fun (a, next) => a.1 < next.1) = true) (k : ∃ t : Nat, (pc : Int) + Op.lookupswitch.offset ps.toList dflt a.toInt = (t : Int) ∧ Ok SX Sh' d M t L st Sh μ x) : Ok SX Sh' d M pc L (.int a :: st) Sh μ x := by
  obtain ⟨t, ht, k⟩ := k
  exact Ok.go (fun C _ _ => lv_lookup C.1 C.2.1 hd hp rfl ht) k
/-! returns -/
def isB (a : Int32) : Bool := decide (a = 0 ∨ a = 1)
theorem isB_n {a : Int32} (h : isB a = true) : narrow .boolean (.int a) = .int a := by
  rcases of_decide_eq_true h with rfl | rfl <;> rfl
theorem isB_f {a : Int32} (h : isB a = true) : fits .boolean (.int a) = true := by
  rcases of_decide_eq_true h with rfl | rfl <;> decide
theorem agr.rf (n n' : Nat) (σ : Nat → Nat) : agr n n' σ σ := ⟨fun _ _ => rfl, fun _ => rfl⟩
theorem ok_iretT {ty : FieldType} (hd : decode M.1 pc = .ok (.ireturn, 1)) (hr : M.2.2.2 = some ty) (hty : prT ty) (hn : narrow ty (.int a) = .int a) : Ok SX Sh d M pc L [.int a] Sh μ (some (a, μ)) := by
  intro v μ' hv p l e R s m args below meth c H locs cells slots Q D σ A mc ms ls C Z hA hR hP hD hS hL h1 h2 hQ
  cases hv
  have e1 : cells = mc := by omega
  have e2 : slots = ms := by omega
  subst e1; subst e2
  exact (hQ H locs ls σ pc (agr.rf _ _ _) hP hD hS).2.1 ty hr hty hn hd
theorem ok_iret (hd : decode M.1 pc = .ok (.ireturn, 1)) (hr : M.2.2.2 = some .int) : Ok SX Sh d M pc L [.int a] Sh μ (some (a, μ)) := ok_iretT hd hr ⟨(fun _ h => by cases h), (fun _ h => by cases h)⟩ rfl
theorem ok_zret (hd : decode M.1 pc = .ok (.ireturn, 1)) (hr : M.2.2.2 = some .boolean) : Ok SX Sh d M pc L [.int a] Sh μ (chk (isB a) (some (a, μ))) := ok_chk fun h => ok_iretT hd hr ⟨(fun _ h => by cases h), (fun _ h => by cases h)⟩ (isB_n h)
theorem ok_zretc (hd : decode M.1 pc = .ok (.ireturn, 1)) (hr : M.2.2.2 = some .boolean) (h : isB a = true) : Ok SX Sh d M pc L [.int a] Sh μ (some (a, μ)) := ok_iretT hd hr ⟨(fun _ h => by cases h), (fun _ h => by cases h)⟩ (isB_n h)
theorem ok_vret (hd : decode M.1 pc = .ok (.return_, 1)) (hr : M.2.2.2 = none) : Ok SX Sh d M pc L [] Sh μ (some (0, μ)) := by
  intro v μ' hv p l e R s m args below meth c H locs cells slots Q D σ A mc ms ls C Z hA hR hP hD hS hL h1 h2 hQ
  cases hv
  have e1 : cells = mc := by omega
  have e2 : slots = ms := by omega
  subst e1; subst e2
  exact (hQ H locs ls σ pc (agr.rf _ _ _) hP hD hS).1 hr hd
theorem ok_aretn {nm : String} (hd : decode M.1 pc = .ok (.areturn, 1)) (hr : M.2.2.2 = some (.object nm)) : Ok SX Sh d M pc L [.null] Sh μ (some (-1, μ)) := by
  intro v μ' hv p l e R s m args below meth c H locs cells slots Q D σ A mc ms ls C Z hA hR hP hD hS hL h1 h2 hQ
  cases hv
  have e1 : cells = mc := by omega
  have e2 : slots = ms := by omega
  subst e1; subst e2
  exact (hQ H locs ls σ pc (agr.rf _ _ _) hP hD hS).2.2 _ hr (Or.inl ⟨_, rfl⟩) hd
theorem nI_ne_m1 {n : Nat} (h : n < 2 ^ 31) : ¬ nI n = -1 := by
  intro q
  have := nI_toInt h
  rw [q] at this
  have h2 : ((-1 : Int32)).toInt = -1 := by decide
  omega
theorem ok_aretn' {ty : FieldType} (hd : decode M.1 pc = .ok (.areturn, 1)) (hr : M.2.2.2 = some ty) (hty : rfT ty) : Ok SX Sh d M pc L [.null] Sh μ (some (-1, μ)) := by
  intro v μ' hv p l e R s m args below meth c H locs cells slots Q D σ A mc ms ls C Z hA hR hP hD hS hL h1 h2 hQ
  cases hv
  have e1 : cells = mc := by omega
  have e2 : slots = ms := by omega
  subst e1; subst e2
  exact (hQ H locs ls σ pc (agr.rf _ _ _) hP hD hS).2.2 _ hr hty hd
theorem ok_aretr' {ty : FieldType} (hd : decode M.1 pc = .ok (.areturn, 1)) (hr : M.2.2.2 = some ty) (hty : rfT ty) (hb : r < 2 ^ 31) : Ok SX Sh d M pc L [.ref r] Sh μ (some (nI r, μ)) := by
  intro v μ' hv p l e R s m args below meth c H locs cells slots Q D σ A mc ms ls C Z hA hR hP hD hS hL h1 h2 hQ
  cases hv
  have e1 : cells = mc := by omega
  have e2 : slots = ms := by omega
  subst e1; subst e2
  have := (hQ H locs ls σ pc (agr.rf _ _ _) hP hD hS).2.2 _ hr hty hd
  rw [if_neg (nI_ne_m1 hb), nI_clamp hb] at this
  exact this
theorem ok_aretr {nm : String} (hd : decode M.1 pc = .ok (.areturn, 1)) (hr : M.2.2.2 = some (.object nm)) (hb : r < 2 ^ 31) : Ok SX Sh d M pc L [.ref r] Sh μ (some (nI r, μ)) := by
  intro v μ' hv p l e R s m args below meth c H locs cells slots Q D σ A mc ms ls C Z hA hR hP hD hS hL h1 h2 hQ
  cases hv
  have e1 : cells = mc := by omega
  have e2 : slots = ms := by omega
  subst e1; subst e2
  have := (hQ H locs ls σ pc (agr.rf _ _ _) hP hD hS).2.2 _ hr (Or.inl ⟨_, rfl⟩) hd
  rw [if_neg (nI_ne_m1 hb), nI_clamp hb] at this
  exact this
/-! names for values -/
def bnd {α β : Type} (e : α) (f : α → β) : β := f e
theorem ok_bndI {e : Int32} {f : Int32 → Ans} (k : ∀ a, Ok SX Sh' d M pc L (.int a :: st) Sh μ (f a)) : Ok SX Sh' d M pc L (.int e :: st) Sh μ (bnd e f) := k e
theorem ok_bndL {e : Int64} {f : Int64 → Ans} (k : ∀ a, Ok SX Sh' d M pc L (.long a :: st) Sh μ (f a)) : Ok SX Sh' d M pc L (.long e :: st) Sh μ (bnd e f) := k e
theorem ok_bndM {e : Mem} {f : Mem → Ans} (k : ∀ μ, Ok SX Sh' d M pc L st Sh μ (f μ)) : Ok SX Sh' d M pc L st Sh e (bnd e f) := k e
/-! loops: the body by what goes on -/
def it0 (b : (Mem → Ans) → Mem → Ans) : Nat → Mem → Ans
  | 0 => fun _ => none
  | n + 1 => b (it0 b n)
def it1 {α : Type} (b : (α → Mem → Ans) → α → Mem → Ans) : Nat → α → Mem → Ans
  | 0 => fun _ _ => none
  | n + 1 => b (it1 b n)
def it2 {α β : Type} (b : (α → β → Mem → Ans) → α → β → Mem → Ans) : Nat → α → β → Mem → Ans
  | 0 => fun _ _ _ => none
  | n + 1 => b (it2 b n)
def it3 {α β γ : Type} (b : (α → β → γ → Mem → Ans) → α → β → γ → Mem → Ans) : Nat → α → β → γ → Mem → Ans
  | 0 => fun _ _ _ _ => none
  | n + 1 => b (it3 b n)
def it4 {α β γ δ : Type} (b : (α → β → γ → δ → Mem → Ans) → α → β → γ → δ → Mem → Ans) : Nat → α → β → γ → δ → Mem → Ans
  | 0 => fun _ _ _ _ _ => none
  | n + 1 => b (it4 b n)
def it5 {α β γ δ ε : Type} (b : (α → β → γ → δ → ε → Mem → Ans) → α → β → γ → δ → ε → Mem → Ans) : Nat → α → β → γ → δ → ε → Mem → Ans
  | 0 => fun _ _ _ _ _ _ => none
  | n + 1 => b (it5 b n)
theorem ok_it0 (Lf : List (Option Value)) {b : (Mem → Ans) → Mem → Ans} (hb : ∀ X, (∀ μ, Ok SX Sh' d M pc Lf [] Sh μ (X μ)) → ∀ μ, Ok SX Sh' d M pc Lf [] Sh μ (b X μ)) : ∀ n μ, Ok SX Sh' d M pc Lf [] Sh μ (it0 b n μ)
  | 0, _ => Ok.none
  | n + 1, μ => hb _ (ok_it0 Lf hb n) μ
theorem ok_it1 {α : Type} (Lf : α → List (Option Value)) {b : (α → Mem → Ans) → α → Mem → Ans} (hb : ∀ X, (∀ a1 μ, Ok SX Sh' d M pc (Lf a1) [] Sh μ (X a1 μ)) → ∀ a1 μ, Ok SX Sh' d M pc (Lf a1) [] Sh μ (b X a1 μ)) : ∀ n a1 μ, Ok SX Sh' d M pc (Lf a1) [] Sh μ (it1 b n a1 μ)
  | 0, _, _ => Ok.none
  | n + 1, a1, μ => hb _ (ok_it1 Lf hb n) a1 μ
theorem ok_it2 {α β : Type} (Lf : α → β → List (Option Value)) {b : (α → β → Mem → Ans) → α → β → Mem → Ans} (hb : ∀ X, (∀ a1 a2 μ, Ok SX Sh' d M pc (Lf a1 a2) [] Sh μ (X a1 a2 μ)) → ∀ a1 a2 μ, Ok SX Sh' d M pc (Lf a1 a2) [] Sh μ (b X a1 a2 μ)) : ∀ n a1 a2 μ, Ok SX Sh' d M pc (Lf a1 a2) [] Sh μ (it2 b n a1 a2 μ)
  | 0, _, _, _ => Ok.none
  | n + 1, a1, a2, μ => hb _ (ok_it2 Lf hb n) a1 a2 μ
theorem ok_it3 {α β γ : Type} (Lf : α → β → γ → List (Option Value)) {b : (α → β → γ → Mem → Ans) → α → β → γ → Mem → Ans} (hb : ∀ X, (∀ a1 a2 a3 μ, Ok SX Sh' d M pc (Lf a1 a2 a3) [] Sh μ (X a1 a2 a3 μ)) → ∀ a1 a2 a3 μ, Ok SX Sh' d M pc (Lf a1 a2 a3) [] Sh μ (b X a1 a2 a3 μ)) : ∀ n a1 a2 a3 μ, Ok SX Sh' d M pc (Lf a1 a2 a3) [] Sh μ (it3 b n a1 a2 a3 μ)
  | 0, _, _, _, _ => Ok.none
  | n + 1, a1, a2, a3, μ => hb _ (ok_it3 Lf hb n) a1 a2 a3 μ
theorem ok_it4 {α β γ δ : Type} (Lf : α → β → γ → δ → List (Option Value)) {b : (α → β → γ → δ → Mem → Ans) → α → β → γ → δ → Mem → Ans} (hb : ∀ X, (∀ a1 a2 a3 a4 μ, Ok SX Sh' d M pc (Lf a1 a2 a3 a4) [] Sh μ (X a1 a2 a3 a4 μ)) → ∀ a1 a2 a3 a4 μ, Ok SX Sh' d M pc (Lf a1 a2 a3 a4) [] Sh μ (b X a1 a2 a3 a4 μ)) : ∀ n a1 a2 a3 a4 μ, Ok SX Sh' d M pc (Lf a1 a2 a3 a4) [] Sh μ (it4 b n a1 a2 a3 a4 μ)
  | 0, _, _, _, _, _ => Ok.none
  | n + 1, a1, a2, a3, a4, μ => hb _ (ok_it4 Lf hb n) a1 a2 a3 a4 μ
theorem ok_it5 {α β γ δ ε : Type} (Lf : α → β → γ → δ → ε → List (Option Value)) {b : (α → β → γ → δ → ε → Mem → Ans) → α → β → γ → δ → ε → Mem → Ans} (hb : ∀ X, (∀ a1 a2 a3 a4 a5 μ, Ok SX Sh' d M pc (Lf a1 a2 a3 a4 a5) [] Sh μ (X a1 a2 a3 a4 a5 μ)) → ∀ a1 a2 a3 a4 a5 μ, Ok SX Sh' d M pc (Lf a1 a2 a3 a4 a5) [] Sh μ (b X a1 a2 a3 a4 a5 μ)) : ∀ n a1 a2 a3 a4 a5 μ, Ok SX Sh' d M pc (Lf a1 a2 a3 a4 a5) [] Sh μ (it5 b n a1 a2 a3 a4 a5 μ)
  | 0, _, _, _, _, _, _ => Ok.none
  | n + 1, a1, a2, a3, a4, a5, μ => hb _ (ok_it5 Lf hb n) a1 a2 a3 a4 a5 μ
end OK2
