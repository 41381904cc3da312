/-! the steps of THE LAW on a pile: what both sides come to -/
abbrev Arr : Type := Nat → Int32
abbrev Spt : Type := Nat × Int32
def ev2 (k : Nat) (b a : Int32) : Int32 := if k = 23 then b + a else if k = 24 then b - a else if k = 25 then b * a else if k = 27 then (if a ≤ b then 0 else 1) else if k = 28 then (if b = a then 1 else 0) else if k = 29 then (if b ≤ a then 0 else 1) else if k = 31 then b &&& a else b ||| a
def ev1 (fa : Arr) (k : Nat) (v : Int32) : List Int32 → List Int32
  | [] => if k = 0 then [v] else [fa k]
  | a :: r => if k = 0 then v :: a :: r else if k ≤ 10 then fa k :: a :: r else if k = 26 then a / v :: r else if k = 30 then (1 - a) :: r else match r with
    | b :: s => ev2 k b a :: s
    | [] => [a]
def evS (fa : Arr) : List Spt → List Int32 → List Int32
  | [], st => st
  | p :: r, st => evS fa r (ev1 fa p.1 p.2 st)
def tc1 (k : Nat) (v : Int32) : List Bool → Option (List Bool)
  | [] => if k ≤ 10 then some [false] else none
  | x :: r => if k ≤ 10 then (if r.length < 21 then some (false :: x :: r) else none)
    else if k = 26 then (if x = false ∧ v ≠ 0 ∧ r.length < 21 then some (false :: r) else none)
    else if k = 30 then (if x = true then some (true :: r) else none)
    else match r with
      | y :: s => if (k = 23 ∨ k = 24 ∨ k = 25) ∧ x = false ∧ y = false then some (false :: s)
        else if (k = 27 ∨ k = 28 ∨ k = 29) ∧ x = false ∧ y = false then some (true :: s)
        else if (k = 31 ∨ k = 32) ∧ x = true ∧ y = true then some (true :: s) else none
      | [] => none
def tcS : List Spt → List Bool → Option (List Bool)
  | [], s => some s
  | p :: r, s => match tc1 p.1 p.2 s with
    | some s' => tcS r s'
    | none => none
def tcOk : List Bool → List Int32 → Prop
  | [], [] => True
  | b :: s, x :: r => (b = true → x = 0 ∨ x = 1) ∧ tcOk s r
  | _, _ => False
theorem tcOk_len : ∀ {s : List Bool} {st : List Int32}, tcOk s st → s.length = st.length
  | [], [], _ => rfl
  | b :: s, x :: r, h => by simp [tcOk_len h.2]
  | [], _ :: _, h => h.elim
  | _ :: _, [], h => h.elim
/-- the cases of one step -/
theorem tc1_cases {k : Nat} {v : Int32} {s s' : List Bool} {st : List Int32} {P : Prop} (fa : Arr) (h : tc1 k v s = some s') (ho : tcOk s st)
    (h0 : k = 0 → s' = false :: s → st.length < 22 → ev1 fa k v st = v :: st → P)
    (h1 : 1 ≤ k → k ≤ 10 → s' = false :: s → st.length < 22 → ev1 fa k v st = fa k :: st → P)
    (h2 : ∀ a r t, k = 26 → v ≠ 0 → st = a :: r → tcOk t r → s' = false :: t → r.length < 21 → ev1 fa k v st = a / v :: r → P)
    (h3 : ∀ a r t, k = 30 → st = a :: r → a = 0 ∨ a = 1 → tcOk t r → s' = true :: t → ev1 fa k v st = (1 - a) :: r → P)
    (h4 : ∀ a b r t x, k = 23 ∨ k = 24 ∨ k = 25 ∨ k = 27 ∨ k = 28 ∨ k = 29 ∨ k = 31 ∨ k = 32 → st = a :: b :: r → tcOk t r → s' = x :: t → (x = true → ev2 k b a = 0 ∨ ev2 k b a = 1) → ev1 fa k v st = ev2 k b a :: r → P) : P := by
  have hl := tcOk_len ho
  cases s with
  | nil =>
    cases st with
    | cons _ _ => exact ho.elim
    | nil =>
      simp only [tc1] at h
      split at h
      · rename_i hk
        cases h
        by_cases k0 : k = 0
        · exact h0 k0 rfl (by simp) (by simp [ev1, k0])
        · exact h1 (by omega) hk rfl (by simp) (by simp [ev1, k0])
      · cases h
  | cons x s =>
    cases st with
    | nil => exact ho.elim
    | cons a r =>
      simp only [List.length_cons] at hl
      simp only [tc1] at h
      split at h
      · rename_i hk
        split at h
        · cases h
          by_cases k0 : k = 0
          · exact h0 k0 rfl (by simp; omega) (by simp [ev1, k0])
          · exact h1 (by omega) hk rfl (by simp; omega) (by simp [ev1, k0, hk])
        · cases h
      · rename_i hk
        split at h
        · rename_i hk2
          split at h
          · rename_i q
            cases h
            exact h2 a r s hk2 q.2.1 rfl ho.2 rfl (by omega) (by simp [ev1, hk2])
          · cases h
        · rename_i hk2
          split at h
          · rename_i hk3
            split at h
            · rename_i q
              cases h
              exact h3 a r s hk3 rfl (ho.1 q) ho.2 rfl (by simp [ev1, hk3])
            · cases h
          · rename_i hk3
            have e1 : ∀ b u, r = b :: u → ev1 fa k v (a :: r) = ev2 k b a :: u := by
              rintro b u rfl
              simp only [ev1]
              rw [if_neg (by omega), if_neg hk, if_neg hk2, if_neg hk3]
            cases s with
            | nil => cases h
            | cons y s =>
              cases r with
              | nil => exact ho.2.elim
              | cons b u =>
                simp only at h
                split at h
                · rename_i q
                  cases h
                  exact h4 a b u s false (by omega) rfl ho.2.2 rfl (fun z => by cases z) (e1 b u rfl)
                · split at h
                  · rename_i q
                    cases h
                    refine h4 a b u s true (by omega) rfl ho.2.2 rfl (fun _ => ?_) (e1 b u rfl)
                    unfold ev2
                    rcases q.1 with rfl | rfl | rfl
                    · simp only [show ¬ (27 : Nat) = 23 by decide, show ¬ (27 : Nat) = 24 by decide, show ¬ (27 : Nat) = 25 by decide, if_false, if_true]
                      split
                      · exact Or.inl rfl
                      · exact Or.inr rfl
                    · simp only [show ¬ (28 : Nat) = 23 by decide, show ¬ (28 : Nat) = 24 by decide, show ¬ (28 : Nat) = 25 by decide, show ¬ (28 : Nat) = 27 by decide, if_false, if_true]
                      split
                      · exact Or.inr rfl
                      · exact Or.inl rfl
                    · simp only [show ¬ (29 : Nat) = 23 by decide, show ¬ (29 : Nat) = 24 by decide, show ¬ (29 : Nat) = 25 by decide, show ¬ (29 : Nat) = 27 by decide, show ¬ (29 : Nat) = 28 by decide, if_false, if_true]
                      split
                      · exact Or.inl rfl
                      · exact Or.inr rfl
                  · split at h
                    · rename_i q
                      cases h
                      refine h4 a b u s true (by omega) rfl ho.2.2 rfl (fun _ => ?_) (e1 b u rfl)
                      have ha := ho.1 q.2.1
                      have hb := ho.2.1 q.2.2
                      unfold ev2
                      rcases q.1 with rfl | rfl
                      · rcases ha with rfl | rfl <;> rcases hb with rfl | rfl <;> decide
                      · rcases ha with rfl | rfl <;> rcases hb with rfl | rfl <;> decide
                    · cases h
theorem tc1_ok {k : Nat} {v : Int32} {s s' : List Bool} {st : List Int32} (fa : Arr) (h : tc1 k v s = some s') (ho : tcOk s st) : tcOk s' (ev1 fa k v st) := by
  refine tc1_cases fa h ho ?_ ?_ ?_ ?_ ?_
  · rintro - rfl - e
    rw [e]
    exact ⟨fun z => (by cases z), ho⟩
  · rintro - - rfl - e
    rw [e]
    exact ⟨fun z => (by cases z), ho⟩
  · rintro a r t - - - h2 rfl - e
    rw [e]
    exact ⟨fun z => (by cases z), h2⟩
  · rintro a r t - - ha h2 rfl e
    rw [e]
    refine ⟨fun _ => ?_, h2⟩
    rcases ha with rfl | rfl <;> decide
  · rintro a b r t x - - h2 rfl hx e
    rw [e]
    exact ⟨hx, h2⟩
theorem tcS_ok (fa : Arr) : ∀ {L : List Spt} {s s' : List Bool} {st : List Int32}, tcS L s = some s' → tcOk s st → tcOk s' (evS fa L st)
  | [], s, s', st, h, ho => by
    cases h
    exact ho
  | p :: r, s, s', st, h, ho => by
    unfold tcS at h
    cases hq : tc1 p.1 p.2 s with
    | none => rw [hq] at h; cases h
    | some u =>
      rw [hq] at h
      have h : tcS r u = some s' := h
      show tcOk s' (evS fa r (ev1 fa p.1 p.2 st))
      exact tcS_ok fa h (tc1_ok fa hq ho)
/-! the pile in an array -/
def Stk (a : Arr) : List Int32 → Prop
  | [] => True
  | x :: r => a r.length = x ∧ Stk a r
theorem Stk.cg {a a' : Arr} : ∀ {st : List Int32}, Stk a st → (∀ i, i < st.length → a' i = a i) → Stk a' st
  | [], _, _ => trivial
  | x :: r, h, hq => ⟨by rw [hq r.length (by simp)]; exact h.1, Stk.cg h.2 (fun i hi => hq i (by simp; omega))⟩
theorem Stk.up {a : Arr} {st : List Int32} {k : Nat} {v : Int32} (h : Stk a st) (hk : st.length ≤ k) : Stk (upd a k v) st := h.cg (fun i hi => ud_n (by omega))
theorem Stk.push {a : Arr} {st : List Int32} {v : Int32} (h : Stk a st) : Stk (upd a st.length v) (v :: st) := ⟨ud_s, h.up (Nat.le_refl _)⟩
def stAt (w : Arr) : Nat → List Spt → Prop
  | _, [] => True
  | x, p :: r => w (887 + 2 * x) = nI p.1 ∧ w (887 + 2 * x + 1) = p.2 ∧ stAt w (x + 1) r
theorem tc1_k {k : Nat} {v : Int32} {s s' : List Bool} (h : tc1 k v s = some s') : k ≤ 32 := by
  refine Nat.le_of_not_lt fun q => ?_
  have a1 : ¬ k ≤ 10 := by omega
  have a2 : ¬ k = 26 := by omega
  have a3 : ¬ k = 30 := by omega
  have a4 : ¬ (k = 23 ∨ k = 24 ∨ k = 25) := by omega
  have a5 : ¬ (k = 27 ∨ k = 28 ∨ k = 29) := by omega
  have a6 : ¬ (k = 31 ∨ k = 32) := by omega
  cases s with
  | nil =>
    simp only [tc1] at h
    rw [if_neg a1] at h
    cases h
  | cons x r =>
    cases r with
    | nil =>
      simp only [tc1] at h
      rw [if_neg a1, if_neg a2, if_neg a3] at h
      cases h
    | cons y s =>
      simp only [tc1] at h
      rw [if_neg a1, if_neg a2, if_neg a3, if_neg (fun z => a4 z.1), if_neg (fun z => a5 z.1), if_neg (fun z => a6 z.1)] at h
      cases h
theorem e_both {N k : Nat} {b a : Int32} (m : Mem) (hk : k = 23 ∨ k = 24 ∨ k = 25 ∨ k = 27 ∨ k = 28 ∨ k = 29 ∨ k = 31 ∨ k = 32) : f_X12_both N (nI k) b a m = some (ev2 k b a, m) := by
  unfold f_X12_both
  rcases hk with rfl | rfl | rfl | rfl | rfl | rfl | rfl | rfl
  · rw [swt_at 0 (by rw [nI_toInt (by decide)]; rfl) rfl]; rfl
  · rw [swt_at 1 (by rw [nI_toInt (by decide)]; rfl) rfl]; rfl
  · rw [swt_at 2 (by rw [nI_toInt (by decide)]; rfl) rfl]; rfl
  · rw [swt_at 4 (by rw [nI_toInt (by decide)]; rfl) rfl]; simp only [ev2]; split <;> rfl
  · rw [swt_at 5 (by rw [nI_toInt (by decide)]; rfl) rfl]; simp only [ev2]; split <;> rfl
  · rw [swt_at 6 (by rw [nI_toInt (by decide)]; rfl) rfl]; simp only [ev2]; split <;> rfl
  · rw [swt_at 8 (by rw [nI_toInt (by decide)]; rfl) rfl]; rfl
  · rw [swt_no (Or.inr (by rw [nI_toInt (by decide)]; simp))]; rfl
theorem it2_s {α β : Type} {b : (α → β → Mem → Ans) → α → β → Mem → Ans} {K : Nat} {a : α} {c : β} {m : Mem} : it2 b (K + 1) a c m = b (it2 b K) a c m := rfl
theorem w_comesL {N e : Nat} {a2 : Int32} {b : Bool} : ∀ (L : List Spt) (K f : Nat) (st : List Int32) (s : List Bool) (m : Mem), L.length < K → f + L.length = e → e ≤ 400 → stAt (m 124) f L → Stk (m 132) st → tcOk s st → tcS L s = some [b] → st.length ≤ 22 →
    Wp (it2 (f_X12_comesTo_L6 N (nI 0) a2 (nI e)) K (nI st.length) (nI f) m) (fun v m' => v = (evS (m 133) L st).headD 0 ∧ Fr [(132, 132)] m m')
  | _, 0, _, _, _, _, h, _, _, _, _, _, _, _ => absurd h (by omega)
  | [], K + 1, f, st, s, m, hK, he, h4, hst, hS, ho, hty, hl => by
    cases hty
    have := tcOk_len ho
    match st, this, hS with
    | [x], _, hS =>
      rw [it2_s]
      unfold f_X12_comesTo_L6
      rw [if_pos (nI_le (by simp at he; omega) (by omega))]
      exact wp_ret ⟨hS.1, Fr.rf⟩
  | p :: L, K + 1, f, st, s, m, hK, he, h4, hst, hS, ho, hty, hl => by
    simp only [List.length_cons] at hK he
    obtain ⟨g1, g2, g3⟩ := hst
    unfold tcS at hty
    cases hq : tc1 p.1 p.2 s with
    | none => rw [hq] at hty; cases hty
    | some u =>
    rw [hq] at hty
    have hty : tcS L u = some [b] := hty
    have hk := tc1_k hq
    have hou := tc1_ok (m 133) hq ho
    rw [it2_s]
    have next : ∀ (z : Nat) (v : Int32), Stk (upd (m 132) z v) (ev1 (m 133) p.1 p.2 st) → (ev1 (m 133) p.1 p.2 st).length ≤ 22 →
        Wp (it2 (f_X12_comesTo_L6 N (nI 0) a2 (nI e)) K (nI (ev1 (m 133) p.1 p.2 st).length) (nI (f + 1)) (mset m 132 z v)) (fun v m' => v = (evS (m 133) (p :: L) st).headD 0 ∧ Fr [(132, 132)] m m') := by
      intro z v hz hlen
      refine wp_mono (w_comesL L K (f + 1) (ev1 (m 133) p.1 p.2 st) u (mset m 132 z v) (by omega) (by omega) h4 ?_ ?_ hou hty hlen) ?_
      · rw [mset_ne (by decide)]; exact g3
      · rw [mset_eq]; exact hz
      · rintro v' m' ⟨e1, e2⟩
        rw [mset_ne (by decide)] at e1
        exact ⟨e1, Fr.trans (Fr.set Fr.rf (by decide)) e2⟩
    revert next
    generalize it2 (f_X12_comesTo_L6 N (nI 0) a2 (nI e)) K = X
    intro next
    unfold f_X12_comesTo_L6
    simp only [li_0, li_1, li_2, li_3, li_4, li_5, li_6, li_7, li_8, li_9, li_10, li_11, li_12, li_13, li_14, li_15, li_16, li_17, li_18, li_19, li_20, li_21, li_22, li_23, li_24, li_25, li_26, li_27, li_28, li_29, li_30, li_31, li_32, li_37, li_38, li_39, li_40, li_41, li_42, li_43, li_44, li_45, li_46, li_47, li_48, li_49, li_50, li_57, li_59, li_60, li_61, li_62, li_63, li_64, li_65, li_69, li_81, li_89, li_90, li_92, li_97, li_99, li_100, li_101, li_103, li_104, li_105, li_106, li_108, li_111, li_112, li_113, li_114, li_115, li_116, li_117, li_119, li_122, li_123, li_124, li_125, li_126, li_127, li_128, li_129, li_130, li_131, li_132, li_133, li_134, li_135, li_136, li_137, li_140, li_141, li_142, li_143, li_145, li_147, li_150, li_153, li_159, li_160, li_161, li_162, li_185, li_197, li_213, li_222, li_223, li_255, li_256, li_257, li_258, li_259, li_260, li_261, li_262, li_263, li_264, li_271, li_272, li_273, li_274, li_275, li_276, li_277, li_278, li_300, li_400, li_420, li_500, li_802, li_820, li_823, li_839, li_855, li_871, li_887, li_999, li_1000, li_1001, li_1002, li_1003, li_1004, li_1005, li_1006, li_1007, li_1008, li_1009, li_1010, li_1011, li_1012, li_1013, li_1014, li_1015, li_1016, li_1017, li_1018, li_1019, li_1020, li_1021, li_1022, li_1023, li_1707, li_4096, li_9999, li_65536, li_100000, li_1000000, li_1664525, li_100000000, li_252645135, li_858993459, li_1000000007, li_1013904223, li_1431655765, li_m1, pk_mul, nI_add, Nat.mul_zero, Nat.add_zero]
    rw [if_neg (nI_ge (by omega) (by omega)), inb_nI (by omega) (by omega), chk_t, nI_clamp (by omega), bnd_s, inb_nI (by omega) (by omega), chk_t, nI_clamp (by omega), bnd_s, g1, g2]
    refine tc1_cases (m 133) hq ho ?_ ?_ ?_ ?_ ?_
    · rintro k0 - hlen ev
      rw [k0]
      rw [if_neg (nI_ge (by decide) (by decide)), if_pos rfl, inb_nI (by omega) (by omega), chk_t, nI_clamp (by omega), bnd_s]
      have h2 := next st.length p.2 (by rw [ev]; exact hS.push) (by rw [ev]; simp; omega)
      rw [ev] at h2
      exact h2
    · rintro k1 k2 - hlen ev
      rw [if_neg (nI_ge (by omega) (by decide)), if_neg (nI_ne (by omega) (by omega) (by omega)), inb_nI (by omega) (by omega), chk_t, inb_nI (by omega) (by omega), chk_t, nI_clamp (by omega), nI_clamp (by omega), bnd_s]
      have h2 := next st.length (m 133 p.1) (by rw [ev]; exact hS.push) (by rw [ev]; simp; omega)
      rw [ev] at h2
      exact h2
    · rintro a r t k0 hv rfl ht - hlen ev
      rw [k0, if_pos (nI_le (by decide) (by decide)), if_pos rfl, show nI (a :: r).length - nI 1 = nI r.length from nI_pred _, inb_nI (by omega) (by omega), chk_t, decide_eq_true (show p.2 ≠ nI 0 from hv), chk_t, chk_t, nI_clamp (by omega), bnd_s]
      have h2 := next r.length (a / p.2) (by rw [ev]; exact Stk.push hS.2) (by rw [ev]; simp; omega)
      rw [ev] at h2
      rw [hS.1]
      exact h2
    · rintro a r t k0 rfl ha ht - ev
      simp only [List.length_cons] at hl
      rw [k0, if_pos (nI_le (by decide) (by decide)), if_neg (nI_ne (by decide) (by decide) (by decide)), if_pos rfl, show nI (a :: r).length - nI 1 = nI r.length from nI_pred _, inb_nI (by omega) (by omega), chk_t, chk_t, nI_clamp (by omega), bnd_s]
      have h2 := next r.length (1 - a) (by rw [ev]; exact Stk.push hS.2) (by rw [ev]; simp; omega)
      rw [ev] at h2
      rw [hS.1]
      exact h2
    · rintro a b2 r t x k0 rfl ht - hx ev
      simp only [List.length_cons] at hl
      rw [if_pos (nI_le (by omega) (by omega)), if_neg (nI_ne (by omega) (by omega) (by omega)), if_neg (nI_ne (by omega) (by omega) (by omega)), show nI (a :: b2 :: r).length + mo1 = nI (r.length + 1) from pk_m1 _, nI_dn, inb_nI (by omega) (by omega), chk_t, inb_nI (by omega) (by omega), chk_t, nI_clamp (by omega), nI_clamp (by omega), show m 132 (r.length + 1) = a from hS.1, show m 132 r.length = b2 from hS.2.1, e_both m k0, bd_s, chk_t, bnd_s]
      have h2 := next r.length (ev2 p.1 b2 a) (by rw [ev]; exact Stk.push hS.2.2) (by rw [ev]; simp; omega)
      rw [ev] at h2
      exact h2
theorem w_comesTo {N f : Nat} {b : Bool} {L : List Spt} {m : Mem} (hN : 20000 ≤ N) (h4 : f + L.length ≤ 400) (hst : stAt (m 124) f L) (hty : tcS L [] = some [b]) : Wp (f_X12_comesTo N (nI 0) (nI f) (nI (f + L.length)) m) (fun v m' => v = (evS (m 133) L []).headD 0 ∧ Fr [(132, 132)] m m') :=
  w_comesL L N f [] [] m (by omega) rfl h4 hst trivial trivial hty (by simp)
