/-! what the statutes told are in the row of the state -/
section STATW
variable {T : List St3} {i j n c z : Nat} {w w' : Arr} {x : St3}
def sqT (k : Nat) : Nat := if k = 0 then 7 else if k = 1 then 8 else if k = 2 then 10 else 9
theorem sqT_tr {k : Nat} : trK 1 (stW k) = sqT k := by
  by_cases h0 : k = 0
  · subst h0; decide
  · by_cases h1 : k = 1
    · subst h1; decide
    · by_cases h2 : k = 2
      · subst h2; decide
      · unfold stW sqT
        rw [if_neg h0, if_neg h1, if_neg h2, if_neg h0, if_neg h1, if_neg h2]
        decide
/-- the row of the state has the statutes T -/
def RowT (w : Arr) (T : List St3) : Prop := w 41 = nI T.length ∧ T.length ≤ 16 ∧ (∀ x, x ∈ T → x.1 ≤ 3 ∧ x.2.1 ≤ 9999 ∧ x.2.2 ≤ 9999 ∧ (x.1 = 3 → x.2.1 < 12)) ∧ ∀ i x, T[i]? = some x → w (105 + 3 * i) = nI (sqT x.1) ∧ w (105 + 3 * i + 1) = nI x.2.1 ∧ w (105 + 3 * i + 2) = nI x.2.2
theorem RowT.z_s (H : RowT w T) : zs w = T.length := by
  have := H.2.1
  unfold zs
  rw [H.1, nv_nI (by omega)]
theorem sqT_eq {a k : Nat} (ha : a ≤ 3) (hk : k ≤ 3) : nI (sqT a) = nI (sqT k) ↔ a = k := by
  have h : ∀ a, a ≤ 3 → ∀ k, k ≤ 3 → (nI (sqT a) = nI (sqT k) ↔ a = k) := by decide +kernel
  exact h a ha k hk
def lasT (k wo : Nat) (T : List St3) : Nat := T.foldl (fun acc x => if x.1 = k then x.2.1 else acc) wo
theorem lasT_sn {k wo : Nat} : lasT k wo (T ++ [x]) = if x.1 = k then x.2.1 else lasT k wo T := by
  unfold lasT
  rw [List.foldl_append]
  rfl
theorem RowT.mem (H : RowT w T) (h : T[i]? = some x) : x.1 ≤ 3 ∧ x.2.1 ≤ 9999 ∧ x.2.2 ≤ 9999 ∧ (x.1 = 3 → x.2.1 < 12) := H.2.2.1 x (List.mem_iff_getElem?.mpr ⟨i, h⟩)
theorem lst_T {k wo : Nat} (H : RowT w T) (hk : k ≤ 3) : ∀ n, n ≤ T.length → lstS w (sqT k) (nI wo) n = nI (lasT k wo (T.take n))
  | 0, _ => rfl
  | n + 1, hn => by
    have e : T[n]? = some T[n] := List.getElem?_eq_getElem (by omega)
    have ih := lst_T (wo := wo) H hk n (by omega)
    obtain ⟨r1, r2, r3⟩ := H.2.2.2 n _ e
    have hx := H.mem e
    rw [List.take_succ, e]
    show _ = nI (lasT k wo (T.take n ++ [T[n]]))
    rw [lasT_sn]
    unfold lstS
    rw [r1, r2, ih]
    by_cases q : T[n].1 = k
    · rw [if_pos q, if_pos ((sqT_eq hx.1 hk).mpr q)]
    · rw [if_neg q, if_neg (fun z => q ((sqT_eq hx.1 hk).mp z))]
theorem lst_all {k wo : Nat} (H : RowT w T) (hk : k ≤ 3) : lstS w (sqT k) (nI wo) (zs w) = nI (lasT k wo T) := by
  rw [H.z_s, lst_T H hk _ (Nat.le_refl _), List.take_length]
def dblT (T : List St3) : Nat := T.foldl (fun acc x => if x.1 = 3 then acc ||| 2 ^ x.2.1 else acc) 0
theorem dblT_sn : dblT (T ++ [x]) = if x.1 = 3 then dblT T ||| 2 ^ x.2.1 else dblT T := by
  unfold dblT
  rw [List.foldl_append]
  rfl
theorem dblT_bt : ∀ (T : List St3) (a : Nat), (T.foldl (fun acc x => if x.1 = 3 then acc ||| 2 ^ x.2.1 else acc) a).testBit i = (a.testBit i || T.any fun x => decide (x.1 = 3) && decide (x.2.1 = i))
  | [], a => by simp
  | x :: r, a => by
    show (r.foldl _ (if x.1 = 3 then a ||| 2 ^ x.2.1 else a)).testBit i = _
    rw [dblT_bt r, List.any_cons]
    by_cases q : x.1 = 3
    · rw [if_pos q, Nat.testBit_or, Nat.testBit_two_pow, decide_eq_true q, Bool.true_and, Bool.or_assoc]
    · rw [if_neg q, decide_eq_false q, Bool.false_and, Bool.false_or]
theorem cnt_T (H : RowT w T) (hi : i < 12) : decide (cnt w i = 2) = T.any fun x => decide (x.1 = 3) && decide (x.2.1 = i) := by
  have e : ((List.range (zs w)).any fun j => decide (w (105 + 3 * j) = nI 9) && decide (w (105 + 3 * j + 1) = nI i)) = T.any fun x => decide (x.1 = 3) && decide (x.2.1 = i) := by
    rw [Bool.eq_iff_iff, List.any_eq_true, List.any_eq_true]
    constructor
    · rintro ⟨j, hj, q⟩
      rw [List.mem_range, H.z_s] at hj
      have e : T[j]? = some T[j] := List.getElem?_eq_getElem hj
      obtain ⟨r1, r2, -⟩ := H.2.2.2 j _ e
      have hx := H.mem e
      rw [Bool.and_eq_true, decide_eq_true_eq, decide_eq_true_eq, r1, r2] at q
      refine ⟨T[j], List.getElem_mem hj, ?_⟩
      rw [Bool.and_eq_true, decide_eq_true_eq, decide_eq_true_eq]
      exact ⟨(sqT_eq (k := 3) hx.1 (by decide)).mp q.1, (nI_eq (by omega) (by omega)).mp q.2⟩
    · rintro ⟨x, hx, q⟩
      obtain ⟨j, hj⟩ := List.mem_iff_getElem?.mp hx
      have lt : j < T.length := (List.getElem?_eq_some_iff.mp hj).1
      obtain ⟨r1, r2, -⟩ := H.2.2.2 j _ hj
      rw [Bool.and_eq_true, decide_eq_true_eq, decide_eq_true_eq] at q
      refine ⟨j, by rw [List.mem_range, H.z_s]; exact lt, ?_⟩
      rw [Bool.and_eq_true, decide_eq_true_eq, decide_eq_true_eq, r1, r2, q.1, q.2]
      exact ⟨rfl, rfl⟩
  unfold cnt
  rw [e]
  cases T.any fun x => decide (x.1 = 3) && decide (x.2.1 = i) <;> decide
theorem dbl_T (H : RowT w T) : dblS w 12 = dblT T := by
  apply Nat.eq_of_testBit_eq
  intro i
  have e : (dblT T).testBit i = T.any fun x => decide (x.1 = 3) && decide (x.2.1 = i) := by
    unfold dblT
    rw [dblT_bt, Nat.zero_testBit, Bool.false_or]
  rw [e]
  by_cases hi : i < 12
  · rw [dbl_bit 12 hi, cnt_T H hi]
  · rw [Nat.testBit_lt_two_pow (Nat.lt_of_lt_of_le (dbl_lt 12) (Nat.pow_le_pow_right (by decide) (by omega)))]
    symm
    rw [List.any_eq_false]
    intro x hx q
    rw [Bool.and_eq_true, decide_eq_true_eq, decide_eq_true_eq] at q
    have := (H.2.2.1 x hx).2.2.2 q.1
    omega
def hdT (T : List St3) : List St3 := T.filter fun x => decide (x.1 = 0)
theorem hdT_sn : hdT (T ++ [x]) = if x.1 = 0 then hdT T ++ [x] else hdT T := by
  unfold hdT
  rw [List.filter_append]
  by_cases q : x.1 = 0
  · rw [if_pos q, List.filter_cons_of_pos (by rw [decide_eq_true_eq]; exact q), List.filter_nil]
  · rw [if_neg q, List.filter_cons_of_neg (by rw [decide_eq_true_eq]; exact q), List.filter_nil, List.append_nil]
theorem hnL_T (H : RowT w T) : (hnL w).map (fun i => T.getD i (0, 0, 0)) = hdT T := by
  have e : (List.range T.length).map (fun i => T.getD i (0, 0, 0)) = T := by
    apply List.ext_getElem
    · simp
    · intro i h1 h2
      simp [h2]
  have f : hnL w = (List.range T.length).filter ((fun x : St3 => decide (x.1 = 0)) ∘ fun i => T.getD i (0, 0, 0)) := by
    unfold hnL
    rw [H.z_s]
    apply List.filter_congr
    intro j hj
    rw [List.mem_range] at hj
    have e : T[j]? = some T[j] := List.getElem?_eq_getElem hj
    obtain ⟨r1, -⟩ := H.2.2.2 j _ e
    have hx := H.mem e
    show _ = decide ((T.getD j (0, 0, 0)).1 = 0)
    rw [List.getD_eq_getElem?_getD, e, r1]
    exact decide_eq_decide.mpr (sqT_eq (k := 0) hx.1 (by decide))
  rw [f, ← List.filter_map, e]
  rfl
theorem hnL_len (H : RowT w T) : (hnL w).length = (hdT T).length := by
  rw [← hnL_T H, List.length_map]
theorem hnL_at (H : RowT w T) (hj : j < (hdT T).length) : w (105 + 3 * (hnL w).getD j 0 + 1) = nI ((hdT T).getD j (0, 0, 0)).2.1 ∧ w (105 + 3 * (hnL w).getD j 0 + 2) = nI ((hdT T).getD j (0, 0, 0)).2.2 := by
  have hj' : j < (hnL w).length := by rw [hnL_len H]; exact hj
  have hm : (hnL w).getD j 0 ∈ hnL w := by
    rw [List.getD_eq_getElem?_getD, List.getElem?_eq_getElem hj']
    exact List.getElem_mem hj'
  have lt : (hnL w).getD j 0 < T.length := by
    have := (List.mem_filter.mp hm).1
    rw [List.mem_range, H.z_s] at this
    exact this
  have e : T[(hnL w).getD j 0]? = some T[(hnL w).getD j 0] := List.getElem?_eq_getElem lt
  obtain ⟨-, r2, r3⟩ := H.2.2.2 _ _ e
  have g : (hdT T).getD j (0, 0, 0) = T[(hnL w).getD j 0] := by
    rw [← hnL_T H, List.getD_eq_getElem?_getD, List.getElem?_map, List.getElem?_eq_getElem hj']
    show T.getD ((hnL w)[j]) (0, 0, 0) = _
    have e2 : (hnL w).getD j 0 = (hnL w)[j] := by
      rw [List.getD_eq_getElem?_getD, List.getElem?_eq_getElem hj']
      rfl
    rw [List.getD_eq_getElem?_getD, ← e2, e]
    rfl
  rw [g]
  exact ⟨r2, r3⟩
end STATW
