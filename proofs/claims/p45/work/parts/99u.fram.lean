/-! the class's functions leave the ghost's cells alone -/
def Gh (m0 m : Mem) : Prop := ∀ k, 123 ≤ k → m k = m0 k
def PsG (m0 : Mem) (x : Ans) : Prop := ∀ (v : Int32) (m : Mem), x = some (v, m) → Gh m0 m
theorem Gh.rf (m : Mem) : Gh m m := fun _ _ => rfl
theorem rq_lt (r j : Nat) : rq r j < 123 := by
  have h : (SG.all fun e => e.2.2.all fun o => decide (o.getD 0 < 123)) = true := by decide +kernel
  unfold rq
  rw [List.getD_eq_getElem?_getD]
  cases hq : (sgd r).2.2[j]? with
  | none => exact Nat.zero_lt_succ _
  | some o =>
    have hm : o ∈ (sgd r).2.2 := List.mem_of_getElem? hq
    cases hs : SG[r]? with
    | none =>
      unfold sgd at hm
      rw [List.getD_eq_getElem?_getD, hs] at hm
      exact absurd hm (List.not_mem_nil)
    | some e =>
      unfold sgd at hm
      rw [List.getD_eq_getElem?_getD, hs] at hm
      have h1 := List.all_eq_true.mp h e (List.mem_of_getElem? hs)
      exact of_decide_eq_true (List.all_eq_true.mp h1 o hm)
section FRAM
variable {m0 m : Mem} {x y : Ans} {c : Prop}
theorem pg_none : PsG m0 none := fun _ _ h => by cases h
theorem pg_ret {v : Int32} (h : Gh m0 m) : PsG m0 (some (v, m)) := fun _ _ e => by cases e; exact h
theorem pg_ite {hd : Decidable c} (hx : PsG m0 x) (hy : PsG m0 y) : PsG m0 (@ite _ c hd x y) := by
  by_cases q : c
  · rw [if_pos q]; exact hx
  · rw [if_neg q]; exact hy
theorem pg_chk {b : Bool} (h : PsG m0 x) : PsG m0 (chk b x) := by
  cases b
  · exact pg_none
  · exact h
theorem pg_bnd {α : Type} {e : α} {f : α → Ans} (h : ∀ a, PsG m0 (f a)) : PsG m0 (bnd e f) := h e
theorem pg_set {k j : Nat} {v : Int32} {f : Mem → Ans} (h : Gh m0 m) (hk : k < 123) (hf : ∀ m', Gh m0 m' → PsG m0 (f m')) : PsG m0 (bnd (mset m k j v) f) := hf _ (fun i hi => (mset_ne (by omega)).trans (h i hi))
theorem pg_bd {f : Int32 → Mem → Ans} (h : PsG m0 x) (hf : ∀ v m, Gh m0 m → PsG m0 (f v m)) : PsG m0 (bd x f) := by
  intro v m e
  cases hx : x with
  | none => rw [hx] at e; cases e
  | some q =>
    rw [hx] at e
    exact hf q.1 q.2 (h q.1 q.2 hx) v m e
def PgL (m0 : Mem) : List Ans → Prop
  | [] => True
  | x :: xs => PsG m0 x ∧ PgL m0 xs
theorem pg_swt {i : Int} {xs : List Ans} (h : PgL m0 xs) (hx : PsG m0 x) : PsG m0 (swt i xs x) := by
  unfold swt
  split
  · exact hx
  · generalize i.toNat = k
    induction xs generalizing k with
    | nil => exact hx
    | cons z xs ih =>
      cases k with
      | zero => exact h.1
      | succ k => exact ih h.2 k
theorem pg_it0 {F : (Mem → Ans) → Mem → Ans} (hF : ∀ Y, (∀ m, Gh m0 m → PsG m0 (Y m)) → ∀ m, Gh m0 m → PsG m0 (F Y m)) : ∀ {n : Nat} {m : Mem}, Gh m0 m → PsG m0 (it0 F n m)
  | 0, _, _ => pg_none
  | n + 1, m, h => hF _ (fun m h => pg_it0 hF h) m h
theorem pg_it1 {α : Type} {F : (α → Mem → Ans) → α → Mem → Ans} (hF : ∀ Y, (∀ a m, Gh m0 m → PsG m0 (Y a m)) → ∀ a m, Gh m0 m → PsG m0 (F Y a m)) : ∀ {n : Nat} {a : α} {m : Mem}, Gh m0 m → PsG m0 (it1 F n a m)
  | 0, _, _, _ => pg_none
  | n + 1, a, m, h => hF _ (fun a m h => pg_it1 hF h) a m h
theorem pg_it2 {α β : Type} {F : (α → β → Mem → Ans) → α → β → Mem → Ans} (hF : ∀ Y, (∀ a b m, Gh m0 m → PsG m0 (Y a b m)) → ∀ a b m, Gh m0 m → PsG m0 (F Y a b m)) : ∀ {n : Nat} {a : α} {b : β} {m : Mem}, Gh m0 m → PsG m0 (it2 F n a b m)
  | 0, _, _, _, _ => pg_none
  | n + 1, a, b, m, h => hF _ (fun a b m h => pg_it2 hF h) a b m h
theorem pg_it3 {α β γ : Type} {F : (α → β → γ → Mem → Ans) → α → β → γ → Mem → Ans} (hF : ∀ Y, (∀ a b c m, Gh m0 m → PsG m0 (Y a b c m)) → ∀ a b c m, Gh m0 m → PsG m0 (F Y a b c m)) : ∀ {n : Nat} {a : α} {b : β} {c : γ} {m : Mem}, Gh m0 m → PsG m0 (it3 F n a b c m)
  | 0, _, _, _, _, _ => pg_none
  | n + 1, a, b, c, m, h => hF _ (fun a b c m h => pg_it3 hF h) a b c m h
theorem pg_it4 {α β γ δ : Type} {F : (α → β → γ → δ → Mem → Ans) → α → β → γ → δ → Mem → Ans} (hF : ∀ Y, (∀ a b c d m, Gh m0 m → PsG m0 (Y a b c d m)) → ∀ a b c d m, Gh m0 m → PsG m0 (F Y a b c d m)) : ∀ {n : Nat} {a : α} {b : β} {c : γ} {d : δ} {m : Mem}, Gh m0 m → PsG m0 (it4 F n a b c d m)
  | 0, _, _, _, _, _, _ => pg_none
  | n + 1, a, b, c, d, m, h => hF _ (fun a b c d m h => pg_it4 hF h) a b c d m h
theorem pg_cpy {a b i j n : Nat} {f : Mem → Ans} (h : Gh m0 m) (hk : b < 123) (hf : ∀ m', Gh m0 m' → PsG m0 (f m')) : PsG m0 (bnd (mcpy m a b i j n) f) := hf _ (fun k hq => by
  have : k ≠ b := by omega
  funext z
  show (if k = b then _ else m k z) = _
  rw [if_neg this, h k hq])
theorem mo_l3 (i : Int32) : mo i < 123 := by
  unfold mo
  generalize i.toNatClampNeg = n
  match n with
  | 0 => decide
  | 1 => decide
  | 2 => decide
  | 3 => decide
  | 4 => decide
  | 5 => decide
  | n + 6 => exact (show (50 : Nat) < 123 by decide)
theorem pg_mom {N : Nat} {a : Int32} {f : Int32 → Mem → Ans} (hm : Gh m0 m) (hf : ∀ v m, v.toNatClampNeg < 123 → Gh m0 m → PsG m0 (f v m)) : PsG m0 (bd (f_X4_momentAt N a m) f) := by
  unfold f_X4_momentAt
  by_cases q : a < 0
  · rw [if_pos q]
    exact hf _ _ (show (-1 : Int32).toNatClampNeg < 123 by decide) hm
  · rw [if_neg q]
    by_cases q2 : (6 : Int32) ≤ a
    · rw [if_pos q2]
      exact hf _ _ (show (-1 : Int32).toNatClampNeg < 123 by decide) hm
    · rw [if_neg q2]
      cases inb a 6 with
      | false => exact fun _ _ e => by cases e
      | true =>
        have := mo_l3 a
        exact hf _ _ (by rw [nI_clamp (by omega)]; exact this) hm
end FRAM
theorem pg_f_X9_at {m0 : Mem} {N : Nat} {this : Nat} {a1 : Int32} {a2 : Int32} {m : Mem} (hthis : this < 123)  (hm : Gh m0 m) : PsG m0 (f_X9_at N this a1 a2 m) := by
  unfold f_X9_at
  refine pg_ite ?_ ?_
  · exact pg_ret hm
  · refine pg_ite ?_ ?_
    · exact pg_ret hm
    · refine pg_ite ?_ ?_
      · exact pg_ret hm
      · refine pg_ite ?_ ?_
        · refine pg_bnd (fun a3_34 => ?_)
          refine pg_ite ?_ ?_
          · exact pg_ret hm
          · refine pg_ite ?_ ?_
            · exact pg_ret hm
            · refine pg_chk ?_
              exact pg_ret hm
        · exact pg_ret hm
theorem pg_f_X1_hour {m0 : Mem} {N : Nat} {a1 : Int32} {m : Mem}   (hm : Gh m0 m) : PsG m0 (f_X1_hour N a1 m) := by
  unfold f_X1_hour
  refine pg_bd ((pg_f_X9_at (by decide) hm)) (fun r_6 m_6 hm_6 => ?_)
  exact pg_ret hm_6
theorem pg_f_X9_put {m0 : Mem} {N : Nat} {this : Nat} {a1 : Int32} {a2 : Int32} {a3 : Int32} {m : Mem} (hthis : this < 123)  (hm : Gh m0 m) : PsG m0 (f_X9_put N this a1 a2 a3 m) := by
  unfold f_X9_put
  refine pg_ite ?_ ?_
  · exact pg_ret hm
  · refine pg_ite ?_ ?_
    · exact pg_ret hm
    · refine pg_ite ?_ ?_
      · exact pg_ret hm
      · refine pg_ite ?_ ?_
        · refine pg_bnd (fun a4_33 => ?_)
          refine pg_ite ?_ ?_
          · exact pg_ret hm
          · refine pg_ite ?_ ?_
            · exact pg_ret hm
            · refine pg_chk ?_
              refine pg_set hm (rq_lt _ _) (fun m_57 hm_57 => ?_)
              exact pg_ret hm_57
        · exact pg_ret hm
theorem pg_f_X1_setHour {m0 : Mem} {N : Nat} {a1 : Int32} {a2 : Int32} {m : Mem}   (hm : Gh m0 m) : PsG m0 (f_X1_setHour N a1 a2 m) := by
  unfold f_X1_setHour
  refine pg_bd ((pg_f_X9_put (by decide) hm)) (fun _ m_7 hm_7 => ?_)
  exact pg_ret hm_7
theorem pg_f_X9_add_L54 {m0 : Mem} {N : Nat} {this : Nat} {a1 : Int32} {a2 : Int32} {a3 : Int32} {a4 : Int32} {a5_9 : Int32} {X : Int32 → Mem → Ans} {s6_54 : Int32} {m : Mem} (hthis : this < 123) (hX : ∀ (q0 : Int32) (m : Mem), Gh m0 m → PsG m0 (X q0 m)) (hm : Gh m0 m) : PsG m0 (f_X9_add_L54 N this a1 a2 a3 a4 a5_9 X s6_54 m) := by
  unfold f_X9_add_L54
  refine pg_ite ?_ ?_
  · refine pg_set hm hthis (fun m_140 hm_140 => ?_)
    exact pg_ret hm_140
  · refine pg_ite ?_ ?_
    · refine pg_set hm hthis (fun m_140 hm_140 => ?_)
      exact pg_ret hm_140
    · refine pg_ite ?_ ?_
      · refine pg_chk ?_
        refine pg_set hm (rq_lt _ _) (fun m_126 hm_126 => ?_)
        exact hX (s6_54 + 1) m_126 hm_126
      · refine pg_ite ?_ ?_
        · refine pg_chk ?_
          refine pg_set hm (rq_lt _ _) (fun m_126 hm_126 => ?_)
          exact hX (s6_54 + 1) m_126 hm_126
        · refine pg_ite ?_ ?_
          · refine pg_chk ?_
            refine pg_set hm (rq_lt _ _) (fun m_126 hm_126 => ?_)
            exact hX (s6_54 + 1) m_126 hm_126
          · refine pg_ite ?_ ?_
            · refine pg_chk ?_
              refine pg_set hm (rq_lt _ _) (fun m_126 hm_126 => ?_)
              exact hX (s6_54 + 1) m_126 hm_126
            · refine pg_chk ?_
              refine pg_set hm (rq_lt _ _) (fun m_126 hm_126 => ?_)
              exact hX (s6_54 + 1) m_126 hm_126
theorem pg_f_X9_add {m0 : Mem} {N : Nat} {this : Nat} {a1 : Int32} {a2 : Int32} {a3 : Int32} {a4 : Int32} {m : Mem} (hthis : this < 123)  (hm : Gh m0 m) : PsG m0 (f_X9_add N this a1 a2 a3 a4 m) := by
  unfold f_X9_add
  refine pg_bnd (fun a5_9 => ?_)
  refine pg_ite ?_ ?_
  · exact pg_ret hm
  · refine pg_ite ?_ ?_
    · exact pg_ret hm
    · refine pg_ite ?_ ?_
      · exact pg_ret hm
      · refine pg_ite ?_ ?_
        · exact pg_it1 (fun Y hY y0 m1 hm1 => (pg_f_X9_add_L54 hthis hY hm1)) hm
        · exact pg_ret hm
theorem pg_f_X1_note {m0 : Mem} {N : Nat} {a1 : Int32} {a2 : Int32} {a3 : Int32} {m : Mem}   (hm : Gh m0 m) : PsG m0 (f_X1_note N a1 a2 a3 m) := by
  unfold f_X1_note
  refine pg_bd ((pg_f_X9_at (by decide) hm)) (fun r_10 m_10 hm_10 => ?_)
  refine pg_bd ((pg_f_X9_add (by decide) hm_10)) (fun r_16 m_16 hm_16 => ?_)
  exact pg_ret hm_16
theorem pg_f_X1_those_L4 {m0 : Mem} {N : Nat} {a1 : Int32} {X : Int32 → Int32 → Mem → Ans} {s2_4 : Int32} {s3_4 : Int32} {m : Mem}  (hX : ∀ (q0 : Int32) (q1 : Int32) (m : Mem), Gh m0 m → PsG m0 (X q0 q1 m)) (hm : Gh m0 m) : PsG m0 (f_X1_those_L4 N a1 X s2_4 s3_4 m) := by
  unfold f_X1_those_L4
  refine pg_ite ?_ ?_
  · exact pg_ret hm
  · refine pg_bd ((pg_f_X9_at (by decide) hm)) (fun r_21 m_21 hm_21 => ?_)
    refine pg_ite ?_ ?_
    · refine pg_bnd (fun a2_33 => ?_)
      exact hX a2_33 (s3_4 + 1) m_21 hm_21
    · exact hX s2_4 (s3_4 + 1) m_21 hm_21
theorem pg_f_X1_those {m0 : Mem} {N : Nat} {a1 : Int32} {m : Mem}   (hm : Gh m0 m) : PsG m0 (f_X1_those N a1 m) := by
  unfold f_X1_those
  exact pg_it2 (fun Y hY y0 y1 m1 hm1 => (pg_f_X1_those_L4 hY hm1)) hm
theorem pg_f_X9_copy {m0 : Mem} {N : Nat} {this : Nat} {a1 : Nat} {m : Mem} (hthis : this < 123) (ha1 : a1 < 123)  (hm : Gh m0 m) : PsG m0 (f_X9_copy N this a1 m) := by
  unfold f_X9_copy
  refine pg_ite ?_ ?_
  · refine pg_chk ?_
    refine pg_cpy hm (rq_lt _ _) (fun m_28 hm_28 => ?_)
    refine pg_set hm_28 hthis (fun m_36 hm_36 => ?_)
    exact pg_ret hm_36
  · exact pg_ret hm
theorem pg_f_X1_countHands_L2 {m0 : Mem} {N : Nat} {K30 : Mem → Ans} {X : Int32 → Mem → Ans} {s1_2 : Int32} {m : Mem}  (hK30 : ∀ (m : Mem), Gh m0 m → PsG m0 (K30  m)) (hX : ∀ (q0 : Int32) (m : Mem), Gh m0 m → PsG m0 (X q0 m)) (hm : Gh m0 m) : PsG m0 (f_X1_countHands_L2 N K30 X s1_2 m) := by
  unfold f_X1_countHands_L2
  refine pg_ite ?_ ?_
  · exact hK30  m hm
  · refine pg_bd ((pg_f_X9_put (by decide) hm)) (fun _ m_21 hm_21 => ?_)
    exact hX (s1_2 + 1) m_21 hm_21
theorem pg_f_X1_countHands_L32 {m0 : Mem} {N : Nat} {X : Int32 → Mem → Ans} {s1_32 : Int32} {m : Mem}  (hX : ∀ (q0 : Int32) (m : Mem), Gh m0 m → PsG m0 (X q0 m)) (hm : Gh m0 m) : PsG m0 (f_X1_countHands_L32 N X s1_32 m) := by
  unfold f_X1_countHands_L32
  refine pg_ite ?_ ?_
  · exact pg_ret hm
  · refine pg_bd ((pg_f_X9_at (by decide) hm)) (fun r_49 m_49 hm_49 => ?_)
    refine pg_ite ?_ ?_
    · refine pg_bd ((pg_f_X9_at (by decide) hm_49)) (fun r_68 m_68 hm_68 => ?_)
      refine pg_bd ((pg_f_X9_put (by decide) hm_68)) (fun _ m_74 hm_74 => ?_)
      exact hX (s1_32 + 1) m_74 hm_74
    · exact hX (s1_32 + 1) m_49 hm_49
theorem pg_f_X1_countHands {m0 : Mem} {N : Nat} {m : Mem}   (hm : Gh m0 m) : PsG m0 (f_X1_countHands N m) := by
  unfold f_X1_countHands
  exact pg_it1 (fun Y hY y0 m1 hm1 => (pg_f_X1_countHands_L2 (fun mk30 hmk30 => by
            exact pg_it1 (fun Y hY y0 m1 hm1 => (pg_f_X1_countHands_L32 hY hm1)) hmk30) hY hm1)) hm
theorem pg_f_X1_seat_J55 {m0 : Mem} {N : Nat} {s1_2 : Int32} {K88 : Int32 → Mem → Ans} {X : Int32 → Int32 → Mem → Ans} {s2_55 : Int32} {s3_55 : Int32} {m : Mem}  (hK88 : ∀ (q0 : Int32) (m : Mem), Gh m0 m → PsG m0 (K88 q0 m)) (hX : ∀ (q0 : Int32) (q1 : Int32) (m : Mem), Gh m0 m → PsG m0 (X q0 q1 m)) (hm : Gh m0 m) : PsG m0 (f_X1_seat_J55 N s1_2 K88 X s2_55 s3_55 m) := by
  unfold f_X1_seat_J55
  refine pg_bd ((pg_f_X9_at (by decide) hm)) (fun r_61 m_61 hm_61 => ?_)
  refine pg_ite ?_ ?_
  · refine pg_bd ((pg_f_X9_at (by decide) hm_61)) (fun r_76 m_76 hm_76 => ?_)
    refine pg_bnd (fun a2_81 => ?_)
    exact hX a2_81 (s3_55 + 1) m_76 hm_76
  · exact hX s2_55 (s3_55 + 1) m_61 hm_61
theorem pg_f_X1_seat_L17 {m0 : Mem} {N : Nat} {s1_2 : Int32} {K88 : Int32 → Mem → Ans} {X : Int32 → Int32 → Mem → Ans} {s2_17 : Int32} {s3_17 : Int32} {m : Mem}  (hK88 : ∀ (q0 : Int32) (m : Mem), Gh m0 m → PsG m0 (K88 q0 m)) (hX : ∀ (q0 : Int32) (q1 : Int32) (m : Mem), Gh m0 m → PsG m0 (X q0 q1 m)) (hm : Gh m0 m) : PsG m0 (f_X1_seat_L17 N s1_2 K88 X s2_17 s3_17 m) := by
  unfold f_X1_seat_L17
  refine pg_ite ?_ ?_
  · exact hK88 s2_17 m hm
  · refine pg_bd ((pg_f_X9_at (by decide) hm)) (fun r_34 m_34 hm_34 => ?_)
    refine pg_ite ?_ ?_
    · refine pg_bd ((pg_f_X9_at (by decide) hm_34)) (fun r_49 m_49 hm_49 => ?_)
      refine pg_bnd (fun a2_54 => ?_)
      exact (pg_f_X1_seat_J55 hK88 hX hm_49)
    · exact (pg_f_X1_seat_J55 hK88 hX hm_34)
theorem pg_f_X1_seat_L2 {m0 : Mem} {N : Nat} {X : Int32 → Mem → Ans} {s1_2 : Int32} {m : Mem}  (hX : ∀ (q0 : Int32) (m : Mem), Gh m0 m → PsG m0 (X q0 m)) (hm : Gh m0 m) : PsG m0 (f_X1_seat_L2 N X s1_2 m) := by
  unfold f_X1_seat_L2
  refine pg_ite ?_ ?_
  · exact pg_ret hm
  · exact pg_it2 (fun Y hY y0 y1 m1 hm1 => (pg_f_X1_seat_L17 (fun k2_88 mk88 hmk88 => by
            refine pg_bd ((pg_f_X9_put (by decide) hmk88)) (fun _ m_96 hm_96 => ?_)
            exact hX (s1_2 + 1) m_96 hm_96) hY hm1)) hm
theorem pg_f_X1_seat {m0 : Mem} {N : Nat} {m : Mem}   (hm : Gh m0 m) : PsG m0 (f_X1_seat N m) := by
  unfold f_X1_seat
  exact pg_it1 (fun Y hY y0 m1 hm1 => (pg_f_X1_seat_L2 hY hm1)) hm
theorem pg_f_X1_takeText {m0 : Mem} {N : Nat} {a1 : Int32} {m : Mem}   (hm : Gh m0 m) : PsG m0 (f_X1_takeText N a1 m) := by
  unfold f_X1_takeText
  refine pg_swt ⟨?_, ?_, ?_, ?_, trivial⟩ ?_
  · refine pg_bd ((pg_f_X9_copy (by decide) (by decide) hm)) (fun _ m_37 hm_37 => ?_)
    refine pg_bd ((pg_f_X9_copy (by decide) (by decide) hm_37)) (fun _ m_45 hm_45 => ?_)
    exact pg_ret hm_45
  · refine pg_bd ((pg_f_X9_copy (by decide) (by decide) hm)) (fun _ m_56 hm_56 => ?_)
    refine pg_bd ((pg_f_X1_countHands hm_56)) (fun _ m_60 hm_60 => ?_)
    exact pg_ret hm_60
  · refine pg_bd ((pg_f_X9_copy (by decide) (by decide) hm)) (fun _ m_71 hm_71 => ?_)
    exact pg_ret hm_71
  · refine pg_bd ((pg_f_X9_copy (by decide) (by decide) hm)) (fun _ m_82 hm_82 => ?_)
    refine pg_bd ((pg_f_X1_seat hm_82)) (fun _ m_86 hm_86 => ?_)
    exact pg_ret hm_86
  · exact pg_ret hm
theorem pg_f_X1_handsDue_L6 {m0 : Mem} {N : Nat} {X : Int32 → Int32 → Int32 → Mem → Ans} {s1_6 : Int32} {s2_6 : Int32} {s3_6 : Int32} {m : Mem}  (hX : ∀ (q0 : Int32) (q1 : Int32) (q2 : Int32) (m : Mem), Gh m0 m → PsG m0 (X q0 q1 q2 m)) (hm : Gh m0 m) : PsG m0 (f_X1_handsDue_L6 N X s1_6 s2_6 s3_6 m) := by
  unfold f_X1_handsDue_L6
  refine pg_ite ?_ ?_
  · exact pg_ret hm
  · refine pg_bd ((pg_f_X9_at (by decide) hm)) (fun r_23 m_23 hm_23 => ?_)
    refine pg_bd ((pg_f_X9_at (by decide) hm_23)) (fun r_34 m_34 hm_34 => ?_)
    refine pg_ite ?_ ?_
    · refine pg_ite ?_ ?_
      · exact hX s1_6 s2_6 (s3_6 + 1) m_34 hm_34
      · refine pg_bd ((pg_f_X9_at (by decide) hm_34)) (fun r_57 m_57 hm_57 => ?_)
        refine pg_ite ?_ ?_
        · exact hX s1_6 s2_6 (s3_6 + 1) m_57 hm_57
        · refine pg_bd ((pg_f_X9_at (by decide) hm_57)) (fun r_72 m_72 hm_72 => ?_)
          exact hX r_72 r_23 (s3_6 + 1) m_72 hm_72
    · exact hX s1_6 s2_6 (s3_6 + 1) m_34 hm_34
theorem pg_f_X1_handsDue {m0 : Mem} {N : Nat} {m : Mem}   (hm : Gh m0 m) : PsG m0 (f_X1_handsDue N m) := by
  unfold f_X1_handsDue
  exact pg_it3 (fun Y hY y0 y1 y2 m1 hm1 => (pg_f_X1_handsDue_L6 hY hm1)) hm
theorem pg_f_X1_lastOf_L5 {m0 : Mem} {N : Nat} {a1 : Int32} {a2 : Int32} {X : Int32 → Int32 → Mem → Ans} {s3_5 : Int32} {s4_5 : Int32} {m : Mem}  (hX : ∀ (q0 : Int32) (q1 : Int32) (m : Mem), Gh m0 m → PsG m0 (X q0 q1 m)) (hm : Gh m0 m) : PsG m0 (f_X1_lastOf_L5 N a1 a2 X s3_5 s4_5 m) := by
  unfold f_X1_lastOf_L5
  refine pg_ite ?_ ?_
  · exact pg_ret hm
  · refine pg_bd ((pg_f_X9_at (by decide) hm)) (fun r_24 m_24 hm_24 => ?_)
    refine pg_ite ?_ ?_
    · refine pg_bd ((pg_f_X9_at (by decide) hm_24)) (fun r_38 m_38 hm_38 => ?_)
      exact hX r_38 (s4_5 + 1) m_38 hm_38
    · exact hX s3_5 (s4_5 + 1) m_24 hm_24
theorem pg_f_X1_lastOf {m0 : Mem} {N : Nat} {a1 : Int32} {a2 : Int32} {m : Mem}   (hm : Gh m0 m) : PsG m0 (f_X1_lastOf N a1 a2 m) := by
  unfold f_X1_lastOf
  exact pg_it2 (fun Y hY y0 y1 m1 hm1 => (pg_f_X1_lastOf_L5 hY hm1)) hm
theorem pg_f_X1_mostAgains {m0 : Mem} {N : Nat} {m : Mem}   (hm : Gh m0 m) : PsG m0 (f_X1_mostAgains N m) := by
  unfold f_X1_mostAgains
  refine pg_bd ((pg_f_X1_lastOf hm)) (fun r_6 m_6 hm_6 => ?_)
  exact pg_ret hm_6
theorem pg_f_X1_endMinute {m0 : Mem} {N : Nat} {m : Mem}   (hm : Gh m0 m) : PsG m0 (f_X1_endMinute N m) := by
  unfold f_X1_endMinute
  refine pg_bd ((pg_f_X1_lastOf hm)) (fun r_7 m_7 hm_7 => ?_)
  exact pg_ret hm_7
theorem pg_f_X1_mayGoOn {m0 : Mem} {N : Nat} {m : Mem}   (hm : Gh m0 m) : PsG m0 (f_X1_mayGoOn N m) := by
  unfold f_X1_mayGoOn
  refine pg_bd ((pg_f_X9_at (by decide) hm)) (fun r_6 m_6 hm_6 => ?_)
  refine pg_bd ((pg_f_X1_mostAgains hm_6)) (fun r_10 m_10 hm_10 => ?_)
  refine pg_ite ?_ ?_
  · exact pg_ret hm_10
  · refine pg_bd ((pg_f_X9_at (by decide) hm_10)) (fun r_22 m_22 hm_22 => ?_)
    refine pg_bd ((pg_f_X1_endMinute hm_22)) (fun r_26 m_26 hm_26 => ?_)
    refine pg_ite ?_ ?_
    · exact pg_ret hm_26
    · exact pg_ret hm_26
theorem pg_f_X9_has {m0 : Mem} {N : Nat} {this : Nat} {a1 : Int32} {m : Mem} (hthis : this < 123)  (hm : Gh m0 m) : PsG m0 (f_X9_has N this a1 m) := by
  unfold f_X9_has
  refine pg_ite ?_ ?_
  · exact pg_ret hm
  · refine pg_ite ?_ ?_
    · exact pg_ret hm
    · refine pg_ite ?_ ?_
      · exact pg_ret hm
      · exact pg_ret hm
theorem pg_f_X2_ask {m0 : Mem} {N : Nat} {a1 : Int32} {a2 : Int32} {m : Mem}   (hm : Gh m0 m) : PsG m0 (f_X2_ask N a1 a2 m) := by
  unfold f_X2_ask
  refine pg_ite ?_ ?_
  · exact pg_ret hm
  · refine pg_ite ?_ ?_
    · exact pg_ret hm
    · refine pg_chk ?_
      refine pg_set hm (by decide) (fun m_19 hm_19 => ?_)
      exact pg_ret hm_19
theorem pg_f_X2_askOf_J129 {m0 : Mem} {N : Nat} {a1 : Int32} {a2 : Int32} {a3 : Int32} {t0_129 : Int32} {t1_129 : Int32} {m : Mem}   (hm : Gh m0 m) : PsG m0 (f_X2_askOf_J129 N a1 a2 a3 t0_129 t1_129 m) := by
  unfold f_X2_askOf_J129
  refine pg_bd ((pg_f_X2_ask hm)) (fun _ m_129 hm_129 => ?_)
  refine pg_bd ((pg_f_X9_at (by decide) hm_129)) (fun r_143 m_143 hm_143 => ?_)
  refine pg_bd ((pg_f_X2_ask hm_143)) (fun _ m_146 hm_146 => ?_)
  refine pg_bd ((pg_f_X9_at (by decide) hm_146)) (fun r_161 m_161 hm_161 => ?_)
  refine pg_bd ((pg_f_X2_ask hm_161)) (fun _ m_164 hm_164 => ?_)
  refine pg_bd ((pg_f_X9_at (by decide) hm_164)) (fun r_179 m_179 hm_179 => ?_)
  refine pg_bd ((pg_f_X2_ask hm_179)) (fun _ m_182 hm_182 => ?_)
  refine pg_bd ((pg_f_X2_ask hm_182)) (fun _ m_189 hm_189 => ?_)
  refine pg_bd ((pg_f_X9_at (by decide) hm_189)) (fun r_204 m_204 hm_204 => ?_)
  refine pg_bd ((pg_f_X2_ask hm_204)) (fun _ m_210 hm_210 => ?_)
  exact pg_ret hm_210
theorem pg_f_X2_askOf_J103 {m0 : Mem} {N : Nat} {a1 : Int32} {a2 : Int32} {a3 : Int32} {s4_103 : Int32} {t0_103 : Int32} {t1_103 : Int32} {m : Mem}   (hm : Gh m0 m) : PsG m0 (f_X2_askOf_J103 N a1 a2 a3 s4_103 t0_103 t1_103 m) := by
  unfold f_X2_askOf_J103
  refine pg_bd ((pg_f_X2_ask hm)) (fun _ m_103 hm_103 => ?_)
  refine pg_ite ?_ ?_
  · exact (pg_f_X2_askOf_J129 hm_103)
  · refine pg_bd ((pg_f_X9_at (by decide) hm_103)) (fun r_122 m_122 hm_122 => ?_)
    exact (pg_f_X2_askOf_J129 hm_122)
theorem pg_f_X2_askOf_J77 {m0 : Mem} {N : Nat} {a1 : Int32} {a2 : Int32} {a3 : Int32} {s4_77 : Int32} {t0_77 : Int32} {t1_77 : Int32} {m : Mem}   (hm : Gh m0 m) : PsG m0 (f_X2_askOf_J77 N a1 a2 a3 s4_77 t0_77 t1_77 m) := by
  unfold f_X2_askOf_J77
  refine pg_bd ((pg_f_X2_ask hm)) (fun _ m_77 hm_77 => ?_)
  refine pg_ite ?_ ?_
  · exact (pg_f_X2_askOf_J103 hm_77)
  · refine pg_bd ((pg_f_X9_at (by decide) hm_77)) (fun r_96 m_96 hm_96 => ?_)
    exact (pg_f_X2_askOf_J103 hm_96)
theorem pg_f_X2_askOf_J51 {m0 : Mem} {N : Nat} {a1 : Int32} {a2 : Int32} {a3 : Int32} {s4_51 : Int32} {t0_51 : Int32} {t1_51 : Int32} {m : Mem}   (hm : Gh m0 m) : PsG m0 (f_X2_askOf_J51 N a1 a2 a3 s4_51 t0_51 t1_51 m) := by
  unfold f_X2_askOf_J51
  refine pg_bd ((pg_f_X2_ask hm)) (fun _ m_51 hm_51 => ?_)
  refine pg_ite ?_ ?_
  · exact (pg_f_X2_askOf_J77 hm_51)
  · refine pg_bd ((pg_f_X9_at (by decide) hm_51)) (fun r_70 m_70 hm_70 => ?_)
    exact (pg_f_X2_askOf_J77 hm_70)
theorem pg_f_X2_askOf_J25 {m0 : Mem} {N : Nat} {a1 : Int32} {a2 : Int32} {a3 : Int32} {s4_25 : Int32} {t0_25 : Int32} {t1_25 : Int32} {m : Mem}   (hm : Gh m0 m) : PsG m0 (f_X2_askOf_J25 N a1 a2 a3 s4_25 t0_25 t1_25 m) := by
  unfold f_X2_askOf_J25
  refine pg_bd ((pg_f_X2_ask hm)) (fun _ m_25 hm_25 => ?_)
  refine pg_ite ?_ ?_
  · exact (pg_f_X2_askOf_J51 hm_25)
  · refine pg_bd ((pg_f_X9_at (by decide) hm_25)) (fun r_44 m_44 hm_44 => ?_)
    exact (pg_f_X2_askOf_J51 hm_44)
theorem pg_f_X2_askOf {m0 : Mem} {N : Nat} {a1 : Int32} {a2 : Int32} {a3 : Int32} {m : Mem}   (hm : Gh m0 m) : PsG m0 (f_X2_askOf N a1 a2 a3 m) := by
  unfold f_X2_askOf
  refine pg_bd ((pg_f_X9_has (by decide) hm)) (fun r_8 m_8 hm_8 => ?_)
  refine pg_ite ?_ ?_
  · exact (pg_f_X2_askOf_J25 hm_8)
  · exact (pg_f_X2_askOf_J25 hm_8)
theorem pg_f_X2_answer {m0 : Mem} {N : Nat} {a1 : Int32} {m : Mem}   (hm : Gh m0 m) : PsG m0 (f_X2_answer N a1 m) := by
  unfold f_X2_answer
  refine pg_ite ?_ ?_
  · exact pg_ret hm
  · refine pg_ite ?_ ?_
    · exact pg_ret hm
    · refine pg_chk ?_
      exact pg_ret hm
theorem pg_f_X2_joined {m0 : Mem} {N : Nat} {a0 : Int32} {a1 : Int32} {a2 : Int32} {m : Mem}   (hm : Gh m0 m) : PsG m0 (f_X2_joined N a0 a1 a2 m) := by
  unfold f_X2_joined
  refine pg_swt ⟨?_, ?_, ?_, ?_, ?_, ?_, ?_, ?_, ?_, ?_, trivial⟩ ?_
  · exact pg_ret hm
  · refine pg_ite ?_ ?_
    · exact pg_ret hm
    · refine pg_chk ?_
      exact pg_ret hm
  · exact pg_ret hm
  · exact pg_ret hm
  · refine pg_ite ?_ ?_
    · exact pg_ret hm
    · exact pg_ret hm
  · refine pg_ite ?_ ?_
    · exact pg_ret hm
    · exact pg_ret hm
  · refine pg_ite ?_ ?_
    · exact pg_ret hm
    · exact pg_ret hm
  · exact pg_ret hm
  · exact pg_ret hm
  · exact pg_ret hm
  · exact pg_ret hm
theorem pg_f_X2_run_J52 {m0 : Mem} {N : Nat} {a1 : Int32} {a2 : Int32} {K199 : Int32 → Mem → Ans} {X : Int32 → Int32 → Mem → Ans} {s3_52 : Int32} {s4_52 : Int32} {s5_52 : Int32} {s6_52 : Int32} {m : Mem}  (hK199 : ∀ (q0 : Int32) (m : Mem), Gh m0 m → PsG m0 (K199 q0 m)) (hX : ∀ (q0 : Int32) (q1 : Int32) (m : Mem), Gh m0 m → PsG m0 (X q0 q1 m)) (hm : Gh m0 m) : PsG m0 (f_X2_run_J52 N a1 a2 K199 X s3_52 s4_52 s5_52 s6_52 m) := by
  unfold f_X2_run_J52
  refine pg_ite ?_ ?_
  · exact pg_ret hm
  · refine pg_ite ?_ ?_
    · refine pg_ite ?_ ?_
      · refine pg_chk ?_
        refine pg_set hm (by decide) (fun m_88 hm_88 => ?_)
        exact hX (s3_52 + 1) (s4_52 + 1) m_88 hm_88
      · refine pg_bd ((pg_f_X2_answer hm)) (fun r_85 m_85 hm_85 => ?_)
        refine pg_chk ?_
        refine pg_set hm_85 (by decide) (fun m_88 hm_88 => ?_)
        exact hX (s3_52 + 1) (s4_52 + 1) m_88 hm_88
    · exact pg_ret hm
theorem pg_f_X2_run_L5 {m0 : Mem} {N : Nat} {a1 : Int32} {a2 : Int32} {K199 : Int32 → Mem → Ans} {X : Int32 → Int32 → Mem → Ans} {s3_5 : Int32} {s4_5 : Int32} {m : Mem}  (hK199 : ∀ (q0 : Int32) (m : Mem), Gh m0 m → PsG m0 (K199 q0 m)) (hX : ∀ (q0 : Int32) (q1 : Int32) (m : Mem), Gh m0 m → PsG m0 (X q0 q1 m)) (hm : Gh m0 m) : PsG m0 (f_X2_run_L5 N a1 a2 K199 X s3_5 s4_5 m) := by
  unfold f_X2_run_L5
  refine pg_ite ?_ ?_
  · exact hK199 s3_5 m hm
  · refine pg_bd ((pg_f_X9_at (by decide) hm)) (fun r_21 m_21 hm_21 => ?_)
    refine pg_bd ((pg_f_X9_at (by decide) hm_21)) (fun r_36 m_36 hm_36 => ?_)
    refine pg_ite ?_ ?_
    · exact (pg_f_X2_run_J52 hK199 hX hm_36)
    · refine pg_ite ?_ ?_
      · exact (pg_f_X2_run_J52 hK199 hX hm_36)
      · refine pg_ite ?_ ?_
        · refine pg_ite ?_ ?_
          · exact pg_ret hm_36
          · refine pg_ite ?_ ?_
            · refine pg_chk ?_
              refine pg_ite ?_ ?_
              · refine pg_chk ?_
                refine pg_set hm_36 (by decide) (fun m_141 hm_141 => ?_)
                exact hX s3_5 (s4_5 + 1) m_141 hm_141
              · refine pg_chk ?_
                refine pg_set hm_36 (by decide) (fun m_141 hm_141 => ?_)
                exact hX s3_5 (s4_5 + 1) m_141 hm_141
            · exact pg_ret hm_36
        · refine pg_ite ?_ ?_
          · exact pg_ret hm_36
          · refine pg_ite ?_ ?_
            · refine pg_chk ?_
              refine pg_chk ?_
              refine pg_bd ((pg_f_X2_joined hm_36)) (fun r_186 m_186 hm_186 => ?_)
              refine pg_chk ?_
              refine pg_set hm_186 (by decide) (fun m_189 hm_189 => ?_)
              exact hX (s3_5 + (-1)) (s4_5 + 1) m_189 hm_189
            · exact pg_ret hm_36
theorem pg_f_X2_run {m0 : Mem} {N : Nat} {a1 : Int32} {a2 : Int32} {m : Mem}   (hm : Gh m0 m) : PsG m0 (f_X2_run N a1 a2 m) := by
  unfold f_X2_run
  exact pg_it2 (fun Y hY y0 y1 m1 hm1 => (pg_f_X2_run_L5 (fun k3_199 mk199 hmk199 => by
            refine pg_ite ?_ ?_
            · exact pg_ret hmk199
            · refine pg_ite ?_ ?_
              · exact pg_ret hmk199
              · refine pg_chk ?_
                exact pg_ret hmk199) hY hm1)) hm
theorem pg_f_X2_held {m0 : Mem} {N : Nat} {a0 : Int32} {a1 : Int32} {m : Mem}   (hm : Gh m0 m) : PsG m0 (f_X2_held N a0 a1 m) := by
  unfold f_X2_held
  refine pg_ite ?_ ?_
  · exact pg_ret hm
  · exact pg_ret hm
theorem pg_f_X2_tell_L2 {m0 : Mem} {N : Nat} {a1 : Int32} {K109 : Mem → Ans} {X : Int32 → Mem → Ans} {s2_2 : Int32} {m : Mem}  (hK109 : ∀ (m : Mem), Gh m0 m → PsG m0 (K109  m)) (hX : ∀ (q0 : Int32) (m : Mem), Gh m0 m → PsG m0 (X q0 m)) (hm : Gh m0 m) : PsG m0 (f_X2_tell_L2 N a1 K109 X s2_2 m) := by
  unfold f_X2_tell_L2
  refine pg_ite ?_ ?_
  · exact hK109  m hm
  · refine pg_bd ((pg_f_X9_at (by decide) hm)) (fun r_25 m_25 hm_25 => ?_)
    refine pg_bd ((pg_f_X9_at (by decide) hm_25)) (fun r_38 m_38 hm_38 => ?_)
    refine pg_bd ((pg_f_X9_at (by decide) hm_38)) (fun r_52 m_52 hm_52 => ?_)
    refine pg_bd ((pg_f_X9_at (by decide) hm_52)) (fun r_66 m_66 hm_66 => ?_)
    refine pg_ite ?_ ?_
    · refine pg_ite ?_ ?_
      · refine pg_bd ((pg_f_X2_run hm_66)) (fun r_96 m_96 hm_96 => ?_)
        refine pg_bd ((pg_f_X2_held hm_96)) (fun r_99 m_99 hm_99 => ?_)
        exact pg_ret hm_99
      · refine pg_bd ((pg_f_X2_run hm_66)) (fun r_85 m_85 hm_85 => ?_)
        refine pg_ite ?_ ?_
        · exact hX (s2_2 + 1) m_85 hm_85
        · refine pg_bd ((pg_f_X2_run hm_85)) (fun r_96 m_96 hm_96 => ?_)
          refine pg_bd ((pg_f_X2_held hm_96)) (fun r_99 m_99 hm_99 => ?_)
          exact pg_ret hm_99
    · exact hX (s2_2 + 1) m_66 hm_66
theorem pg_f_X2_tell {m0 : Mem} {N : Nat} {a1 : Int32} {m : Mem}   (hm : Gh m0 m) : PsG m0 (f_X2_tell N a1 m) := by
  unfold f_X2_tell
  exact pg_it1 (fun Y hY y0 m1 hm1 => (pg_f_X2_tell_L2 (fun mk109 hmk109 => by
            refine pg_ite ?_ ?_
            · refine pg_bd ((pg_f_X2_answer hmk109)) (fun r_138 m_138 hm_138 => ?_)
              exact pg_ret hm_138
            · refine pg_ite ?_ ?_
              · refine pg_bd ((pg_f_X2_answer hmk109)) (fun r_146 m_146 hm_146 => ?_)
                exact pg_ret hm_146
              · exact pg_ret hmk109) hY hm1)) hm
theorem pg_f_X2_clap {m0 : Mem} {N : Nat} {a1 : Int32} {a2 : Int32} {a3 : Int32} {m : Mem}   (hm : Gh m0 m) : PsG m0 (f_X2_clap N a1 a2 a3 m) := by
  unfold f_X2_clap
  refine pg_bd ((pg_f_X2_askOf hm)) (fun _ m_4 hm_4 => ?_)
  refine pg_bd ((pg_f_X2_tell hm_4)) (fun r_11 m_11 hm_11 => ?_)
  exact pg_ret hm_11
theorem pg_f_X2_ofDeed {m0 : Mem} {N : Nat} {a1 : Int32} {a2 : Int32} {m : Mem}   (hm : Gh m0 m) : PsG m0 (f_X2_ofDeed N a1 a2 m) := by
  unfold f_X2_ofDeed
  refine pg_bd ((pg_f_X2_askOf hm)) (fun _ m_4 hm_4 => ?_)
  refine pg_bd ((pg_f_X2_tell hm_4)) (fun r_9 m_9 hm_9 => ?_)
  exact pg_ret hm_9
theorem pg_f_X3_keep {m0 : Mem} {N : Nat} {this : Nat} {m : Mem} (hthis : this < 123)  (hm : Gh m0 m) : PsG m0 (f_X3_keep N this m) := by
  unfold f_X3_keep
  refine pg_bd ((pg_f_X9_copy (rq_lt _ _) (by decide) hm)) (fun _ m_8 hm_8 => ?_)
  refine pg_bd ((pg_f_X9_copy (rq_lt _ _) (by decide) hm_8)) (fun _ m_19 hm_19 => ?_)
  refine pg_bd ((pg_f_X9_copy (rq_lt _ _) (by decide) hm_19)) (fun _ m_30 hm_30 => ?_)
  refine pg_set hm_30 hthis (fun m_41 hm_41 => ?_)
  exact pg_ret hm_41
theorem pg_f_X3_back {m0 : Mem} {N : Nat} {this : Nat} {m : Mem} (hthis : this < 123)  (hm : Gh m0 m) : PsG m0 (f_X3_back N this m) := by
  unfold f_X3_back
  refine pg_bd ((pg_f_X9_copy (by decide) (rq_lt _ _) hm)) (fun _ m_8 hm_8 => ?_)
  refine pg_bd ((pg_f_X9_copy (by decide) (rq_lt _ _) hm_8)) (fun _ m_19 hm_19 => ?_)
  refine pg_bd ((pg_f_X9_copy (by decide) (rq_lt _ _) hm_19)) (fun _ m_30 hm_30 => ?_)
  refine pg_set hm_30 (by decide) (fun m_41 hm_41 => ?_)
  exact pg_ret hm_41
theorem pg_f_X4_momentAt {m0 : Mem} {N : Nat} {a1 : Int32} {m : Mem}   (hm : Gh m0 m) : PsG m0 (f_X4_momentAt N a1 m) := by
  unfold f_X4_momentAt
  refine pg_ite ?_ ?_
  · exact pg_ret hm
  · refine pg_ite ?_ ?_
    · exact pg_ret hm
    · refine pg_chk ?_
      exact pg_ret hm
theorem pg_f_X4_keep_J18 {m0 : Mem} {N : Nat} {m : Mem}   (hm : Gh m0 m) : PsG m0 (f_X4_keep_J18 N m) := by
  unfold f_X4_keep_J18
  refine pg_ite ?_ ?_
  · refine pg_set hm (by decide) (fun m_40 hm_40 => ?_)
    refine pg_set hm_40 (by decide) (fun m_55 hm_55 => ?_)
    exact pg_ret hm_55
  · refine pg_set hm (by decide) (fun m_40 hm_40 => ?_)
    refine pg_set hm_40 (by decide) (fun m_55 hm_55 => ?_)
    exact pg_ret hm_55
theorem pg_f_X4_keep {m0 : Mem} {N : Nat} {m : Mem}   (hm : Gh m0 m) : PsG m0 (f_X4_keep N m) := by
  unfold f_X4_keep
  refine pg_mom hm (fun r_5 m_5 hr_5_toNatClampNeg hm_5 => ?_)
  refine pg_chk ?_
  refine pg_bd ((pg_f_X3_keep hr_5_toNatClampNeg hm_5)) (fun _ m_15 hm_15 => ?_)
  exact (pg_f_X4_keep_J18 hm_15)
theorem pg_f_X4_back_J28 {m0 : Mem} {N : Nat} {t0_28 : Int32} {m : Mem}   (hm : Gh m0 m) : PsG m0 (f_X4_back_J28 N t0_28 m) := by
  unfold f_X4_back_J28
  refine pg_set hm (by decide) (fun m_28 hm_28 => ?_)
  refine pg_set hm_28 (by decide) (fun m_38 hm_38 => ?_)
  refine pg_mom hm_38 (fun r_46 m_46 hr_46_toNatClampNeg hm_46 => ?_)
  refine pg_chk ?_
  refine pg_bd ((pg_f_X3_back hr_46_toNatClampNeg hm_46)) (fun _ m_56 hm_56 => ?_)
  exact pg_ret hm_56
theorem pg_f_X4_back {m0 : Mem} {N : Nat} {m : Mem}   (hm : Gh m0 m) : PsG m0 (f_X4_back N m) := by
  unfold f_X4_back
  refine pg_ite ?_ ?_
  · refine pg_ite ?_ ?_
    · exact (pg_f_X4_back_J28 hm)
    · exact (pg_f_X4_back_J28 hm)
  · exact pg_ret hm
theorem pg_f_X4_forget {m0 : Mem} {N : Nat} {m : Mem}   (hm : Gh m0 m) : PsG m0 (f_X4_forget N m) := by
  unfold f_X4_forget
  refine pg_set hm (by decide) (fun m_2 hm_2 => ?_)
  exact pg_ret hm_2
theorem pg_f_X11_within {m0 : Mem} {N : Nat} {a0 : Int32} {a1 : Int32} {a2 : Int32} {m : Mem}   (hm : Gh m0 m) : PsG m0 (f_X11_within N a0 a1 a2 m) := by
  unfold f_X11_within
  refine pg_ite ?_ ?_
  · exact pg_ret hm
  · refine pg_ite ?_ ?_
    · exact pg_ret hm
    · exact pg_ret hm
theorem pg_f_X10_byteAt {m0 : Mem} {N : Nat} {a1 : Int32} {m : Mem}   (hm : Gh m0 m) : PsG m0 (f_X10_byteAt N a1 m) := by
  unfold f_X10_byteAt
  refine pg_ite ?_ ?_
  · exact pg_ret hm
  · refine pg_ite ?_ ?_
    · exact pg_ret hm
    · refine pg_ite ?_ ?_
      · exact pg_ret hm
      · refine pg_chk ?_
        exact pg_ret hm
theorem pg_f_X10_isBlank {m0 : Mem} {N : Nat} {a0 : Int32} {m : Mem}   (hm : Gh m0 m) : PsG m0 (f_X10_isBlank N a0 m) := by
  unfold f_X10_isBlank
  refine pg_ite ?_ ?_
  · exact pg_ret hm
  · refine pg_ite ?_ ?_
    · exact pg_ret hm
    · exact pg_ret hm
theorem pg_f_X10_isDigit {m0 : Mem} {N : Nat} {a0 : Int32} {m : Mem}   (hm : Gh m0 m) : PsG m0 (f_X10_isDigit N a0 m) := by
  unfold f_X10_isDigit
  refine pg_ite ?_ ?_
  · exact pg_ret hm
  · refine pg_ite ?_ ?_
    · exact pg_ret hm
    · exact pg_ret hm
theorem pg_f_X10_takeNumber_L4 {m0 : Mem} {N : Nat} {a1 : Int32} {K43 : Int32 → Int32 → Mem → Ans} {X : Int32 → Int32 → Mem → Ans} {s2_4 : Int32} {s3_4 : Int32} {m : Mem}  (hK43 : ∀ (q0 : Int32) (q1 : Int32) (m : Mem), Gh m0 m → PsG m0 (K43 q0 q1 m)) (hX : ∀ (q0 : Int32) (q1 : Int32) (m : Mem), Gh m0 m → PsG m0 (X q0 q1 m)) (hm : Gh m0 m) : PsG m0 (f_X10_takeNumber_L4 N a1 K43 X s2_4 s3_4 m) := by
  unfold f_X10_takeNumber_L4
  refine pg_ite ?_ ?_
  · exact hK43 s2_4 s3_4 m hm
  · refine pg_bd ((pg_f_X10_byteAt hm)) (fun r_14 m_14 hm_14 => ?_)
    refine pg_bd ((pg_f_X10_isDigit hm_14)) (fun r_17 m_17 hm_17 => ?_)
    refine pg_ite ?_ ?_
    · exact hK43 s2_4 s3_4 m_17 hm_17
    · refine pg_bd ((pg_f_X10_byteAt hm_17)) (fun r_29 m_29 hm_29 => ?_)
      refine pg_bnd (fun a2_36 => ?_)
      exact hX a2_36 (s3_4 + 1) m_29 hm_29
theorem pg_f_X10_takeNumber_J43 {m0 : Mem} {N : Nat} {a1 : Int32} {s2_43 : Int32} {s3_43 : Int32} {m : Mem}   (hm : Gh m0 m) : PsG m0 (f_X10_takeNumber_J43 N a1 s2_43 s3_43 m) := by
  unfold f_X10_takeNumber_J43
  refine pg_ite ?_ ?_
  · refine pg_bd ((pg_f_X9_add (by decide) hm)) (fun r_62 m_62 hm_62 => ?_)
    exact pg_ret hm_62
  · refine pg_bd ((pg_f_X9_add (by decide) hm)) (fun r_62 m_62 hm_62 => ?_)
    exact pg_ret hm_62
theorem pg_f_X10_takeNumber {m0 : Mem} {N : Nat} {a1 : Int32} {m : Mem}   (hm : Gh m0 m) : PsG m0 (f_X10_takeNumber N a1 m) := by
  unfold f_X10_takeNumber
  exact pg_it2 (fun Y hY y0 y1 m1 hm1 => (pg_f_X10_takeNumber_L4 (fun k2_43 k3_43 mk43 hmk43 => by
            exact (pg_f_X10_takeNumber_J43 hmk43)) hY hm1)) hm
theorem pg_f_X10_isLetter {m0 : Mem} {N : Nat} {a0 : Int32} {m : Mem}   (hm : Gh m0 m) : PsG m0 (f_X10_isLetter N a0 m) := by
  unfold f_X10_isLetter
  refine pg_ite ?_ ?_
  · refine pg_ite ?_ ?_
    · exact pg_ret hm
    · refine pg_ite ?_ ?_
      · exact pg_ret hm
      · exact pg_ret hm
  · refine pg_ite ?_ ?_
    · exact pg_ret hm
    · refine pg_ite ?_ ?_
      · exact pg_ret hm
      · refine pg_ite ?_ ?_
        · exact pg_ret hm
        · exact pg_ret hm
theorem pg_f_X10_isSign {m0 : Mem} {N : Nat} {a0 : Int32} {m : Mem}   (hm : Gh m0 m) : PsG m0 (f_X10_isSign N a0 m) := by
  unfold f_X10_isSign
  refine pg_ite ?_ ?_
  · exact pg_ret hm
  · refine pg_ite ?_ ?_
    · exact pg_ret hm
    · refine pg_ite ?_ ?_
      · exact pg_ret hm
      · refine pg_ite ?_ ?_
        · exact pg_ret hm
        · refine pg_ite ?_ ?_
          · exact pg_ret hm
          · refine pg_ite ?_ ?_
            · exact pg_ret hm
            · refine pg_ite ?_ ?_
              · exact pg_ret hm
              · refine pg_ite ?_ ?_
                · exact pg_ret hm
                · refine pg_ite ?_ ?_
                  · exact pg_ret hm
                  · refine pg_ite ?_ ?_
                    · exact pg_ret hm
                    · exact pg_ret hm
theorem pg_f_J0_coder_7d493 {m0 : Mem} {N : Nat} {this : Nat} {m : Mem}   (hm : Gh m0 m) : PsG m0 (f_J0_coder_7d493 N this m) := by
  unfold f_J0_coder_7d493
  refine pg_ite ?_ ?_
  · exact pg_ret hm
  · exact pg_ret hm
theorem pg_f_J0_length_8abf5 {m0 : Mem} {N : Nat} {this : Nat} {m : Mem}   (hm : Gh m0 m) : PsG m0 (f_J0_length_8abf5 N this m) := by
  unfold f_J0_length_8abf5
  refine pg_bd ((pg_f_J0_coder_7d493 hm)) (fun r_6 m_6 hm_6 => ?_)
  exact pg_ret hm_6
theorem pg_f_J0_isLatin1_aae02 {m0 : Mem} {N : Nat} {this : Nat} {m : Mem}   (hm : Gh m0 m) : PsG m0 (f_J0_isLatin1_aae02 N this m) := by
  unfold f_J0_isLatin1_aae02
  refine pg_ite ?_ ?_
  · exact pg_ret hm
  · refine pg_ite ?_ ?_
    · exact pg_ret hm
    · exact pg_ret hm
theorem pg_f_J3_checkIndex_8e157 {m0 : Mem} {N : Nat} {a0 : Int32} {a1 : Int32} {m : Mem}   (hm : Gh m0 m) : PsG m0 (f_J3_checkIndex_8e157 N a0 a1 m) := by
  unfold f_J3_checkIndex_8e157
  refine pg_ite ?_ ?_
  · exact pg_none
  · refine pg_ite ?_ ?_
    · exact pg_ret hm
    · exact pg_none
theorem pg_f_J0_checkIndex_df160 {m0 : Mem} {N : Nat} {a0 : Int32} {a1 : Int32} {m : Mem}   (hm : Gh m0 m) : PsG m0 (f_J0_checkIndex_df160 N a0 a1 m) := by
  unfold f_J0_checkIndex_df160
  refine pg_bd ((pg_f_J3_checkIndex_8e157 hm)) (fun r_5 m_5 hm_5 => ?_)
  exact pg_ret hm_5
theorem pg_f_J1_charAt_3b067 {m0 : Mem} {N : Nat} {a0 : Nat} {a1 : Int32} {m : Mem}   (hm : Gh m0 m) : PsG m0 (f_J1_charAt_3b067 N a0 a1 m) := by
  unfold f_J1_charAt_3b067
  refine pg_bd ((pg_f_J0_checkIndex_df160 hm)) (fun _ m_3 hm_3 => ?_)
  refine pg_chk ?_
  refine pg_chk ?_
  exact pg_ret hm_3
theorem pg_f_J0_charAt_5068e {m0 : Mem} {N : Nat} {this : Nat} {a1 : Int32} {m : Mem}   (hm : Gh m0 m) : PsG m0 (f_J0_charAt_5068e N this a1 m) := by
  unfold f_J0_charAt_5068e
  refine pg_bd ((pg_f_J0_isLatin1_aae02 hm)) (fun r_1 m_1 hm_1 => ?_)
  refine pg_ite ?_ ?_
  · exact pg_none
  · refine pg_bd ((pg_f_J1_charAt_3b067 hm_1)) (fun r_12 m_12 hm_12 => ?_)
    refine pg_chk ?_
    exact pg_ret hm_12
theorem pg_f_X10_isSame_L7 {m0 : Mem} {N : Nat} {a1 : Int32} {a2 : Int32} {a3 : Int32} {X : Int32 → Mem → Ans} {s4_7 : Int32} {m : Mem}  (hX : ∀ (q0 : Int32) (m : Mem), Gh m0 m → PsG m0 (X q0 m)) (hm : Gh m0 m) : PsG m0 (f_X10_isSame_L7 N a1 a2 a3 X s4_7 m) := by
  unfold f_X10_isSame_L7
  refine pg_ite ?_ ?_
  · exact pg_ret hm
  · refine pg_bd ((pg_f_J0_length_8abf5 hm)) (fun r_17 m_17 hm_17 => ?_)
    refine pg_ite ?_ ?_
    · exact pg_ret hm_17
    · refine pg_bd ((pg_f_J0_charAt_5068e hm_17)) (fun r_27 m_27 hm_27 => ?_)
      refine pg_bd ((pg_f_X10_byteAt hm_27)) (fun r_37 m_37 hm_37 => ?_)
      refine pg_ite ?_ ?_
      · exact hX (s4_7 + 1) m_37 hm_37
      · exact pg_ret hm_37
theorem pg_f_X10_isSame {m0 : Mem} {N : Nat} {a1 : Int32} {a2 : Int32} {a3 : Int32} {m : Mem}   (hm : Gh m0 m) : PsG m0 (f_X10_isSame N a1 a2 a3 m) := by
  unfold f_X10_isSame
  refine pg_bnd (fun a4_5 => ?_)
  exact pg_it1 (fun Y hY y0 m1 hm1 => (pg_f_X10_isSame_L7 hY hm1)) hm
theorem pg_f_X10_wordAt_L10 {m0 : Mem} {N : Nat} {a1 : Int32} {a2 : Int32} {X : Int32 → Int32 → Int32 → Mem → Ans} {s3_10 : Int32} {s4_10 : Int32} {s5_10 : Int32} {m : Mem}  (hX : ∀ (q0 : Int32) (q1 : Int32) (q2 : Int32) (m : Mem), Gh m0 m → PsG m0 (X q0 q1 q2 m)) (hm : Gh m0 m) : PsG m0 (f_X10_wordAt_L10 N a1 a2 X s3_10 s4_10 s5_10 m) := by
  unfold f_X10_wordAt_L10
  refine pg_bd ((pg_f_J0_length_8abf5 hm)) (fun r_14 m_14 hm_14 => ?_)
  refine pg_ite ?_ ?_
  · exact pg_ret hm_14
  · refine pg_bd ((pg_f_J0_charAt_5068e hm_14)) (fun r_24 m_24 hm_24 => ?_)
    refine pg_ite ?_ ?_
    · refine pg_ite ?_ ?_
      · refine pg_bd ((pg_f_X10_isSame hm_24)) (fun r_49 m_49 hm_49 => ?_)
        refine pg_ite ?_ ?_
        · refine pg_bnd (fun a4_64 => ?_)
          exact hX (s3_10 + 1) a4_64 (s5_10 + 1) m_49 hm_49
        · exact pg_ret hm_49
      · refine pg_bnd (fun a4_64 => ?_)
        exact hX (s3_10 + 1) a4_64 (s5_10 + 1) m_24 hm_24
    · exact hX s3_10 s4_10 (s5_10 + 1) m_24 hm_24
theorem pg_f_X10_wordAt {m0 : Mem} {N : Nat} {a1 : Int32} {a2 : Int32} {m : Mem}   (hm : Gh m0 m) : PsG m0 (f_X10_wordAt N a1 a2 m) := by
  unfold f_X10_wordAt
  exact pg_it3 (fun Y hY y0 y1 y2 m1 hm1 => (pg_f_X10_wordAt_L10 hY hm1)) hm
theorem pg_f_X10_take_L55 {m0 : Mem} {N : Nat} {a1 : Int32} {K80 : Int32 → Mem → Ans} {X : Int32 → Mem → Ans} {s3_55 : Int32} {m : Mem}  (hK80 : ∀ (q0 : Int32) (m : Mem), Gh m0 m → PsG m0 (K80 q0 m)) (hX : ∀ (q0 : Int32) (m : Mem), Gh m0 m → PsG m0 (X q0 m)) (hm : Gh m0 m) : PsG m0 (f_X10_take_L55 N a1 K80 X s3_55 m) := by
  unfold f_X10_take_L55
  refine pg_ite ?_ ?_
  · exact hK80 s3_55 m hm
  · refine pg_bd ((pg_f_X10_byteAt hm)) (fun r_65 m_65 hm_65 => ?_)
    refine pg_bd ((pg_f_X10_isLetter hm_65)) (fun r_68 m_68 hm_68 => ?_)
    refine pg_ite ?_ ?_
    · exact hK80 s3_55 m_68 hm_68
    · exact hX (s3_55 + 1) m_68 hm_68
theorem pg_f_X10_take_J80 {m0 : Mem} {N : Nat} {a1 : Int32} {s3_80 : Int32} {m : Mem}   (hm : Gh m0 m) : PsG m0 (f_X10_take_J80 N a1 s3_80 m) := by
  unfold f_X10_take_J80
  refine pg_bd ((pg_f_X10_wordAt hm)) (fun r_87 m_87 hm_87 => ?_)
  refine pg_bd ((pg_f_X9_add (by decide) hm_87)) (fun r_93 m_93 hm_93 => ?_)
  exact pg_ret hm_93
theorem pg_f_X10_take {m0 : Mem} {N : Nat} {a1 : Int32} {m : Mem}   (hm : Gh m0 m) : PsG m0 (f_X10_take N a1 m) := by
  unfold f_X10_take
  refine pg_bd ((pg_f_X10_byteAt hm)) (fun r_2 m_2 hm_2 => ?_)
  refine pg_bd ((pg_f_X10_isDigit hm_2)) (fun r_7 m_7 hm_7 => ?_)
  refine pg_ite ?_ ?_
  · refine pg_bd ((pg_f_X10_isLetter hm_7)) (fun r_20 m_20 hm_20 => ?_)
    refine pg_ite ?_ ?_
    · refine pg_bd ((pg_f_X10_isSign hm_20)) (fun r_31 m_31 hm_31 => ?_)
      refine pg_ite ?_ ?_
      · refine pg_bd ((pg_f_X9_add (by decide) hm_31)) (fun r_45 m_45 hm_45 => ?_)
        exact pg_ret hm_45
      · refine pg_bd ((pg_f_X9_add (by decide) hm_31)) (fun r_45 m_45 hm_45 => ?_)
        exact pg_ret hm_45
    · exact pg_it1 (fun Y hY y0 m1 hm1 => (pg_f_X10_take_L55 (fun k3_80 mk80 hmk80 => by
            exact (pg_f_X10_take_J80 hmk80)) hY hm1)) hm_20
  · refine pg_bd ((pg_f_X10_takeNumber hm_7)) (fun r_15 m_15 hm_15 => ?_)
    exact pg_ret hm_15
theorem pg_f_X10_next {m0 : Mem} {N : Nat} {m : Mem}   (hm : Gh m0 m) : PsG m0 (f_X10_next N m) := by
  unfold f_X10_next
  refine pg_set hm (by decide) (fun m_7 hm_7 => ?_)
  refine pg_bd ((pg_f_X9_at (by decide) hm_7)) (fun r_20 m_20 hm_20 => ?_)
  refine pg_set hm_20 (by decide) (fun m_23 hm_23 => ?_)
  refine pg_bd ((pg_f_X9_at (by decide) hm_23)) (fun r_36 m_36 hm_36 => ?_)
  refine pg_set hm_36 (by decide) (fun m_39 hm_39 => ?_)
  refine pg_bd ((pg_f_X9_at (by decide) hm_39)) (fun r_52 m_52 hm_52 => ?_)
  refine pg_set hm_52 (by decide) (fun m_55 hm_55 => ?_)
  exact pg_ret hm_55
theorem pg_f_X10_scan_L12 {m0 : Mem} {N : Nat} {K56 : Mem → Ans} {X : Int32 → Int32 → Mem → Ans} {s1_12 : Int32} {s2_12 : Int32} {m : Mem}  (hK56 : ∀ (m : Mem), Gh m0 m → PsG m0 (K56  m)) (hX : ∀ (q0 : Int32) (q1 : Int32) (m : Mem), Gh m0 m → PsG m0 (X q0 q1 m)) (hm : Gh m0 m) : PsG m0 (f_X10_scan_L12 N K56 X s1_12 s2_12 m) := by
  unfold f_X10_scan_L12
  refine pg_ite ?_ ?_
  · exact hK56  m hm
  · refine pg_ite ?_ ?_
    · exact hK56  m hm
    · refine pg_bd ((pg_f_X10_byteAt hm)) (fun r_29 m_29 hm_29 => ?_)
      refine pg_bd ((pg_f_X10_isBlank hm_29)) (fun r_32 m_32 hm_32 => ?_)
      refine pg_ite ?_ ?_
      · refine pg_bd ((pg_f_X10_take hm_32)) (fun r_46 m_46 hm_46 => ?_)
        exact hX r_46 (s2_12 + 1) m_46 hm_46
      · refine pg_bnd (fun a1_49 => ?_)
        exact hX a1_49 (s2_12 + 1) m_32 hm_32
theorem pg_f_X10_scan_J56 {m0 : Mem} {N : Nat} {m : Mem}   (hm : Gh m0 m) : PsG m0 (f_X10_scan_J56 N m) := by
  unfold f_X10_scan_J56
  refine pg_bd ((pg_f_X9_add (by decide) hm)) (fun r_67 m_67 hm_67 => ?_)
  refine pg_set hm_67 (by decide) (fun m_73 hm_73 => ?_)
  refine pg_bd ((pg_f_X10_next hm_73)) (fun _ m_77 hm_77 => ?_)
  exact pg_ret hm_77
theorem pg_f_X10_scan {m0 : Mem} {N : Nat} {m : Mem}   (hm : Gh m0 m) : PsG m0 (f_X10_scan N m) := by
  unfold f_X10_scan
  refine pg_set hm (by decide) (fun m_5 hm_5 => ?_)
  exact pg_it2 (fun Y hY y0 y1 m1 hm1 => (pg_f_X10_scan_L12 (fun mk56 hmk56 => by
            exact (pg_f_X10_scan_J56 hmk56)) hY hm1)) hm_5
theorem pg_f_X6_begins {m0 : Mem} {N : Nat} {a0 : Int32} {a1 : Int32} {m : Mem}   (hm : Gh m0 m) : PsG m0 (f_X6_begins N a0 a1 m) := by
  unfold f_X6_begins
  refine pg_swt ⟨?_, ?_, ?_, trivial⟩ ?_
  · refine pg_bd ((pg_f_X11_within hm)) (fun r_35 m_35 hm_35 => ?_)
    refine pg_chk ?_
    exact pg_ret hm_35
  · refine pg_ite ?_ ?_
    · exact pg_ret hm
    · refine pg_bd ((pg_f_X11_within hm)) (fun r_53 m_53 hm_53 => ?_)
      refine pg_ite ?_ ?_
      · exact pg_ret hm_53
      · exact pg_ret hm_53
  · refine pg_ite ?_ ?_
    · exact pg_ret hm
    · exact pg_ret hm
  · refine pg_ite ?_ ?_
    · exact pg_ret hm
    · exact pg_ret hm
theorem pg_f_X6_blame {m0 : Mem} {N : Nat} {a1 : Int32} {m : Mem}   (hm : Gh m0 m) : PsG m0 (f_X6_blame N a1 m) := by
  unfold f_X6_blame
  refine pg_ite ?_ ?_
  · refine pg_set hm (by decide) (fun m_9 hm_9 => ?_)
    refine pg_set hm_9 (by decide) (fun m_20 hm_20 => ?_)
    exact pg_ret hm_20
  · exact pg_ret hm
theorem pg_f_X6_failed {m0 : Mem} {N : Nat} {a1 : Int32} {m : Mem}   (hm : Gh m0 m) : PsG m0 (f_X6_failed N a1 m) := by
  unfold f_X6_failed
  refine pg_bd ((pg_f_X6_blame hm)) (fun _ m_2 hm_2 => ?_)
  exact pg_ret hm_2
theorem pg_f_X6_readCondition_J72 {m0 : Mem} {N : Nat} {s1_72 : Int32} {t0_72 : Int32} {m : Mem}   (hm : Gh m0 m) : PsG m0 (f_X6_readCondition_J72 N s1_72 t0_72 m) := by
  unfold f_X6_readCondition_J72
  refine pg_bd ((pg_f_X9_add (by decide) hm)) (fun r_75 m_75 hm_75 => ?_)
  refine pg_set hm_75 (by decide) (fun m_86 hm_86 => ?_)
  refine pg_ite ?_ ?_
  · refine pg_set hm_86 (by decide) (fun m_104 hm_104 => ?_)
    refine pg_bd ((pg_f_X10_next hm_104)) (fun _ m_111 hm_111 => ?_)
    exact pg_ret hm_111
  · refine pg_set hm_86 (by decide) (fun m_104 hm_104 => ?_)
    refine pg_bd ((pg_f_X10_next hm_104)) (fun _ m_111 hm_111 => ?_)
    exact pg_ret hm_111
theorem pg_f_X6_readCondition_J42 {m0 : Mem} {N : Nat} {s1_42 : Int32} {m : Mem}   (hm : Gh m0 m) : PsG m0 (f_X6_readCondition_J42 N s1_42 m) := by
  unfold f_X6_readCondition_J42
  refine pg_ite ?_ ?_
  · refine pg_ite ?_ ?_
    · exact (pg_f_X6_readCondition_J72 hm)
    · exact (pg_f_X6_readCondition_J72 hm)
  · refine pg_bd ((pg_f_X6_failed hm)) (fun r_53 m_53 hm_53 => ?_)
    exact pg_ret hm_53
theorem pg_f_X6_readCondition_J17 {m0 : Mem} {N : Nat} {t0_17 : Int32} {m : Mem}   (hm : Gh m0 m) : PsG m0 (f_X6_readCondition_J17 N t0_17 m) := by
  unfold f_X6_readCondition_J17
  refine pg_ite ?_ ?_
  · refine pg_ite ?_ ?_
    · exact (pg_f_X6_readCondition_J42 hm)
    · refine pg_set hm (by decide) (fun m_37 hm_37 => ?_)
      exact pg_ret hm_37
  · exact (pg_f_X6_readCondition_J42 hm)
theorem pg_f_X6_readCondition {m0 : Mem} {N : Nat} {m : Mem}   (hm : Gh m0 m) : PsG m0 (f_X6_readCondition N m) := by
  unfold f_X6_readCondition
  refine pg_ite ?_ ?_
  · exact (pg_f_X6_readCondition_J17 hm)
  · exact (pg_f_X6_readCondition_J17 hm)
theorem pg_f_X6_readUnit {m0 : Mem} {N : Nat} {m : Mem}   (hm : Gh m0 m) : PsG m0 (f_X6_readUnit N m) := by
  unfold f_X6_readUnit
  refine pg_ite ?_ ?_
  · refine pg_bd ((pg_f_X9_add (by decide) hm)) (fun r_25 m_25 hm_25 => ?_)
    refine pg_bd ((pg_f_X10_next hm_25)) (fun _ m_86 hm_86 => ?_)
    exact pg_ret hm_86
  · refine pg_bd ((pg_f_X11_within hm)) (fun r_45 m_45 hm_45 => ?_)
    refine pg_ite ?_ ?_
    · refine pg_bd ((pg_f_X6_failed hm_45)) (fun r_78 m_78 hm_78 => ?_)
      exact pg_ret hm_78
    · refine pg_bd ((pg_f_X9_add (by decide) hm_45)) (fun r_69 m_69 hm_69 => ?_)
      refine pg_bd ((pg_f_X10_next hm_69)) (fun _ m_86 hm_86 => ?_)
      exact pg_ret hm_86
theorem pg_f_X6_readDivisor_J27 {m0 : Mem} {N : Nat} {m : Mem}   (hm : Gh m0 m) : PsG m0 (f_X6_readDivisor_J27 N m) := by
  unfold f_X6_readDivisor_J27
  refine pg_ite ?_ ?_
  · refine pg_bd ((pg_f_X6_readUnit hm)) (fun r_39 m_39 hm_39 => ?_)
    exact pg_ret hm_39
  · refine pg_bd ((pg_f_X6_failed hm)) (fun r_47 m_47 hm_47 => ?_)
    exact pg_ret hm_47
theorem pg_f_X6_readDivisor {m0 : Mem} {N : Nat} {m : Mem}   (hm : Gh m0 m) : PsG m0 (f_X6_readDivisor N m) := by
  unfold f_X6_readDivisor
  refine pg_ite ?_ ?_
  · refine pg_ite ?_ ?_
    · refine pg_bd ((pg_f_X6_failed hm)) (fun r_23 m_23 hm_23 => ?_)
      exact pg_ret hm_23
    · exact (pg_f_X6_readDivisor_J27 hm)
  · exact (pg_f_X6_readDivisor_J27 hm)
theorem pg_f_X6_opOf {m0 : Mem} {N : Nat} {a0 : Int32} {m : Mem}   (hm : Gh m0 m) : PsG m0 (f_X6_opOf N a0 m) := by
  unfold f_X6_opOf
  refine pg_ite ?_ ?_
  · exact pg_ret hm
  · refine pg_ite ?_ ?_
    · exact pg_ret hm
    · refine pg_ite ?_ ?_
      · exact pg_ret hm
      · refine pg_ite ?_ ?_
        · exact pg_ret hm
        · refine pg_ite ?_ ?_
          · exact pg_ret hm
          · refine pg_ite ?_ ?_
            · exact pg_ret hm
            · refine pg_ite ?_ ?_
              · exact pg_ret hm
              · refine pg_ite ?_ ?_
                · exact pg_ret hm
                · refine pg_ite ?_ ?_
                  · exact pg_ret hm
                  · exact pg_ret hm
theorem pg_f_X6_strength {m0 : Mem} {N : Nat} {a0 : Int32} {m : Mem}   (hm : Gh m0 m) : PsG m0 (f_X6_strength N a0 m) := by
  unfold f_X6_strength
  refine pg_swt ⟨?_, ?_, ?_, ?_, ?_, ?_, ?_, ?_, ?_, trivial⟩ ?_
  · exact pg_ret hm
  · exact pg_ret hm
  · exact pg_ret hm
  · exact pg_ret hm
  · exact pg_ret hm
  · exact pg_ret hm
  · exact pg_ret hm
  · exact pg_ret hm
  · exact pg_ret hm
  · exact pg_ret hm
theorem pg_f_X6_dropDownTo_L10 {m0 : Mem} {N : Nat} {a1 : Int32} {X : Int32 → Mem → Ans} {s2_10 : Int32} {m : Mem}  (hX : ∀ (q0 : Int32) (m : Mem), Gh m0 m → PsG m0 (X q0 m)) (hm : Gh m0 m) : PsG m0 (f_X6_dropDownTo_L10 N a1 X s2_10 m) := by
  unfold f_X6_dropDownTo_L10
  refine pg_ite ?_ ?_
  · exact pg_ret hm
  · refine pg_bd ((pg_f_X9_at (by decide) hm)) (fun r_20 m_20 hm_20 => ?_)
    refine pg_ite ?_ ?_
    · exact pg_ret hm_20
    · refine pg_bd ((pg_f_X6_strength hm_20)) (fun r_31 m_31 hm_31 => ?_)
      refine pg_ite ?_ ?_
      · refine pg_bd ((pg_f_X9_add (by decide) hm_31)) (fun r_47 m_47 hm_47 => ?_)
        refine pg_set hm_47 (by decide) (fun m_56 hm_56 => ?_)
        refine pg_ite ?_ ?_
        · refine pg_set hm_56 (by decide) (fun m_76 hm_76 => ?_)
          exact hX (s2_10 + (-1)) m_76 hm_76
        · refine pg_set hm_56 (by decide) (fun m_76 hm_76 => ?_)
          exact hX (s2_10 + (-1)) m_76 hm_76
      · exact pg_ret hm_31
theorem pg_f_X6_dropDownTo {m0 : Mem} {N : Nat} {a1 : Int32} {m : Mem}   (hm : Gh m0 m) : PsG m0 (f_X6_dropDownTo N a1 m) := by
  unfold f_X6_dropDownTo
  refine pg_bnd (fun a2_9 => ?_)
  exact pg_it1 (fun Y hY y0 m1 hm1 => (pg_f_X6_dropDownTo_L10 hY hm1)) hm
theorem pg_f_X6_join {m0 : Mem} {N : Nat} {a1 : Int32} {m : Mem}   (hm : Gh m0 m) : PsG m0 (f_X6_join N a1 m) := by
  unfold f_X6_join
  refine pg_bd ((pg_f_X6_strength hm)) (fun r_2 m_2 hm_2 => ?_)
  refine pg_bd ((pg_f_X6_dropDownTo hm_2)) (fun _ m_5 hm_5 => ?_)
  refine pg_bd ((pg_f_X9_add (by decide) hm_5)) (fun r_16 m_16 hm_16 => ?_)
  refine pg_bd ((pg_f_X10_next hm_16)) (fun _ m_24 hm_24 => ?_)
  exact pg_ret hm_24
theorem pg_f_X6_finish {m0 : Mem} {N : Nat} {m : Mem}   (hm : Gh m0 m) : PsG m0 (f_X6_finish N m) := by
  unfold f_X6_finish
  refine pg_bd ((pg_f_X9_put (by decide) hm)) (fun _ m_16 hm_16 => ?_)
  refine pg_bd ((pg_f_X10_next hm_16)) (fun _ m_23 hm_23 => ?_)
  exact pg_ret hm_23
theorem pg_f_X6_readBehindUnit_J120 {m0 : Mem} {N : Nat} {m : Mem}   (hm : Gh m0 m) : PsG m0 (f_X6_readBehindUnit_J120 N m) := by
  unfold f_X6_readBehindUnit_J120
  refine pg_ite ?_ ?_
  · refine pg_ite ?_ ?_
    · refine pg_bd ((pg_f_X6_dropDownTo hm)) (fun _ m_141 hm_141 => ?_)
      refine pg_bd ((pg_f_X9_put (by decide) hm_141)) (fun _ m_160 hm_160 => ?_)
      refine pg_bd ((pg_f_X6_finish hm_160)) (fun r_164 m_164 hm_164 => ?_)
      exact pg_ret hm_164
    · refine pg_ite ?_ ?_
      · exact pg_ret hm
      · refine pg_bd ((pg_f_X6_failed hm)) (fun r_182 m_182 hm_182 => ?_)
        exact pg_ret hm_182
  · refine pg_ite ?_ ?_
    · exact pg_ret hm
    · refine pg_bd ((pg_f_X6_failed hm)) (fun r_182 m_182 hm_182 => ?_)
      exact pg_ret hm_182
theorem pg_f_X6_readBehindUnit_J67 {m0 : Mem} {N : Nat} {m : Mem}   (hm : Gh m0 m) : PsG m0 (f_X6_readBehindUnit_J67 N m) := by
  unfold f_X6_readBehindUnit_J67
  refine pg_ite ?_ ?_
  · refine pg_ite ?_ ?_
    · refine pg_bd ((pg_f_X6_dropDownTo hm)) (fun _ m_89 hm_89 => ?_)
      refine pg_bd ((pg_f_X9_put (by decide) hm_89)) (fun _ m_108 hm_108 => ?_)
      refine pg_bd ((pg_f_X10_next hm_108)) (fun _ m_115 hm_115 => ?_)
      exact pg_ret hm_115
    · exact (pg_f_X6_readBehindUnit_J120 hm)
  · exact (pg_f_X6_readBehindUnit_J120 hm)
theorem pg_f_X6_readBehindUnit {m0 : Mem} {N : Nat} {m : Mem}   (hm : Gh m0 m) : PsG m0 (f_X6_readBehindUnit N m) := by
  unfold f_X6_readBehindUnit
  refine pg_bd ((pg_f_X6_opOf hm)) (fun r_7 m_7 hm_7 => ?_)
  refine pg_bd ((pg_f_X11_within hm_7)) (fun r_14 m_14 hm_14 => ?_)
  refine pg_ite ?_ ?_
  · refine pg_bd ((pg_f_X11_within hm_14)) (fun r_41 m_41 hm_41 => ?_)
    refine pg_ite ?_ ?_
    · exact (pg_f_X6_readBehindUnit_J67 hm_41)
    · refine pg_ite ?_ ?_
      · refine pg_set hm_41 (by decide) (fun m_57 hm_57 => ?_)
        refine pg_bd ((pg_f_X6_join hm_57)) (fun _ m_62 hm_62 => ?_)
        exact pg_ret hm_62
      · exact (pg_f_X6_readBehindUnit_J67 hm_41)
  · refine pg_bd ((pg_f_X6_join hm_14)) (fun _ m_22 hm_22 => ?_)
    refine pg_ite ?_ ?_
    · exact pg_ret hm_22
    · exact pg_ret hm_22
theorem pg_f_X6_readBehindCondition_J103 {m0 : Mem} {N : Nat} {m : Mem}   (hm : Gh m0 m) : PsG m0 (f_X6_readBehindCondition_J103 N m) := by
  unfold f_X6_readBehindCondition_J103
  refine pg_ite ?_ ?_
  · refine pg_ite ?_ ?_
    · refine pg_bd ((pg_f_X6_dropDownTo hm)) (fun _ m_124 hm_124 => ?_)
      refine pg_bd ((pg_f_X6_finish hm_124)) (fun r_128 m_128 hm_128 => ?_)
      exact pg_ret hm_128
    · refine pg_bd ((pg_f_X6_failed hm)) (fun r_134 m_134 hm_134 => ?_)
      exact pg_ret hm_134
  · refine pg_bd ((pg_f_X6_failed hm)) (fun r_134 m_134 hm_134 => ?_)
    exact pg_ret hm_134
theorem pg_f_X6_readBehindCondition {m0 : Mem} {N : Nat} {m : Mem}   (hm : Gh m0 m) : PsG m0 (f_X6_readBehindCondition N m) := by
  unfold f_X6_readBehindCondition
  refine pg_bd ((pg_f_X6_opOf hm)) (fun r_7 m_7 hm_7 => ?_)
  refine pg_ite ?_ ?_
  · refine pg_bd ((pg_f_X6_join hm_7)) (fun _ m_25 hm_25 => ?_)
    exact pg_ret hm_25
  · refine pg_ite ?_ ?_
    · refine pg_bd ((pg_f_X6_join hm_7)) (fun _ m_25 hm_25 => ?_)
      exact pg_ret hm_25
    · refine pg_ite ?_ ?_
      · refine pg_ite ?_ ?_
        · exact (pg_f_X6_readBehindCondition_J103 hm_7)
        · refine pg_bd ((pg_f_X6_dropDownTo hm_7)) (fun _ m_51 hm_51 => ?_)
          refine pg_set hm_51 (by decide) (fun m_71 hm_71 => ?_)
          refine pg_set hm_71 (by decide) (fun m_81 hm_81 => ?_)
          refine pg_set hm_81 (by decide) (fun m_91 hm_91 => ?_)
          refine pg_bd ((pg_f_X10_next hm_91)) (fun _ m_98 hm_98 => ?_)
          exact pg_ret hm_98
      · exact (pg_f_X6_readBehindCondition_J103 hm_7)
theorem pg_f_X6_readLaw_L46 {m0 : Mem} {N : Nat} {X : Int32 → Int32 → Mem → Ans} {s1_46 : Int32} {s2_46 : Int32} {m : Mem}  (hX : ∀ (q0 : Int32) (q1 : Int32) (m : Mem), Gh m0 m → PsG m0 (X q0 q1 m)) (hm : Gh m0 m) : PsG m0 (f_X6_readLaw_L46 N X s1_46 s2_46 m) := by
  unfold f_X6_readLaw_L46
  refine pg_ite ?_ ?_
  · exact pg_ret hm
  · refine pg_ite ?_ ?_
    · exact pg_ret hm
    · refine pg_ite ?_ ?_
      · refine pg_swt ⟨?_, ?_, ?_, ?_, trivial⟩ ?_
        · refine pg_bd ((pg_f_X6_readCondition hm)) (fun r_97 m_97 hm_97 => ?_)
          exact hX r_97 (s2_46 + 1) m_97 hm_97
        · refine pg_bd ((pg_f_X6_readUnit hm)) (fun r_105 m_105 hm_105 => ?_)
          exact hX r_105 (s2_46 + 1) m_105 hm_105
        · refine pg_bd ((pg_f_X6_readDivisor hm)) (fun r_113 m_113 hm_113 => ?_)
          exact hX r_113 (s2_46 + 1) m_113 hm_113
        · refine pg_bd ((pg_f_X6_readBehindUnit hm)) (fun r_121 m_121 hm_121 => ?_)
          exact hX r_121 (s2_46 + 1) m_121 hm_121
        · refine pg_bd ((pg_f_X6_readBehindCondition hm)) (fun r_129 m_129 hm_129 => ?_)
          exact hX r_129 (s2_46 + 1) m_129 hm_129
      · exact pg_ret hm
theorem pg_f_X6_readLaw {m0 : Mem} {N : Nat} {m : Mem}   (hm : Gh m0 m) : PsG m0 (f_X6_readLaw N m) := by
  unfold f_X6_readLaw
  refine pg_set hm (by decide) (fun m_5 hm_5 => ?_)
  refine pg_set hm_5 (by decide) (fun m_10 hm_10 => ?_)
  refine pg_set hm_10 (by decide) (fun m_15 hm_15 => ?_)
  refine pg_set hm_15 (by decide) (fun m_20 hm_20 => ?_)
  refine pg_bd ((pg_f_X9_put (by decide) hm_20)) (fun _ m_39 hm_39 => ?_)
  exact pg_it2 (fun Y hY y0 y1 m1 hm1 => (pg_f_X6_readLaw_L46 hY hm1)) hm_39
theorem pg_f_X6_readNumber_J75 {m0 : Mem} {N : Nat} {a1 : Int32} {a2 : Int32} {a3 : Int32} {t0_75 : Int32} {m : Mem}   (hm : Gh m0 m) : PsG m0 (f_X6_readNumber_J75 N a1 a2 a3 t0_75 m) := by
  unfold f_X6_readNumber_J75
  refine pg_bd ((pg_f_X11_within hm)) (fun r_86 m_86 hm_86 => ?_)
  refine pg_ite ?_ ?_
  · refine pg_bd ((pg_f_X6_blame hm_86)) (fun _ m_99 hm_99 => ?_)
    exact pg_ret hm_99
  · refine pg_ite ?_ ?_
    · refine pg_bd ((pg_f_X9_put (by decide) hm_86)) (fun _ m_119 hm_119 => ?_)
      refine pg_bd ((pg_f_X10_next hm_119)) (fun _ m_126 hm_126 => ?_)
      exact pg_ret hm_126
    · refine pg_bd ((pg_f_X6_blame hm_86)) (fun _ m_99 hm_99 => ?_)
      exact pg_ret hm_99
theorem pg_f_X6_readNumber_J74 {m0 : Mem} {N : Nat} {a1 : Int32} {a2 : Int32} {a3 : Int32} {m : Mem}   (hm : Gh m0 m) : PsG m0 (f_X6_readNumber_J74 N a1 a2 a3 m) := by
  unfold f_X6_readNumber_J74
  exact (pg_f_X6_readNumber_J75 hm)
theorem pg_f_X6_readNumber {m0 : Mem} {N : Nat} {a1 : Int32} {a2 : Int32} {a3 : Int32} {m : Mem}   (hm : Gh m0 m) : PsG m0 (f_X6_readNumber N a1 a2 a3 m) := by
  unfold f_X6_readNumber
  refine pg_ite ?_ ?_
  · refine pg_ite ?_ ?_
    · refine pg_ite ?_ ?_
      · refine pg_bd ((pg_f_X9_at (by decide) hm)) (fun r_39 m_39 hm_39 => ?_)
        refine pg_ite ?_ ?_
        · refine pg_bd ((pg_f_X9_at (by decide) hm_39)) (fun r_57 m_57 hm_57 => ?_)
          refine pg_ite ?_ ?_
          · exact (pg_f_X6_readNumber_J75 hm_57)
          · exact (pg_f_X6_readNumber_J74 hm_57)
        · exact (pg_f_X6_readNumber_J74 hm_39)
      · exact (pg_f_X6_readNumber_J74 hm)
    · refine pg_bd ((pg_f_X6_blame hm)) (fun _ m_21 hm_21 => ?_)
      exact pg_ret hm_21
  · exact pg_ret hm
theorem pg_f_X6_readWord {m0 : Mem} {N : Nat} {a1 : Int32} {m : Mem}   (hm : Gh m0 m) : PsG m0 (f_X6_readWord N a1 m) := by
  unfold f_X6_readWord
  refine pg_ite ?_ ?_
  · refine pg_ite ?_ ?_
    · refine pg_bd ((pg_f_X10_next hm)) (fun _ m_29 hm_29 => ?_)
      exact pg_ret hm_29
    · refine pg_bd ((pg_f_X6_blame hm)) (fun _ m_21 hm_21 => ?_)
      exact pg_ret hm_21
  · exact pg_ret hm
theorem pg_f_X6_readStatute {m0 : Mem} {N : Nat} {a1 : Int32} {m : Mem}   (hm : Gh m0 m) : PsG m0 (f_X6_readStatute N a1 m) := by
  unfold f_X6_readStatute
  refine pg_ite ?_ ?_
  · refine pg_bd ((pg_f_X6_readNumber hm)) (fun _ m_41 hm_41 => ?_)
    refine pg_bd ((pg_f_X6_readWord hm_41)) (fun _ m_48 hm_48 => ?_)
    refine pg_bd ((pg_f_X6_readNumber hm_48)) (fun _ m_57 hm_57 => ?_)
    refine pg_bd ((pg_f_X6_readWord hm_57)) (fun _ m_101 hm_101 => ?_)
    exact pg_ret hm_101
  · refine pg_ite ?_ ?_
    · refine pg_bd ((pg_f_X6_readNumber hm)) (fun _ m_68 hm_68 => ?_)
      refine pg_bd ((pg_f_X6_readWord hm_68)) (fun _ m_101 hm_101 => ?_)
      exact pg_ret hm_101
    · refine pg_ite ?_ ?_
      · refine pg_bd ((pg_f_X6_readNumber hm)) (fun _ m_83 hm_83 => ?_)
        refine pg_bd ((pg_f_X6_readWord hm_83)) (fun _ m_101 hm_101 => ?_)
        exact pg_ret hm_101
      · refine pg_bd ((pg_f_X6_readNumber hm)) (fun _ m_95 hm_95 => ?_)
        refine pg_bd ((pg_f_X6_readWord hm_95)) (fun _ m_101 hm_101 => ?_)
        exact pg_ret hm_101
theorem pg_f_X6_readLine {m0 : Mem} {N : Nat} {a1 : Int32} {m : Mem}   (hm : Gh m0 m) : PsG m0 (f_X6_readLine N a1 m) := by
  unfold f_X6_readLine
  refine pg_bnd (fun a2_7 => ?_)
  refine pg_bd ((pg_f_X6_begins hm)) (fun r_10 m_10 hm_10 => ?_)
  refine pg_ite ?_ ?_
  · refine pg_bd ((pg_f_X6_blame hm_10)) (fun _ m_18 hm_18 => ?_)
    exact pg_ret hm_18
  · refine pg_set hm_10 (by decide) (fun m_30 hm_30 => ?_)
    refine pg_bd ((pg_f_X9_add (by decide) hm_30)) (fun r_41 m_41 hm_41 => ?_)
    refine pg_ite ?_ ?_
    · refine pg_bd ((pg_f_X6_blame hm_41)) (fun _ m_49 hm_49 => ?_)
      exact pg_ret hm_49
    · refine pg_bd ((pg_f_X10_next hm_41)) (fun _ m_57 hm_57 => ?_)
      refine pg_swt ⟨?_, ?_, ?_, trivial⟩ ?_
      · refine pg_bd ((pg_f_X6_readLaw hm_57)) (fun _ m_89 hm_89 => ?_)
        exact pg_ret hm_89
      · refine pg_bd ((pg_f_X6_readStatute hm_57)) (fun _ m_97 hm_97 => ?_)
        exact pg_ret hm_97
      · refine pg_bd ((pg_f_X6_readNumber hm_57)) (fun _ m_109 hm_109 => ?_)
        refine pg_bd ((pg_f_X6_readWord hm_109)) (fun _ m_116 hm_116 => ?_)
        refine pg_bd ((pg_f_X6_readNumber hm_116)) (fun _ m_128 hm_128 => ?_)
        refine pg_bd ((pg_f_X6_readWord hm_128)) (fun _ m_134 hm_134 => ?_)
        exact pg_ret hm_134
      · refine pg_bd ((pg_f_X6_readNumber hm_57)) (fun _ m_149 hm_149 => ?_)
        refine pg_bd ((pg_f_X6_readWord hm_149)) (fun _ m_156 hm_156 => ?_)
        refine pg_bd ((pg_f_X6_readNumber hm_156)) (fun _ m_168 hm_168 => ?_)
        refine pg_bd ((pg_f_X6_readWord hm_168)) (fun _ m_174 hm_174 => ?_)
        exact pg_ret hm_174
theorem pg_f_X6_read_L56 {m0 : Mem} {N : Nat} {a1 : Int32} {a2 : Int32} {a3 : Int32} {X : Int32 → Mem → Ans} {s4_56 : Int32} {m : Mem}  (hX : ∀ (q0 : Int32) (m : Mem), Gh m0 m → PsG m0 (X q0 m)) (hm : Gh m0 m) : PsG m0 (f_X6_read_L56 N a1 a2 a3 X s4_56 m) := by
  unfold f_X6_read_L56
  refine pg_ite ?_ ?_
  · exact pg_ret hm
  · refine pg_ite ?_ ?_
    · exact pg_ret hm
    · refine pg_ite ?_ ?_
      · refine pg_bd ((pg_f_X6_readLine hm)) (fun _ m_83 hm_83 => ?_)
        exact hX (s4_56 + 1) m_83 hm_83
      · exact pg_ret hm
theorem pg_f_X6_read {m0 : Mem} {N : Nat} {a1 : Int32} {a2 : Int32} {a3 : Int32} {m : Mem}   (hm : Gh m0 m) : PsG m0 (f_X6_read N a1 a2 a3 m) := by
  unfold f_X6_read
  refine pg_set hm (by decide) (fun m_2 hm_2 => ?_)
  refine pg_set hm_2 (by decide) (fun m_7 hm_7 => ?_)
  refine pg_set hm_7 (by decide) (fun m_15 hm_15 => ?_)
  refine pg_set hm_15 (by decide) (fun m_23 hm_23 => ?_)
  refine pg_set hm_23 (by decide) (fun m_28 hm_28 => ?_)
  refine pg_set hm_28 (by decide) (fun m_33 hm_33 => ?_)
  refine pg_bd ((pg_f_X11_within hm_33)) (fun r_39 m_39 hm_39 => ?_)
  refine pg_ite ?_ ?_
  · exact pg_ret hm_39
  · refine pg_bd ((pg_f_X10_scan hm_39)) (fun _ m_50 hm_50 => ?_)
    exact pg_it1 (fun Y hY y0 m1 hm1 => (pg_f_X6_read_L56 hY hm1)) hm_50
theorem pg_f_X8_begin_J31 {m0 : Mem} {N : Nat} {a1 : Int32} {t0_31 : Int32} {t1_31 : Int32} {m : Mem}   (hm : Gh m0 m) : PsG m0 (f_X8_begin_J31 N a1 t0_31 t1_31 m) := by
  unfold f_X8_begin_J31
  refine pg_bd ((pg_f_X1_setHour hm)) (fun _ m_31 hm_31 => ?_)
  refine pg_bd ((pg_f_X2_ofDeed hm_31)) (fun r_42 m_42 hm_42 => ?_)
  refine pg_bd ((pg_f_X1_setHour hm_42)) (fun _ m_52 hm_52 => ?_)
  refine pg_bd ((pg_f_X1_hour hm_52)) (fun r_65 m_65 hm_65 => ?_)
  refine pg_bd ((pg_f_X9_at (by decide) hm_65)) (fun r_77 m_77 hm_77 => ?_)
  refine pg_bd ((pg_f_X1_setHour hm_77)) (fun _ m_81 hm_81 => ?_)
  refine pg_bd ((pg_f_X1_hour hm_81)) (fun r_94 m_94 hm_94 => ?_)
  refine pg_bd ((pg_f_X9_at (by decide) hm_94)) (fun r_106 m_106 hm_106 => ?_)
  refine pg_bd ((pg_f_X1_setHour hm_106)) (fun _ m_110 hm_110 => ?_)
  refine pg_bd ((pg_f_X9_at (by decide) hm_110)) (fun r_131 m_131 hm_131 => ?_)
  refine pg_bd ((pg_f_X9_put (by decide) hm_131)) (fun _ m_136 hm_136 => ?_)
  refine pg_bd ((pg_f_X9_at (by decide) hm_136)) (fun r_159 m_159 hm_159 => ?_)
  refine pg_bd ((pg_f_X9_put (by decide) hm_159)) (fun _ m_167 hm_167 => ?_)
  exact pg_ret hm_167
theorem pg_f_X8_begin {m0 : Mem} {N : Nat} {a1 : Int32} {m : Mem}   (hm : Gh m0 m) : PsG m0 (f_X8_begin N a1 m) := by
  unfold f_X8_begin
  refine pg_bd ((pg_f_X1_hour hm)) (fun r_10 m_10 hm_10 => ?_)
  refine pg_ite ?_ ?_
  · refine pg_bd ((pg_f_X1_hour hm_10)) (fun r_22 m_22 hm_22 => ?_)
    exact (pg_f_X8_begin_J31 hm_22)
  · exact (pg_f_X8_begin_J31 hm_10)
theorem pg_f_X8_draw {m0 : Mem} {N : Nat} {a1 : Int32} {m : Mem}   (hm : Gh m0 m) : PsG m0 (f_X8_draw N a1 m) := by
  unfold f_X8_draw
  refine pg_bd ((pg_f_X1_hour hm)) (fun r_6 m_6 hm_6 => ?_)
  refine pg_bnd (fun a2_15 => ?_)
  refine pg_bd ((pg_f_X1_setHour hm_6)) (fun _ m_23 hm_23 => ?_)
  refine pg_ite ?_ ?_
  · exact pg_ret hm_23
  · refine pg_chk ?_
    exact pg_ret hm_23
theorem pg_f_X8_drawEach_L2 {m0 : Mem} {N : Nat} {X : Int32 → Mem → Ans} {s1_2 : Int32} {m : Mem}  (hX : ∀ (q0 : Int32) (m : Mem), Gh m0 m → PsG m0 (X q0 m)) (hm : Gh m0 m) : PsG m0 (f_X8_drawEach_L2 N X s1_2 m) := by
  unfold f_X8_drawEach_L2
  refine pg_ite ?_ ?_
  · exact pg_ret hm
  · refine pg_ite ?_ ?_
    · exact pg_ret hm
    · refine pg_ite ?_ ?_
      · refine pg_bd ((pg_f_X9_at (by decide) hm)) (fun r_41 m_41 hm_41 => ?_)
        refine pg_ite ?_ ?_
        · refine pg_bd ((pg_f_X8_draw hm_41)) (fun r_57 m_57 hm_57 => ?_)
          refine pg_chk ?_
          refine pg_set hm_57 (by decide) (fun m_60 hm_60 => ?_)
          exact hX (s1_2 + 1) m_60 hm_60
        · exact hX (s1_2 + 1) m_41 hm_41
      · exact pg_ret hm
theorem pg_f_X8_drawEach {m0 : Mem} {N : Nat} {m : Mem}   (hm : Gh m0 m) : PsG m0 (f_X8_drawEach N m) := by
  unfold f_X8_drawEach
  exact pg_it1 (fun Y hY y0 m1 hm1 => (pg_f_X8_drawEach_L2 hY hm1)) hm
theorem pg_f_X11_isIn {m0 : Mem} {N : Nat} {a0 : Int32} {a1 : Int32} {m : Mem}   (hm : Gh m0 m) : PsG m0 (f_X11_isIn N a0 a1 m) := by
  unfold f_X11_isIn
  refine pg_ite ?_ ?_
  · exact pg_ret hm
  · refine pg_ite ?_ ?_
    · exact pg_ret hm
    · refine pg_ite ?_ ?_
      · exact pg_ret hm
      · exact pg_ret hm
theorem pg_f_J6_bitCount_0f7a4 {m0 : Mem} {N : Nat} {a0 : Int32} {m : Mem}   (hm : Gh m0 m) : PsG m0 (f_J6_bitCount_0f7a4 N a0 m) := by
  unfold f_J6_bitCount_0f7a4
  refine pg_bnd (fun a0_9 => ?_)
  refine pg_bnd (fun a0_23 => ?_)
  refine pg_bnd (fun a0_33 => ?_)
  refine pg_bnd (fun a0_40 => ?_)
  refine pg_bnd (fun a0_47 => ?_)
  exact pg_ret hm
theorem pg_f_X8_applaud_L12 {m0 : Mem} {N : Nat} {a1 : Int32} {K34 : Mem → Ans} {X : Int32 → Mem → Ans} {s2_12 : Int32} {m : Mem}  (hK34 : ∀ (m : Mem), Gh m0 m → PsG m0 (K34  m)) (hX : ∀ (q0 : Int32) (m : Mem), Gh m0 m → PsG m0 (X q0 m)) (hm : Gh m0 m) : PsG m0 (f_X8_applaud_L12 N a1 K34 X s2_12 m) := by
  unfold f_X8_applaud_L12
  refine pg_ite ?_ ?_
  · exact hK34  m hm
  · refine pg_chk ?_
    refine pg_set hm (by decide) (fun m_27 hm_27 => ?_)
    exact hX (s2_12 + 1) m_27 hm_27
theorem pg_f_X8_applaud_J174 {m0 : Mem} {N : Nat} {a1 : Int32} {a2_53 : Int32} {s4_59 : Int32} {a5_74 : Int32} {K233 : Mem → Ans} {X : Int32 → Mem → Ans} {s6_174 : Int32} {s7_174 : Int32} {t0_174 : Int32} {m : Mem}  (hK233 : ∀ (m : Mem), Gh m0 m → PsG m0 (K233  m)) (hX : ∀ (q0 : Int32) (m : Mem), Gh m0 m → PsG m0 (X q0 m)) (hm : Gh m0 m) : PsG m0 (f_X8_applaud_J174 N a1 a2_53 s4_59 a5_74 K233 X s6_174 s7_174 t0_174 m) := by
  unfold f_X8_applaud_J174
  refine pg_chk ?_
  refine pg_ite ?_ ?_
  · refine pg_chk ?_
    refine pg_set hm (by decide) (fun m_226 hm_226 => ?_)
    exact hX (s6_174 + 1) m_226 hm_226
  · refine pg_bd ((pg_f_X2_clap hm)) (fun r_199 m_199 hm_199 => ?_)
    refine pg_ite ?_ ?_
    · refine pg_chk ?_
      refine pg_set hm_199 (by decide) (fun m_226 hm_226 => ?_)
      exact hX (s6_174 + 1) m_226 hm_226
    · refine pg_set hm_199 (by decide) (fun m_215 hm_215 => ?_)
      refine pg_chk ?_
      refine pg_set hm_215 (by decide) (fun m_226 hm_226 => ?_)
      exact hX (s6_174 + 1) m_226 hm_226
theorem pg_f_X8_applaud_L79 {m0 : Mem} {N : Nat} {a1 : Int32} {a2_53 : Int32} {s4_59 : Int32} {a5_74 : Int32} {K233 : Mem → Ans} {X : Int32 → Mem → Ans} {s6_79 : Int32} {m : Mem}  (hK233 : ∀ (m : Mem), Gh m0 m → PsG m0 (K233  m)) (hX : ∀ (q0 : Int32) (m : Mem), Gh m0 m → PsG m0 (X q0 m)) (hm : Gh m0 m) : PsG m0 (f_X8_applaud_L79 N a1 a2_53 s4_59 a5_74 K233 X s6_79 m) := by
  unfold f_X8_applaud_L79
  refine pg_ite ?_ ?_
  · exact hK233  m hm
  · refine pg_ite ?_ ?_
    · exact hK233  m hm
    · refine pg_ite ?_ ?_
      · exact hK233  m hm
      · refine pg_bd ((pg_f_X11_isIn hm)) (fun r_124 m_124 hm_124 => ?_)
        refine pg_ite ?_ ?_
        · exact hX (s6_79 + 1) m_124 hm_124
        · refine pg_bd ((pg_f_X9_at (by decide) hm_124)) (fun r_141 m_141 hm_141 => ?_)
          refine pg_bd ((pg_f_J6_bitCount_0f7a4 hm_141)) (fun r_149 m_149 hm_149 => ?_)
          refine pg_ite ?_ ?_
          · refine pg_chk ?_
            exact (pg_f_X8_applaud_J174 hK233 hX hm_149)
          · exact (pg_f_X8_applaud_J174 hK233 hX hm_149)
theorem pg_f_X8_applaud_J247 {m0 : Mem} {N : Nat} {a1 : Int32} {a2_53 : Int32} {X : Int32 → Int32 → Mem → Ans} {s4_247 : Int32} {t0_247 : Int32} {m : Mem}  (hX : ∀ (q0 : Int32) (q1 : Int32) (m : Mem), Gh m0 m → PsG m0 (X q0 q1 m)) (hm : Gh m0 m) : PsG m0 (f_X8_applaud_J247 N a1 a2_53 X s4_247 t0_247 m) := by
  unfold f_X8_applaud_J247
  refine pg_ite ?_ ?_
  · refine pg_set hm (by decide) (fun m_263 hm_263 => ?_)
    exact hX t0_247 (s4_247 + 1) m_263 hm_263
  · refine pg_set hm (by decide) (fun m_263 hm_263 => ?_)
    exact hX t0_247 (s4_247 + 1) m_263 hm_263
theorem pg_f_X8_applaud_J233 {m0 : Mem} {N : Nat} {a1 : Int32} {a2_53 : Int32} {X : Int32 → Int32 → Mem → Ans} {s4_233 : Int32} {s5_233 : Int32} {m : Mem}  (hX : ∀ (q0 : Int32) (q1 : Int32) (m : Mem), Gh m0 m → PsG m0 (X q0 q1 m)) (hm : Gh m0 m) : PsG m0 (f_X8_applaud_J233 N a1 a2_53 X s4_233 s5_233 m) := by
  unfold f_X8_applaud_J233
  refine pg_ite ?_ ?_
  · exact (pg_f_X8_applaud_J247 hX hm)
  · exact (pg_f_X8_applaud_J247 hX hm)
theorem pg_f_X8_applaud_L59 {m0 : Mem} {N : Nat} {a1 : Int32} {a2_53 : Int32} {X : Int32 → Int32 → Mem → Ans} {s3_59 : Int32} {s4_59 : Int32} {m : Mem}  (hX : ∀ (q0 : Int32) (q1 : Int32) (m : Mem), Gh m0 m → PsG m0 (X q0 q1 m)) (hm : Gh m0 m) : PsG m0 (f_X8_applaud_L59 N a1 a2_53 X s3_59 s4_59 m) := by
  unfold f_X8_applaud_L59
  refine pg_ite ?_ ?_
  · exact pg_ret hm
  · refine pg_ite ?_ ?_
    · exact pg_ret hm
    · refine pg_bnd (fun a5_74 => ?_)
      exact pg_it1 (fun Y hY y0 m1 hm1 => (pg_f_X8_applaud_L79 (fun mk233 hmk233 => by
            exact (pg_f_X8_applaud_J233 hX hmk233)) hY hm1)) hm
theorem pg_f_X8_applaud {m0 : Mem} {N : Nat} {a1 : Int32} {m : Mem}   (hm : Gh m0 m) : PsG m0 (f_X8_applaud N a1 m) := by
  unfold f_X8_applaud
  refine pg_set hm (by decide) (fun m_2 hm_2 => ?_)
  refine pg_set hm_2 (by decide) (fun m_7 hm_7 => ?_)
  exact pg_it1 (fun Y hY y0 m1 hm1 => (pg_f_X8_applaud_L12 (fun mk34 hmk34 => by
            refine pg_bd ((pg_f_X1_those hmk34)) (fun r_39 m_39 hm_39 => ?_)
            refine pg_bd ((pg_f_X1_those hm_39)) (fun r_47 m_47 hm_47 => ?_)
            refine pg_bnd (fun a2_53 => ?_)
            exact pg_it2 (fun Y hY y0 y1 m1 hm1 => (pg_f_X8_applaud_L59 hY hm1)) hm_47) hY hm1)) hm_7
theorem pg_f_X8_coughs {m0 : Mem} {N : Nat} {m : Mem}   (hm : Gh m0 m) : PsG m0 (f_X8_coughs N m) := by
  unfold f_X8_coughs
  refine pg_ite ?_ ?_
  · refine pg_bd ((pg_f_X1_hour hm)) (fun r_12 m_12 hm_12 => ?_)
    refine pg_ite ?_ ?_
    · exact pg_ret hm_12
    · refine pg_bd ((pg_f_X8_draw hm_12)) (fun r_22 m_22 hm_22 => ?_)
      refine pg_bd ((pg_f_X1_hour hm_22)) (fun r_30 m_30 hm_30 => ?_)
      refine pg_ite ?_ ?_
      · exact pg_ret hm_30
      · exact pg_ret hm_30
  · exact pg_ret hm
theorem pg_f_X8_handsOf_L4 {m0 : Mem} {N : Nat} {a1 : Int32} {X : Int32 → Int32 → Mem → Ans} {s2_4 : Int32} {s3_4 : Int32} {m : Mem}  (hX : ∀ (q0 : Int32) (q1 : Int32) (m : Mem), Gh m0 m → PsG m0 (X q0 q1 m)) (hm : Gh m0 m) : PsG m0 (f_X8_handsOf_L4 N a1 X s2_4 s3_4 m) := by
  unfold f_X8_handsOf_L4
  refine pg_ite ?_ ?_
  · exact pg_ret hm
  · refine pg_bd ((pg_f_X11_isIn hm)) (fun r_20 m_20 hm_20 => ?_)
    refine pg_ite ?_ ?_
    · exact hX s2_4 (s3_4 + 1) m_20 hm_20
    · refine pg_bd ((pg_f_X9_at (by decide) hm_20)) (fun r_36 m_36 hm_36 => ?_)
      refine pg_bd ((pg_f_X9_at (by decide) hm_36)) (fun r_49 m_49 hm_49 => ?_)
      refine pg_bnd (fun a2_54 => ?_)
      exact hX a2_54 (s3_4 + 1) m_49 hm_49
theorem pg_f_X8_handsOf {m0 : Mem} {N : Nat} {a1 : Int32} {m : Mem}   (hm : Gh m0 m) : PsG m0 (f_X8_handsOf N a1 m) := by
  unfold f_X8_handsOf
  exact pg_it2 (fun Y hY y0 y1 m1 hm1 => (pg_f_X8_handsOf_L4 hY hm1)) hm
theorem pg_f_X8_handsAt {m0 : Mem} {N : Nat} {a1 : Int32} {m : Mem}   (hm : Gh m0 m) : PsG m0 (f_X8_handsAt N a1 m) := by
  unfold f_X8_handsAt
  refine pg_bd ((pg_f_X8_handsOf hm)) (fun r_5 m_5 hm_5 => ?_)
  refine pg_bd ((pg_f_X2_ofDeed hm_5)) (fun r_16 m_16 hm_16 => ?_)
  exact pg_ret hm_16
theorem pg_f_X8_noteDone_J22 {m0 : Mem} {N : Nat} {a1 : Int32} {a2 : Int32} {a3 : Int32} {m : Mem}   (hm : Gh m0 m) : PsG m0 (f_X8_noteDone_J22 N a1 a2 a3 m) := by
  unfold f_X8_noteDone_J22
  refine pg_bd ((pg_f_X1_hour hm)) (fun r_31 m_31 hm_31 => ?_)
  refine pg_ite ?_ ?_
  · refine pg_bd ((pg_f_X1_note hm_31)) (fun _ m_44 hm_44 => ?_)
    exact pg_ret hm_44
  · refine pg_bd ((pg_f_X1_note hm_31)) (fun _ m_44 hm_44 => ?_)
    exact pg_ret hm_44
theorem pg_f_X8_noteDone {m0 : Mem} {N : Nat} {a1 : Int32} {a2 : Int32} {a3 : Int32} {m : Mem}   (hm : Gh m0 m) : PsG m0 (f_X8_noteDone N a1 a2 a3 m) := by
  unfold f_X8_noteDone
  refine pg_ite ?_ ?_
  · refine pg_ite ?_ ?_
    · exact (pg_f_X8_noteDone_J22 hm)
    · refine pg_bd ((pg_f_X1_note hm)) (fun _ m_19 hm_19 => ?_)
      exact (pg_f_X8_noteDone_J22 hm_19)
  · exact pg_ret hm
theorem pg_f_X8_doWithAgains_J52 {m0 : Mem} {N : Nat} {a1 : Int32} {X : Int32 → Int32 → Int32 → Mem → Ans} {s2_52 : Int32} {s4_52 : Int32} {s5_52 : Int32} {t0_52 : Int32} {m : Mem}  (hX : ∀ (q0 : Int32) (q1 : Int32) (q2 : Int32) (m : Mem), Gh m0 m → PsG m0 (X q0 q1 q2 m)) (hm : Gh m0 m) : PsG m0 (f_X8_doWithAgains_J52 N a1 X s2_52 s4_52 s5_52 t0_52 m) := by
  unfold f_X8_doWithAgains_J52
  refine pg_bd ((pg_f_X8_noteDone hm)) (fun _ m_60 hm_60 => ?_)
  refine pg_ite ?_ ?_
  · refine pg_bd ((pg_f_X1_handsDue hm_60)) (fun r_77 m_77 hm_77 => ?_)
    refine pg_ite ?_ ?_
    · exact hX (s2_52 + 1) 0 (s4_52 + 1) m_77 hm_77
    · refine pg_bd ((pg_f_X1_mayGoOn hm_77)) (fun r_87 m_87 hm_87 => ?_)
      refine pg_ite ?_ ?_
      · exact hX (s2_52 + 1) 0 (s4_52 + 1) m_87 hm_87
      · exact hX (s2_52 + 1) 1 (s4_52 + 1) m_87 hm_87
  · exact hX (s2_52 + 1) 0 (s4_52 + 1) m_60 hm_60
theorem pg_f_X8_doWithAgains_L7 {m0 : Mem} {N : Nat} {a1 : Int32} {X : Int32 → Int32 → Int32 → Mem → Ans} {s2_7 : Int32} {s3_7 : Int32} {s4_7 : Int32} {m : Mem}  (hX : ∀ (q0 : Int32) (q1 : Int32) (q2 : Int32) (m : Mem), Gh m0 m → PsG m0 (X q0 q1 q2 m)) (hm : Gh m0 m) : PsG m0 (f_X8_doWithAgains_L7 N a1 X s2_7 s3_7 s4_7 m) := by
  unfold f_X8_doWithAgains_L7
  refine pg_ite ?_ ?_
  · exact pg_ret hm
  · refine pg_ite ?_ ?_
    · exact pg_ret hm
    · refine pg_bd ((pg_f_X8_begin hm)) (fun _ m_20 hm_20 => ?_)
      refine pg_bd ((pg_f_X8_drawEach hm_20)) (fun _ m_24 hm_24 => ?_)
      refine pg_bd ((pg_f_X8_applaud hm_24)) (fun _ m_29 hm_29 => ?_)
      refine pg_bd ((pg_f_X8_coughs hm_29)) (fun r_33 m_33 hm_33 => ?_)
      refine pg_ite ?_ ?_
      · refine pg_bd ((pg_f_X8_handsAt hm_33)) (fun r_49 m_49 hm_49 => ?_)
        exact (pg_f_X8_doWithAgains_J52 hX hm_49)
      · exact (pg_f_X8_doWithAgains_J52 hX hm_33)
theorem pg_f_X8_doWithAgains {m0 : Mem} {N : Nat} {a1 : Int32} {m : Mem}   (hm : Gh m0 m) : PsG m0 (f_X8_doWithAgains N a1 m) := by
  unfold f_X8_doWithAgains
  exact pg_it3 (fun Y hY y0 y1 y2 m1 hm1 => (pg_f_X8_doWithAgains_L7 hY hm1)) hm
theorem pg_f_X8_spendEvening_L31 {m0 : Mem} {N : Nat} {K119 : Int32 → Mem → Ans} {X : Int32 → Int32 → Mem → Ans} {s1_31 : Int32} {s2_31 : Int32} {m : Mem}  (hK119 : ∀ (q0 : Int32) (m : Mem), Gh m0 m → PsG m0 (K119 q0 m)) (hX : ∀ (q0 : Int32) (q1 : Int32) (m : Mem), Gh m0 m → PsG m0 (X q0 q1 m)) (hm : Gh m0 m) : PsG m0 (f_X8_spendEvening_L31 N K119 X s1_31 s2_31 m) := by
  unfold f_X8_spendEvening_L31
  refine pg_ite ?_ ?_
  · exact hK119 s1_31 m hm
  · refine pg_bd ((pg_f_X1_hour hm)) (fun r_55 m_55 hm_55 => ?_)
    refine pg_bd ((pg_f_X9_at (by decide) hm_55)) (fun r_67 m_67 hm_67 => ?_)
    refine pg_bd ((pg_f_X1_setHour hm_67)) (fun _ m_73 hm_73 => ?_)
    refine pg_bd ((pg_f_X1_hour hm_73)) (fun r_81 m_81 hm_81 => ?_)
    refine pg_bd ((pg_f_X1_endMinute hm_81)) (fun r_88 m_88 hm_88 => ?_)
    refine pg_ite ?_ ?_
    · exact hX s1_31 (s2_31 + 1) m_88 hm_88
    · refine pg_bd ((pg_f_X9_at (by decide) hm_88)) (fun r_105 m_105 hm_105 => ?_)
      refine pg_bd ((pg_f_X8_doWithAgains hm_105)) (fun r_108 m_108 hm_108 => ?_)
      refine pg_bnd (fun a1_112 => ?_)
      exact hX a1_112 (s2_31 + 1) m_108 hm_108
theorem pg_f_X8_spendEvening {m0 : Mem} {N : Nat} {m : Mem}   (hm : Gh m0 m) : PsG m0 (f_X8_spendEvening N m) := by
  unfold f_X8_spendEvening
  refine pg_bd ((pg_f_X1_setHour hm)) (fun _ m_6 hm_6 => ?_)
  refine pg_bd ((pg_f_X1_setHour hm_6)) (fun _ m_15 hm_15 => ?_)
  refine pg_bd ((pg_f_X1_setHour hm_15)) (fun _ m_24 hm_24 => ?_)
  exact pg_it2 (fun Y hY y0 y1 m1 hm1 => (pg_f_X8_spendEvening_L31 (fun k1_119 mk119 hmk119 => by
            refine pg_bd ((pg_f_X1_hour hmk119)) (fun r_129 m_129 hm_129 => ?_)
            refine pg_bd ((pg_f_X1_setHour hm_129)) (fun _ m_134 hm_134 => ?_)
            exact pg_ret hm_134) hY hm1)) hm_24
theorem pg_f_X10_hasRoom {m0 : Mem} {N : Nat} {a1 : Int32} {m : Mem}   (hm : Gh m0 m) : PsG m0 (f_X10_hasRoom N a1 m) := by
  unfold f_X10_hasRoom
  refine pg_ite ?_ ?_
  · exact pg_ret hm
  · exact pg_ret hm
theorem pg_f_X10_append_L3 {m0 : Mem} {N : Nat} {a1 : Int32} {X : Int32 → Mem → Ans} {s2_3 : Int32} {m : Mem}  (hX : ∀ (q0 : Int32) (m : Mem), Gh m0 m → PsG m0 (X q0 m)) (hm : Gh m0 m) : PsG m0 (f_X10_append_L3 N a1 X s2_3 m) := by
  unfold f_X10_append_L3
  refine pg_ite ?_ ?_
  · exact pg_ret hm
  · refine pg_ite ?_ ?_
    · exact hX (s2_3 + (-8)) m hm
    · refine pg_ite ?_ ?_
      · exact hX (s2_3 + (-8)) m hm
      · refine pg_chk ?_
        refine pg_set hm (by decide) (fun m_41 hm_41 => ?_)
        refine pg_set hm_41 (by decide) (fun m_49 hm_49 => ?_)
        exact hX (s2_3 + (-8)) m_49 hm_49
theorem pg_f_X10_append {m0 : Mem} {N : Nat} {a1 : Int32} {m : Mem}   (hm : Gh m0 m) : PsG m0 (f_X10_append N a1 m) := by
  unfold f_X10_append
  exact pg_it1 (fun Y hY y0 m1 hm1 => (pg_f_X10_append_L3 hY hm1)) hm
theorem pg_f_X11_state {m0 : Mem} {N : Nat} {a1 : Int32} {m : Mem}   (hm : Gh m0 m) : PsG m0 (f_X11_state N a1 m) := by
  unfold f_X11_state
  refine pg_bd ((pg_f_X1_hour hm)) (fun r_6 m_6 hm_6 => ?_)
  refine pg_bd ((pg_f_X1_setHour hm_6)) (fun _ m_17 hm_17 => ?_)
  refine pg_bd ((pg_f_X4_forget hm_17)) (fun _ m_24 hm_24 => ?_)
  exact pg_ret hm_24
theorem pg_f_X11_hearer {m0 : Mem} {N : Nat} {a1 : Int32} {a2 : Int32} {a3 : Int32} {m : Mem}   (hm : Gh m0 m) : PsG m0 (f_X11_hearer N a1 a2 a3 m) := by
  unfold f_X11_hearer
  refine pg_bd ((pg_f_X11_within hm)) (fun r_4 m_4 hm_4 => ?_)
  refine pg_ite ?_ ?_
  · exact pg_ret hm_4
  · refine pg_bd ((pg_f_X11_within hm_4)) (fun r_14 m_14 hm_14 => ?_)
    refine pg_ite ?_ ?_
    · exact pg_ret hm_14
    · refine pg_bd ((pg_f_X11_within hm_14)) (fun r_24 m_24 hm_24 => ?_)
      refine pg_ite ?_ ?_
      · exact pg_ret hm_24
      · refine pg_bnd (fun a4_42 => ?_)
        refine pg_bd ((pg_f_X9_add (by decide) hm_24)) (fun r_55 m_55 hm_55 => ?_)
        refine pg_ite ?_ ?_
        · exact pg_ret hm_55
        · refine pg_bd ((pg_f_X9_put (by decide) hm_55)) (fun _ m_75 hm_75 => ?_)
          refine pg_bd ((pg_f_X4_forget hm_75)) (fun _ m_82 hm_82 => ?_)
          exact pg_ret hm_82
theorem pg_f_X11_deed {m0 : Mem} {N : Nat} {a1 : Int32} {a2 : Int32} {a3 : Int32} {m : Mem}   (hm : Gh m0 m) : PsG m0 (f_X11_deed N a1 a2 a3 m) := by
  unfold f_X11_deed
  refine pg_bd ((pg_f_X11_within hm)) (fun r_4 m_4 hm_4 => ?_)
  refine pg_ite ?_ ?_
  · exact pg_ret hm_4
  · refine pg_bd ((pg_f_X11_within hm_4)) (fun r_14 m_14 hm_14 => ?_)
    refine pg_ite ?_ ?_
    · exact pg_ret hm_14
    · refine pg_bd ((pg_f_X11_within hm_14)) (fun r_24 m_24 hm_24 => ?_)
      refine pg_ite ?_ ?_
      · exact pg_ret hm_24
      · refine pg_bnd (fun a4_42 => ?_)
        refine pg_bd ((pg_f_X9_add (by decide) hm_24)) (fun r_55 m_55 hm_55 => ?_)
        refine pg_ite ?_ ?_
        · exact pg_ret hm_55
        · refine pg_bd ((pg_f_X4_forget hm_55)) (fun _ m_67 hm_67 => ?_)
          exact pg_ret hm_67
theorem pg_f_X11_setTo {m0 : Mem} {N : Nat} {a0 : Nat} {a1 : Int32} {a2 : Int32} {a3 : Int32} {a4 : Int32} {m : Mem} (ha0 : a0 < 123)  (hm : Gh m0 m) : PsG m0 (f_X11_setTo N a0 a1 a2 a3 a4 m) := by
  unfold f_X11_setTo
  refine pg_bd ((pg_f_X9_has ha0 hm)) (fun r_2 m_2 hm_2 => ?_)
  refine pg_ite ?_ ?_
  · exact pg_ret hm_2
  · refine pg_bd ((pg_f_X11_within hm_2)) (fun r_12 m_12 hm_12 => ?_)
    refine pg_ite ?_ ?_
    · exact pg_ret hm_12
    · refine pg_bd ((pg_f_X9_put ha0 hm_12)) (fun _ m_24 hm_24 => ?_)
      exact pg_ret hm_24
theorem pg_f_X11_set {m0 : Mem} {N : Nat} {a1 : Int32} {a2 : Int32} {a3 : Int32} {m : Mem}   (hm : Gh m0 m) : PsG m0 (f_X11_set N a1 a2 a3 m) := by
  unfold f_X11_set
  refine pg_swt ⟨?_, ?_, ?_, ?_, ?_, ?_, trivial⟩ ?_
  · refine pg_bd ((pg_f_X11_within hm)) (fun r_49 m_49 hm_49 => ?_)
    refine pg_ite ?_ ?_
    · refine pg_ite ?_ ?_
      · refine pg_chk ?_
        exact pg_ret hm_49
      · refine pg_bd ((pg_f_X4_forget hm_49)) (fun _ m_180 hm_180 => ?_)
        refine pg_chk ?_
        exact pg_ret hm_180
    · refine pg_bd ((pg_f_X1_setHour hm_49)) (fun _ m_65 hm_65 => ?_)
      refine pg_ite ?_ ?_
      · refine pg_chk ?_
        exact pg_ret hm_65
      · refine pg_bd ((pg_f_X4_forget hm_65)) (fun _ m_180 hm_180 => ?_)
        refine pg_chk ?_
        exact pg_ret hm_180
  · refine pg_bd ((pg_f_X11_setTo (by decide) hm)) (fun r_83 m_83 hm_83 => ?_)
    refine pg_ite ?_ ?_
    · refine pg_chk ?_
      exact pg_ret hm_83
    · refine pg_bd ((pg_f_X4_forget hm_83)) (fun _ m_180 hm_180 => ?_)
      refine pg_chk ?_
      exact pg_ret hm_180
  · refine pg_bd ((pg_f_X11_setTo (by decide) hm)) (fun r_103 m_103 hm_103 => ?_)
    refine pg_ite ?_ ?_
    · refine pg_chk ?_
      exact pg_ret hm_103
    · refine pg_bd ((pg_f_X4_forget hm_103)) (fun _ m_180 hm_180 => ?_)
      refine pg_chk ?_
      exact pg_ret hm_180
  · refine pg_bd ((pg_f_X11_setTo (by decide) hm)) (fun r_123 m_123 hm_123 => ?_)
    refine pg_ite ?_ ?_
    · refine pg_chk ?_
      exact pg_ret hm_123
    · refine pg_bd ((pg_f_X4_forget hm_123)) (fun _ m_180 hm_180 => ?_)
      refine pg_chk ?_
      exact pg_ret hm_180
  · refine pg_bd ((pg_f_X11_setTo (by decide) hm)) (fun r_143 m_143 hm_143 => ?_)
    refine pg_ite ?_ ?_
    · refine pg_chk ?_
      exact pg_ret hm_143
    · refine pg_bd ((pg_f_X4_forget hm_143)) (fun _ m_180 hm_180 => ?_)
      refine pg_chk ?_
      exact pg_ret hm_180
  · refine pg_bd ((pg_f_X11_setTo (by decide) hm)) (fun r_163 m_163 hm_163 => ?_)
    refine pg_ite ?_ ?_
    · refine pg_chk ?_
      exact pg_ret hm_163
    · refine pg_bd ((pg_f_X4_forget hm_163)) (fun _ m_180 hm_180 => ?_)
      refine pg_chk ?_
      exact pg_ret hm_180
  · refine pg_ite ?_ ?_
    · exact pg_ret hm
    · refine pg_bd ((pg_f_X4_forget hm)) (fun _ m_180 hm_180 => ?_)
      exact pg_ret hm_180
theorem pg_f_X11_perform {m0 : Mem} {N : Nat} {a1 : Int32} {m : Mem}   (hm : Gh m0 m) : PsG m0 (f_X11_perform N a1 m) := by
  unfold f_X11_perform
  refine pg_bd ((pg_f_X9_has (by decide) hm)) (fun r_8 m_8 hm_8 => ?_)
  refine pg_ite ?_ ?_
  · exact pg_ret hm_8
  · refine pg_bd ((pg_f_X1_hour hm_8)) (fun r_21 m_21 hm_21 => ?_)
    refine pg_bd ((pg_f_X9_at (by decide) hm_21)) (fun r_35 m_35 hm_35 => ?_)
    refine pg_bnd (fun a2_40 => ?_)
    refine pg_ite ?_ ?_
    · refine pg_bd ((pg_f_X4_keep hm_35)) (fun _ m_58 hm_58 => ?_)
      refine pg_bd ((pg_f_X8_doWithAgains hm_58)) (fun r_66 m_66 hm_66 => ?_)
      exact pg_ret hm_66
    · exact pg_ret hm_35
theorem pg_f_X11_pay {m0 : Mem} {N : Nat} {a1 : Int32} {a2 : Int32} {m : Mem}   (hm : Gh m0 m) : PsG m0 (f_X11_pay N a1 a2 m) := by
  unfold f_X11_pay
  refine pg_bd ((pg_f_X9_has (by decide) hm)) (fun r_8 m_8 hm_8 => ?_)
  refine pg_ite ?_ ?_
  · exact pg_ret hm_8
  · refine pg_bd ((pg_f_X11_within hm_8)) (fun r_18 m_18 hm_18 => ?_)
    refine pg_ite ?_ ?_
    · exact pg_ret hm_18
    · refine pg_bd ((pg_f_X4_keep hm_18)) (fun _ m_34 hm_34 => ?_)
      refine pg_bd ((pg_f_X9_at (by decide) hm_34)) (fun r_57 m_57 hm_57 => ?_)
      refine pg_bd ((pg_f_X9_put (by decide) hm_57)) (fun _ m_65 hm_65 => ?_)
      refine pg_bd ((pg_f_X1_hour hm_65)) (fun r_78 m_78 hm_78 => ?_)
      refine pg_bd ((pg_f_X1_setHour hm_78)) (fun _ m_83 hm_83 => ?_)
      refine pg_bd ((pg_f_X1_note hm_83)) (fun _ m_93 hm_93 => ?_)
      exact pg_ret hm_93
theorem pg_f_X11_turn_J9 {m0 : Mem} {N : Nat} {a1 : Int32} {a2 : Int32} {a3 : Int32} {a4 : Int32} {t0_9 : Int32} {m : Mem}   (hm : Gh m0 m) : PsG m0 (f_X11_turn_J9 N a1 a2 a3 a4 t0_9 m) := by
  unfold f_X11_turn_J9
  refine pg_bd ((pg_f_X9_has (by decide) hm)) (fun r_19 m_19 hm_19 => ?_)
  refine pg_ite ?_ ?_
  · exact pg_ret hm_19
  · refine pg_bd ((pg_f_X9_at (by decide) hm_19)) (fun r_34 m_34 hm_34 => ?_)
    refine pg_ite ?_ ?_
    · exact pg_ret hm_34
    · refine pg_bd ((pg_f_X4_keep hm_34)) (fun _ m_52 hm_52 => ?_)
      refine pg_bd ((pg_f_X9_put (by decide) hm_52)) (fun _ m_66 hm_66 => ?_)
      refine pg_bd ((pg_f_X1_note hm_66)) (fun _ m_78 hm_78 => ?_)
      exact pg_ret hm_78
theorem pg_f_X11_turn {m0 : Mem} {N : Nat} {a1 : Int32} {a2 : Int32} {a3 : Int32} {a4 : Int32} {m : Mem}   (hm : Gh m0 m) : PsG m0 (f_X11_turn N a1 a2 a3 a4 m) := by
  unfold f_X11_turn
  refine pg_ite ?_ ?_
  · exact (pg_f_X11_turn_J9 hm)
  · exact (pg_f_X11_turn_J9 hm)
theorem pg_f_X11_glove {m0 : Mem} {N : Nat} {a1 : Int32} {a2 : Int32} {m : Mem}   (hm : Gh m0 m) : PsG m0 (f_X11_glove N a1 a2 m) := by
  unfold f_X11_glove
  refine pg_bd ((pg_f_X11_turn hm)) (fun r_5 m_5 hm_5 => ?_)
  refine pg_chk ?_
  exact pg_ret hm_5
theorem pg_f_X11_let {m0 : Mem} {N : Nat} {a1 : Int32} {a2 : Int32} {m : Mem}   (hm : Gh m0 m) : PsG m0 (f_X11_let N a1 a2 m) := by
  unfold f_X11_let
  refine pg_bd ((pg_f_X11_turn hm)) (fun r_5 m_5 hm_5 => ?_)
  refine pg_chk ?_
  exact pg_ret hm_5
theorem pg_f_X11_evenings_L32 {m0 : Mem} {N : Nat} {a1 : Int32} {X : Int32 → Int32 → Mem → Ans} {s2_32 : Int32} {s3_32 : Int32} {m : Mem}  (hX : ∀ (q0 : Int32) (q1 : Int32) (m : Mem), Gh m0 m → PsG m0 (X q0 q1 m)) (hm : Gh m0 m) : PsG m0 (f_X11_evenings_L32 N a1 X s2_32 s3_32 m) := by
  unfold f_X11_evenings_L32
  refine pg_ite ?_ ?_
  · exact pg_ret hm
  · refine pg_bd ((pg_f_X4_keep hm)) (fun _ m_45 hm_45 => ?_)
    refine pg_bd ((pg_f_X8_spendEvening hm_45)) (fun r_53 m_53 hm_53 => ?_)
    refine pg_bnd (fun a2_57 => ?_)
    exact hX a2_57 (s3_32 + 1) m_53 hm_53
theorem pg_f_X11_evenings {m0 : Mem} {N : Nat} {a1 : Int32} {m : Mem}   (hm : Gh m0 m) : PsG m0 (f_X11_evenings N a1 m) := by
  unfold f_X11_evenings
  refine pg_bd ((pg_f_X11_within hm)) (fun r_4 m_4 hm_4 => ?_)
  refine pg_ite ?_ ?_
  · exact pg_ret hm_4
  · refine pg_bd ((pg_f_X1_hour hm_4)) (fun r_15 m_15 hm_15 => ?_)
    refine pg_ite ?_ ?_
    · exact pg_it2 (fun Y hY y0 y1 m1 hm1 => (pg_f_X11_evenings_L32 hY hm1)) hm_15
    · exact pg_ret hm_15
theorem pg_f_X11_feed {m0 : Mem} {N : Nat} {a1 : Int32} {a2 : Int32} {a3 : Int32} {a4 : Int32} {a5 : Int32} {m : Mem}   (hm : Gh m0 m) : PsG m0 (f_X11_feed N a1 a2 a3 a4 a5 m) := by
  unfold f_X11_feed
  refine pg_bd ((pg_f_X10_hasRoom hm)) (fun r_6 m_6 hm_6 => ?_)
  refine pg_ite ?_ ?_
  · exact pg_ret hm_6
  · refine pg_bd ((pg_f_X10_append hm_6)) (fun _ m_19 hm_19 => ?_)
    refine pg_bd ((pg_f_X10_append hm_19)) (fun _ m_27 hm_27 => ?_)
    refine pg_bd ((pg_f_X10_append hm_27)) (fun _ m_35 hm_35 => ?_)
    refine pg_bd ((pg_f_X10_append hm_35)) (fun _ m_44 hm_44 => ?_)
    refine pg_bd ((pg_f_X10_append hm_44)) (fun _ m_53 hm_53 => ?_)
    exact pg_ret hm_53
theorem pg_f_X11_end {m0 : Mem} {N : Nat} {a1 : Int32} {m : Mem}   (hm : Gh m0 m) : PsG m0 (f_X11_end N a1 m) := by
  unfold f_X11_end
  refine pg_bd ((pg_f_X11_within hm)) (fun r_9 m_9 hm_9 => ?_)
  refine pg_ite ?_ ?_
  · exact pg_ret hm_9
  · refine pg_set hm_9 (by decide) (fun m_22 hm_22 => ?_)
    exact pg_ret hm_22
theorem pg_f_X11_text {m0 : Mem} {N : Nat} {a1 : Int32} {m : Mem}   (hm : Gh m0 m) : PsG m0 (f_X11_text N a1 m) := by
  unfold f_X11_text
  refine pg_bd ((pg_f_X6_read hm)) (fun _ m_25 hm_25 => ?_)
  refine pg_set hm_25 (by decide) (fun m_33 hm_33 => ?_)
  refine pg_bd ((pg_f_X11_within hm_33)) (fun r_39 m_39 hm_39 => ?_)
  refine pg_ite ?_ ?_
  · exact pg_ret hm_39
  · refine pg_ite ?_ ?_
    · refine pg_bd ((pg_f_X1_takeText hm_39)) (fun _ m_76 hm_76 => ?_)
      refine pg_ite ?_ ?_
      · exact pg_ret hm_76
      · refine pg_bd ((pg_f_X4_forget hm_76)) (fun _ m_87 hm_87 => ?_)
        exact pg_ret hm_87
    · exact pg_ret hm_39
theorem pg_f_X11_of {m0 : Mem} {N : Nat} {a1 : Int32} {a2 : Int32} {m : Mem}   (hm : Gh m0 m) : PsG m0 (f_X11_of N a1 a2 m) := by
  unfold f_X11_of
  refine pg_bd ((pg_f_X9_has (by decide) hm)) (fun r_8 m_8 hm_8 => ?_)
  refine pg_ite ?_ ?_
  · exact pg_ret hm_8
  · refine pg_ite ?_ ?_
    · refine pg_bd ((pg_f_X9_has (by decide) hm_8)) (fun r_46 m_46 hm_46 => ?_)
      refine pg_ite ?_ ?_
      · exact pg_ret hm_46
      · refine pg_bd ((pg_f_X2_clap hm_46)) (fun r_62 m_62 hm_62 => ?_)
        exact pg_ret hm_62
    · refine pg_bd ((pg_f_X9_at (by decide) hm_8)) (fun r_31 m_31 hm_31 => ?_)
      exact pg_ret hm_31
theorem pg_f_X11_deedOf {m0 : Mem} {N : Nat} {a1 : Int32} {a2 : Int32} {m : Mem}   (hm : Gh m0 m) : PsG m0 (f_X11_deedOf N a1 a2 m) := by
  unfold f_X11_deedOf
  refine pg_bd ((pg_f_X9_has (by decide) hm)) (fun r_8 m_8 hm_8 => ?_)
  refine pg_ite ?_ ?_
  · exact pg_ret hm_8
  · refine pg_ite ?_ ?_
    · refine pg_bd ((pg_f_X2_ofDeed hm_8)) (fun r_29 m_29 hm_29 => ?_)
      exact pg_ret hm_29
    · refine pg_ite ?_ ?_
      · refine pg_bd ((pg_f_X2_ofDeed hm_8)) (fun r_47 m_47 hm_47 => ?_)
        exact pg_ret hm_47
      · refine pg_bd ((pg_f_X9_at (by decide) hm_8)) (fun r_62 m_62 hm_62 => ?_)
        exact pg_ret hm_62
theorem pg_f_X11_statute {m0 : Mem} {N : Nat} {a1 : Int32} {m : Mem}   (hm : Gh m0 m) : PsG m0 (f_X11_statute N a1 m) := by
  unfold f_X11_statute
  refine pg_ite ?_ ?_
  · refine pg_bd ((pg_f_X1_handsDue hm)) (fun r_8 m_8 hm_8 => ?_)
    exact pg_ret hm_8
  · refine pg_ite ?_ ?_
    · refine pg_bd ((pg_f_X1_mostAgains hm)) (fun r_21 m_21 hm_21 => ?_)
      exact pg_ret hm_21
    · refine pg_ite ?_ ?_
      · refine pg_bd ((pg_f_X1_endMinute hm)) (fun r_34 m_34 hm_34 => ?_)
        exact pg_ret hm_34
      · exact pg_ret hm
theorem pg_f_X11_book {m0 : Mem} {N : Nat} {a1 : Int32} {a2 : Int32} {m : Mem}   (hm : Gh m0 m) : PsG m0 (f_X11_book N a1 a2 m) := by
  unfold f_X11_book
  refine pg_bd ((pg_f_X9_at (by decide) hm)) (fun r_9 m_9 hm_9 => ?_)
  exact pg_ret hm_9
theorem pg_f_X11_look_J22 {m0 : Mem} {N : Nat} {a1 : Int32} {m : Mem}   (hm : Gh m0 m) : PsG m0 (f_X11_look_J22 N a1 m) := by
  unfold f_X11_look_J22
  refine pg_swt ⟨?_, ?_, ?_, ?_, ?_, ?_, ?_, ?_, ?_, ?_, ?_, ?_, ?_, ?_, ?_, ?_, ?_, trivial⟩ ?_
  · exact pg_ret hm
  · exact pg_ret hm
  · exact pg_ret hm
  · exact pg_ret hm
  · exact pg_ret hm
  · exact pg_ret hm
  · exact pg_ret hm
  · exact pg_ret hm
  · refine pg_bd ((pg_f_X1_those hm)) (fun r_131 m_131 hm_131 => ?_)
    exact pg_ret hm_131
  · exact pg_ret hm
  · refine pg_bd ((pg_f_X1_hour hm)) (fun r_152 m_152 hm_152 => ?_)
    exact pg_ret hm_152
  · exact pg_ret hm
  · exact pg_ret hm
  · exact pg_ret hm
  · exact pg_ret hm
  · exact pg_ret hm
  · exact pg_ret hm
  · exact pg_ret hm
theorem pg_f_X11_look {m0 : Mem} {N : Nat} {a1 : Int32} {m : Mem}   (hm : Gh m0 m) : PsG m0 (f_X11_look N a1 m) := by
  unfold f_X11_look
  refine pg_ite ?_ ?_
  · exact (pg_f_X11_look_J22 hm)
  · refine pg_ite ?_ ?_
    · exact (pg_f_X11_look_J22 hm)
    · refine pg_bd ((pg_f_X1_hour hm)) (fun r_18 m_18 hm_18 => ?_)
      exact pg_ret hm_18
theorem pg_f_X11_undo {m0 : Mem} {N : Nat} {m : Mem}   (hm : Gh m0 m) : PsG m0 (f_X11_undo N m) := by
  unfold f_X11_undo
  refine pg_bd ((pg_f_X4_back hm)) (fun r_8 m_8 hm_8 => ?_)
  refine pg_chk ?_
  exact pg_ret hm_8
