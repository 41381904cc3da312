/-! the model's functions leave the class's cells alone -/
def Ag (m0 m : Mem) : Prop := ∀ k, k < 123 → m k = m0 k
def PsA (m0 : Mem) (x : Ans) : Prop := ∀ (v : Int32) (m : Mem), x = some (v, m) → Ag m0 m
theorem Ag.rf (m : Mem) : Ag m m := fun _ _ => rfl
section PRES
variable {m0 m : Mem} {x y : Ans} {c : Prop}
theorem ps_none : PsA m0 none := fun _ _ h => by cases h
theorem ps_ret {v : Int32} (h : Ag m0 m) : PsA m0 (some (v, m)) := fun _ _ e => by cases e; exact h
theorem ps_ite {hd : Decidable c} (hx : PsA m0 x) (hy : PsA m0 y) : PsA m0 (@ite _ c hd x y) := by
  by_cases q : c
  · rw [if_pos q]; exact hx
  · rw [if_neg q]; exact hy
theorem ps_chk {b : Bool} (h : PsA m0 x) : PsA m0 (chk b x) := by
  cases b
  · exact ps_none
  · exact h
theorem ps_bnd {α : Type} {e : α} {f : α → Ans} (h : ∀ a, PsA m0 (f a)) : PsA m0 (bnd e f) := h e
theorem ps_set {k j : Nat} {v : Int32} {f : Mem → Ans} (h : Ag m0 m) (hk : 123 ≤ k) (hf : ∀ m', Ag m0 m' → PsA m0 (f m')) : PsA m0 (bnd (mset m k j v) f) := hf _ (fun i hi => (mset_ne (by omega)).trans (h i hi))
theorem ps_bd {f : Int32 → Mem → Ans} (h : PsA m0 x) (hf : ∀ v m, Ag m0 m → PsA m0 (f v m)) : PsA m0 (bd x f) := by
  intro v m e
  cases hx : x with
  | none => rw [hx] at e; cases e
  | some q =>
    rw [hx] at e
    exact hf q.1 q.2 (h q.1 q.2 hx) v m e
def PsL (m0 : Mem) : List Ans → Prop
  | [] => True
  | x :: xs => PsA m0 x ∧ PsL m0 xs
theorem ps_swt {i : Int} {xs : List Ans} (h : PsL m0 xs) (hx : PsA m0 x) : PsA m0 (swt i xs x) := by
  unfold swt
  split
  · exact hx
  · generalize i.toNat = k
    induction xs generalizing k with
    | nil => exact hx
    | cons z xs ih =>
      cases k with
      | zero => exact h.1
      | succ k => exact ih h.2 k
theorem ps_it0 {F : (Mem → Ans) → Mem → Ans} (hF : ∀ Y, (∀ m, Ag m0 m → PsA m0 (Y m)) → ∀ m, Ag m0 m → PsA m0 (F Y m)) : ∀ {n : Nat} {m : Mem}, Ag m0 m → PsA m0 (it0 F n m)
  | 0, _, _ => ps_none
  | n + 1, m, h => hF _ (fun m h => ps_it0 hF h) m h
theorem ps_it1 {α : Type} {F : (α → Mem → Ans) → α → Mem → Ans} (hF : ∀ Y, (∀ a m, Ag m0 m → PsA m0 (Y a m)) → ∀ a m, Ag m0 m → PsA m0 (F Y a m)) : ∀ {n : Nat} {a : α} {m : Mem}, Ag m0 m → PsA m0 (it1 F n a m)
  | 0, _, _, _ => ps_none
  | n + 1, a, m, h => hF _ (fun a m h => ps_it1 hF h) a m h
theorem ps_it2 {α β : Type} {F : (α → β → Mem → Ans) → α → β → Mem → Ans} (hF : ∀ Y, (∀ a b m, Ag m0 m → PsA m0 (Y a b m)) → ∀ a b m, Ag m0 m → PsA m0 (F Y a b m)) : ∀ {n : Nat} {a : α} {b : β} {m : Mem}, Ag m0 m → PsA m0 (it2 F n a b m)
  | 0, _, _, _, _ => ps_none
  | n + 1, a, b, m, h => hF _ (fun a b m h => ps_it2 hF h) a b m h
theorem ps_it3 {α β γ : Type} {F : (α → β → γ → Mem → Ans) → α → β → γ → Mem → Ans} (hF : ∀ Y, (∀ a b c m, Ag m0 m → PsA m0 (Y a b c m)) → ∀ a b c m, Ag m0 m → PsA m0 (F Y a b c m)) : ∀ {n : Nat} {a : α} {b : β} {c : γ} {m : Mem}, Ag m0 m → PsA m0 (it3 F n a b c m)
  | 0, _, _, _, _, _ => ps_none
  | n + 1, a, b, c, m, h => hF _ (fun a b c m h => ps_it3 hF h) a b c m h
theorem ps_it4 {α β γ δ : Type} {F : (α → β → γ → δ → Mem → Ans) → α → β → γ → δ → Mem → Ans} (hF : ∀ Y, (∀ a b c d m, Ag m0 m → PsA m0 (Y a b c d m)) → ∀ a b c d m, Ag m0 m → PsA m0 (F Y a b c d m)) : ∀ {n : Nat} {a : α} {b : β} {c : γ} {d : δ} {m : Mem}, Ag m0 m → PsA m0 (it4 F n a b c d m)
  | 0, _, _, _, _, _, _ => ps_none
  | n + 1, a, b, c, d, m, h => hF _ (fun a b c d m h => ps_it4 hF h) a b c d m h
end PRES
theorem ps_f_J0_coder_7d493 {m0 : Mem} {N : Nat} {this : Nat} {m : Mem}  (hm : Ag m0 m) : PsA m0 (f_J0_coder_7d493 N this m) := by
  unfold f_J0_coder_7d493
  refine ps_ite ?_ ?_
  · exact ps_ret hm
  · exact ps_ret hm
theorem ps_f_J0_length_8abf5 {m0 : Mem} {N : Nat} {this : Nat} {m : Mem}  (hm : Ag m0 m) : PsA m0 (f_J0_length_8abf5 N this m) := by
  unfold f_J0_length_8abf5
  refine ps_bd ((ps_f_J0_coder_7d493 hm)) (fun r_6 m_6 hm_6 => ?_)
  exact ps_ret hm_6
theorem ps_f_J0_isLatin1_aae02 {m0 : Mem} {N : Nat} {this : Nat} {m : Mem}  (hm : Ag m0 m) : PsA m0 (f_J0_isLatin1_aae02 N this m) := by
  unfold f_J0_isLatin1_aae02
  refine ps_ite ?_ ?_
  · exact ps_ret hm
  · refine ps_ite ?_ ?_
    · exact ps_ret hm
    · exact ps_ret hm
theorem ps_f_J3_checkIndex_8e157 {m0 : Mem} {N : Nat} {a0 : Int32} {a1 : Int32} {m : Mem}  (hm : Ag m0 m) : PsA m0 (f_J3_checkIndex_8e157 N a0 a1 m) := by
  unfold f_J3_checkIndex_8e157
  refine ps_ite ?_ ?_
  · exact ps_none
  · refine ps_ite ?_ ?_
    · exact ps_ret hm
    · exact ps_none
theorem ps_f_J0_checkIndex_df160 {m0 : Mem} {N : Nat} {a0 : Int32} {a1 : Int32} {m : Mem}  (hm : Ag m0 m) : PsA m0 (f_J0_checkIndex_df160 N a0 a1 m) := by
  unfold f_J0_checkIndex_df160
  refine ps_bd ((ps_f_J3_checkIndex_8e157 hm)) (fun r_5 m_5 hm_5 => ?_)
  exact ps_ret hm_5
theorem ps_f_J1_charAt_3b067 {m0 : Mem} {N : Nat} {a0 : Nat} {a1 : Int32} {m : Mem}  (hm : Ag m0 m) : PsA m0 (f_J1_charAt_3b067 N a0 a1 m) := by
  unfold f_J1_charAt_3b067
  refine ps_bd ((ps_f_J0_checkIndex_df160 hm)) (fun _ m_3 hm_3 => ?_)
  refine ps_chk ?_
  refine ps_chk ?_
  exact ps_ret hm_3
theorem ps_f_J0_charAt_5068e {m0 : Mem} {N : Nat} {this : Nat} {a1 : Int32} {m : Mem}  (hm : Ag m0 m) : PsA m0 (f_J0_charAt_5068e N this a1 m) := by
  unfold f_J0_charAt_5068e
  refine ps_bd ((ps_f_J0_isLatin1_aae02 hm)) (fun r_1 m_1 hm_1 => ?_)
  refine ps_ite ?_ ?_
  · exact ps_none
  · refine ps_bd ((ps_f_J1_charAt_3b067 hm_1)) (fun r_12 m_12 hm_12 => ?_)
    refine ps_chk ?_
    exact ps_ret hm_12
theorem ps_f_X12_isIn {m0 : Mem} {N : Nat} {a0 : Int32} {a1 : Int32} {a2 : Int32} {m : Mem}  (hm : Ag m0 m) : PsA m0 (f_X12_isIn N a0 a1 a2 m) := by
  unfold f_X12_isIn
  refine ps_ite ?_ ?_
  · exact ps_ret hm
  · refine ps_ite ?_ ?_
    · exact ps_ret hm
    · exact ps_ret hm
theorem ps_f_X12_lesser {m0 : Mem} {N : Nat} {a0 : Int32} {a1 : Int32} {m : Mem}  (hm : Ag m0 m) : PsA m0 (f_X12_lesser N a0 a1 m) := by
  unfold f_X12_lesser
  refine ps_ite ?_ ?_
  · exact ps_ret hm
  · exact ps_ret hm
theorem ps_f_X12_greater {m0 : Mem} {N : Nat} {a0 : Int32} {a1 : Int32} {m : Mem}  (hm : Ag m0 m) : PsA m0 (f_X12_greater N a0 a1 m) := by
  unfold f_X12_greater
  refine ps_ite ?_ ?_
  · exact ps_ret hm
  · exact ps_ret hm
theorem ps_f_X12_isHearer {m0 : Mem} {N : Nat} {a1 : Int32} {m : Mem}  (hm : Ag m0 m) : PsA m0 (f_X12_isHearer N a1 m) := by
  unfold f_X12_isHearer
  refine ps_bd ((ps_f_X12_isIn hm)) (fun r_11 m_11 hm_11 => ?_)
  refine ps_chk ?_
  exact ps_ret hm_11
theorem ps_f_X12_isDeed {m0 : Mem} {N : Nat} {a1 : Int32} {m : Mem}  (hm : Ag m0 m) : PsA m0 (f_X12_isDeed N a1 m) := by
  unfold f_X12_isDeed
  refine ps_bd ((ps_f_X12_isIn hm)) (fun r_11 m_11 hm_11 => ?_)
  refine ps_chk ?_
  exact ps_ret hm_11
theorem ps_f_X12_isThere {m0 : Mem} {N : Nat} {a1 : Int32} {m : Mem}  (hm : Ag m0 m) : PsA m0 (f_X12_isThere N a1 m) := by
  unfold f_X12_isThere
  refine ps_ite ?_ ?_
  · exact ps_ret hm
  · exact ps_ret hm
theorem ps_f_X12_isGloved {m0 : Mem} {N : Nat} {a1 : Int32} {m : Mem}  (hm : Ag m0 m) : PsA m0 (f_X12_isGloved N a1 m) := by
  unfold f_X12_isGloved
  refine ps_ite ?_ ?_
  · exact ps_ret hm
  · exact ps_ret hm
theorem ps_f_X12_count_L4 {m0 : Mem} {N : Nat} {a0 : Int32} {X : Int32 → Int32 → Mem → Ans} {s1_4 : Int32} {s2_4 : Int32} {m : Mem} (hX : ∀ (q0 : Int32) (q1 : Int32) (m : Mem), Ag m0 m → PsA m0 (X q0 q1 m)) (hm : Ag m0 m) : PsA m0 (f_X12_count_L4 N a0 X s1_4 s2_4 m) := by
  unfold f_X12_count_L4
  refine ps_ite ?_ ?_
  · exact ps_ret hm
  · refine ps_bnd (fun a1_17 => ?_)
    exact hX a1_17 (s2_4 + 1) m hm
theorem ps_f_X12_count {m0 : Mem} {N : Nat} {a0 : Int32} {m : Mem}  (hm : Ag m0 m) : PsA m0 (f_X12_count N a0 m) := by
  unfold f_X12_count
  exact ps_it2 (fun Y hY y0 y1 m1 hm1 => (ps_f_X12_count_L4 hY hm1)) hm
theorem ps_f_X12_forgets {m0 : Mem} {N : Nat} {m : Mem}  (hm : Ag m0 m) : PsA m0 (f_X12_forgets N m) := by
  unfold f_X12_forgets
  refine ps_set hm (by decide) (fun m_2 hm_2 => ?_)
  exact ps_ret hm_2
theorem ps_f_X12_state {m0 : Mem} {N : Nat} {a1 : Int32} {m : Mem}  (hm : Ag m0 m) : PsA m0 (f_X12_state N a1 m) := by
  unfold f_X12_state
  refine ps_bnd (fun a2_6 => ?_)
  refine ps_set hm (by decide) (fun m_13 hm_13 => ?_)
  refine ps_bd ((ps_f_X12_forgets hm_13)) (fun _ m_15 hm_15 => ?_)
  exact ps_ret hm_15
theorem ps_f_X12_draw {m0 : Mem} {N : Nat} {a1 : Int32} {m : Mem}  (hm : Ag m0 m) : PsA m0 (f_X12_draw N a1 m) := by
  unfold f_X12_draw
  refine ps_set hm (by decide) (fun m_17 hm_17 => ?_)
  refine ps_chk ?_
  exact ps_ret hm_17
theorem ps_f_X12_hearer {m0 : Mem} {N : Nat} {a1 : Int32} {a2 : Int32} {a3 : Int32} {m : Mem}  (hm : Ag m0 m) : PsA m0 (f_X12_hearer N a1 a2 a3 m) := by
  unfold f_X12_hearer
  refine ps_bd ((ps_f_X12_isIn hm)) (fun r_4 m_4 hm_4 => ?_)
  refine ps_ite ?_ ?_
  · exact ps_ret hm_4
  · refine ps_bd ((ps_f_X12_isIn hm_4)) (fun r_14 m_14 hm_14 => ?_)
    refine ps_ite ?_ ?_
    · exact ps_ret hm_14
    · refine ps_bd ((ps_f_X12_isIn hm_14)) (fun r_24 m_24 hm_24 => ?_)
      refine ps_ite ?_ ?_
      · exact ps_ret hm_24
      · refine ps_ite ?_ ?_
        · exact ps_ret hm_24
        · refine ps_bnd (fun a4_51 => ?_)
          refine ps_chk ?_
          refine ps_set hm_24 (by decide) (fun m_63 hm_63 => ?_)
          refine ps_chk ?_
          refine ps_set hm_63 (by decide) (fun m_74 hm_74 => ?_)
          refine ps_chk ?_
          refine ps_set hm_74 (by decide) (fun m_85 hm_85 => ?_)
          refine ps_chk ?_
          refine ps_set hm_85 (by decide) (fun m_96 hm_96 => ?_)
          refine ps_set hm_96 (by decide) (fun m_110 hm_110 => ?_)
          refine ps_set hm_110 (by decide) (fun m_126 hm_126 => ?_)
          refine ps_set hm_126 (by decide) (fun m_137 hm_137 => ?_)
          refine ps_bd ((ps_f_X12_forgets hm_137)) (fun _ m_139 hm_139 => ?_)
          exact ps_ret hm_139
theorem ps_f_X12_deed {m0 : Mem} {N : Nat} {a1 : Int32} {a2 : Int32} {a3 : Int32} {m : Mem}  (hm : Ag m0 m) : PsA m0 (f_X12_deed N a1 a2 a3 m) := by
  unfold f_X12_deed
  refine ps_bd ((ps_f_X12_isIn hm)) (fun r_4 m_4 hm_4 => ?_)
  refine ps_ite ?_ ?_
  · exact ps_ret hm_4
  · refine ps_bd ((ps_f_X12_isIn hm_4)) (fun r_14 m_14 hm_14 => ?_)
    refine ps_ite ?_ ?_
    · exact ps_ret hm_14
    · refine ps_bd ((ps_f_X12_isIn hm_14)) (fun r_24 m_24 hm_24 => ?_)
      refine ps_ite ?_ ?_
      · exact ps_ret hm_24
      · refine ps_ite ?_ ?_
        · exact ps_ret hm_24
        · refine ps_bnd (fun a4_51 => ?_)
          refine ps_chk ?_
          refine ps_set hm_24 (by decide) (fun m_63 hm_63 => ?_)
          refine ps_chk ?_
          refine ps_set hm_63 (by decide) (fun m_74 hm_74 => ?_)
          refine ps_chk ?_
          refine ps_set hm_74 (by decide) (fun m_85 hm_85 => ?_)
          refine ps_chk ?_
          refine ps_set hm_85 (by decide) (fun m_96 hm_96 => ?_)
          refine ps_chk ?_
          refine ps_set hm_96 (by decide) (fun m_107 hm_107 => ?_)
          refine ps_set hm_107 (by decide) (fun m_118 hm_118 => ?_)
          refine ps_bd ((ps_f_X12_forgets hm_118)) (fun _ m_120 hm_120 => ?_)
          exact ps_ret hm_120
theorem ps_f_X12_canSet {m0 : Mem} {N : Nat} {a1 : Int32} {a2 : Int32} {a3 : Int32} {m : Mem}  (hm : Ag m0 m) : PsA m0 (f_X12_canSet N a1 a2 a3 m) := by
  unfold f_X12_canSet
  refine ps_ite ?_ ?_
  · refine ps_bd ((ps_f_X12_isIn hm)) (fun r_9 m_9 hm_9 => ?_)
    refine ps_chk ?_
    exact ps_ret hm_9
  · refine ps_bd ((ps_f_X12_isIn hm)) (fun r_16 m_16 hm_16 => ?_)
    refine ps_ite ?_ ?_
    · refine ps_bd ((ps_f_X12_isDeed hm_16)) (fun r_48 m_48 hm_48 => ?_)
      refine ps_ite ?_ ?_
      · exact ps_ret hm_48
      · refine ps_ite ?_ ?_
        · refine ps_bd ((ps_f_X12_isIn hm_48)) (fun r_63 m_63 hm_63 => ?_)
          refine ps_ite ?_ ?_
          · exact ps_ret hm_63
          · exact ps_ret hm_63
        · refine ps_ite ?_ ?_
          · refine ps_bd ((ps_f_X12_isIn hm_48)) (fun r_81 m_81 hm_81 => ?_)
            refine ps_ite ?_ ?_
            · exact ps_ret hm_81
            · exact ps_ret hm_81
          · exact ps_ret hm_48
    · refine ps_bd ((ps_f_X12_isHearer hm_16)) (fun r_24 m_24 hm_24 => ?_)
      refine ps_ite ?_ ?_
      · exact ps_ret hm_24
      · refine ps_bd ((ps_f_X12_isIn hm_24)) (fun r_34 m_34 hm_34 => ?_)
        refine ps_ite ?_ ?_
        · exact ps_ret hm_34
        · exact ps_ret hm_34
theorem ps_f_X12_set {m0 : Mem} {N : Nat} {a1 : Int32} {a2 : Int32} {a3 : Int32} {m : Mem}  (hm : Ag m0 m) : PsA m0 (f_X12_set N a1 a2 a3 m) := by
  unfold f_X12_set
  refine ps_bd ((ps_f_X12_canSet hm)) (fun r_4 m_4 hm_4 => ?_)
  refine ps_ite ?_ ?_
  · exact ps_ret hm_4
  · refine ps_ite ?_ ?_
    · refine ps_set hm_4 (by decide) (fun m_55 hm_55 => ?_)
      refine ps_bd ((ps_f_X12_forgets hm_55)) (fun _ m_103 hm_103 => ?_)
      exact ps_ret hm_103
    · refine ps_ite ?_ ?_
      · refine ps_chk ?_
        refine ps_set hm_4 (by decide) (fun m_68 hm_68 => ?_)
        refine ps_bd ((ps_f_X12_forgets hm_68)) (fun _ m_103 hm_103 => ?_)
        exact ps_ret hm_103
      · refine ps_ite ?_ ?_
        · refine ps_chk ?_
          refine ps_set hm_4 (by decide) (fun m_81 hm_81 => ?_)
          refine ps_bd ((ps_f_X12_forgets hm_81)) (fun _ m_103 hm_103 => ?_)
          exact ps_ret hm_103
        · refine ps_chk ?_
          refine ps_set hm_4 (by decide) (fun m_101 hm_101 => ?_)
          refine ps_bd ((ps_f_X12_forgets hm_101)) (fun _ m_103 hm_103 => ?_)
          exact ps_ret hm_103
theorem ps_f_X12_feed_J71 {m0 : Mem} {N : Nat} {a1 : Int32} {a2 : Int32} {a3 : Int32} {a4 : Int32} {a5 : Int32} {X : Int32 → Mem → Ans} {s6_71 : Int32} {t0_71 : Int32} {m : Mem} (hX : ∀ (q0 : Int32) (m : Mem), Ag m0 m → PsA m0 (X q0 m)) (hm : Ag m0 m) : PsA m0 (f_X12_feed_J71 N a1 a2 a3 a4 a5 X s6_71 t0_71 m) := by
  unfold f_X12_feed_J71
  refine ps_chk ?_
  refine ps_set hm (by decide) (fun m_98 hm_98 => ?_)
  refine ps_set hm_98 (by decide) (fun m_106 hm_106 => ?_)
  exact hX (s6_71 + 1) m_106 hm_106
theorem ps_f_X12_feed_L18 {m0 : Mem} {N : Nat} {a1 : Int32} {a2 : Int32} {a3 : Int32} {a4 : Int32} {a5 : Int32} {X : Int32 → Mem → Ans} {s6_18 : Int32} {m : Mem} (hX : ∀ (q0 : Int32) (m : Mem), Ag m0 m → PsA m0 (X q0 m)) (hm : Ag m0 m) : PsA m0 (f_X12_feed_L18 N a1 a2 a3 a4 a5 X s6_18 m) := by
  unfold f_X12_feed_L18
  refine ps_ite ?_ ?_
  · exact ps_ret hm
  · refine ps_ite ?_ ?_
    · refine ps_ite ?_ ?_
      · refine ps_ite ?_ ?_
        · refine ps_ite ?_ ?_
          · exact (ps_f_X12_feed_J71 hX hm)
          · exact (ps_f_X12_feed_J71 hX hm)
        · exact (ps_f_X12_feed_J71 hX hm)
      · exact (ps_f_X12_feed_J71 hX hm)
    · exact (ps_f_X12_feed_J71 hX hm)
theorem ps_f_X12_feed {m0 : Mem} {N : Nat} {a1 : Int32} {a2 : Int32} {a3 : Int32} {a4 : Int32} {a5 : Int32} {m : Mem}  (hm : Ag m0 m) : PsA m0 (f_X12_feed N a1 a2 a3 a4 a5 m) := by
  unfold f_X12_feed
  refine ps_ite ?_ ?_
  · exact ps_it1 (fun Y hY y0 m1 hm1 => (ps_f_X12_feed_L18 hY hm1)) hm
  · exact ps_ret hm
theorem ps_f_X12_end {m0 : Mem} {N : Nat} {a1 : Int32} {m : Mem}  (hm : Ag m0 m) : PsA m0 (f_X12_end N a1 m) := by
  unfold f_X12_end
  refine ps_bd ((ps_f_X12_isIn hm)) (fun r_6 m_6 hm_6 => ?_)
  refine ps_ite ?_ ?_
  · exact ps_ret hm_6
  · refine ps_set hm_6 (by decide) (fun m_16 hm_16 => ?_)
    exact ps_ret hm_16
theorem ps_f_X12_see {m0 : Mem} {N : Nat} {a1 : Int32} {m : Mem}  (hm : Ag m0 m) : PsA m0 (f_X12_see N a1 m) := by
  unfold f_X12_see
  refine ps_ite ?_ ?_
  · exact ps_ret hm
  · refine ps_chk ?_
    exact ps_ret hm
theorem ps_f_X12_isLetter {m0 : Mem} {N : Nat} {a0 : Int32} {m : Mem}  (hm : Ag m0 m) : PsA m0 (f_X12_isLetter N a0 m) := by
  unfold f_X12_isLetter
  refine ps_bd ((ps_f_X12_isIn hm)) (fun r_5 m_5 hm_5 => ?_)
  refine ps_ite ?_ ?_
  · refine ps_bd ((ps_f_X12_isIn hm_5)) (fun r_16 m_16 hm_16 => ?_)
    refine ps_ite ?_ ?_
    · exact ps_ret hm_16
    · exact ps_ret hm_16
  · exact ps_ret hm_5
theorem ps_f_X12_isDigit {m0 : Mem} {N : Nat} {a0 : Int32} {m : Mem}  (hm : Ag m0 m) : PsA m0 (f_X12_isDigit N a0 m) := by
  unfold f_X12_isDigit
  refine ps_bd ((ps_f_X12_isIn hm)) (fun r_5 m_5 hm_5 => ?_)
  refine ps_chk ?_
  exact ps_ret hm_5
theorem ps_f_X12_is_L24 {m0 : Mem} {N : Nat} {a1 : Nat} {X : Int32 → Int32 → Mem → Ans} {s2_24 : Int32} {s3_24 : Int32} {m : Mem} (hX : ∀ (q0 : Int32) (q1 : Int32) (m : Mem), Ag m0 m → PsA m0 (X q0 q1 m)) (hm : Ag m0 m) : PsA m0 (f_X12_is_L24 N a1 X s2_24 s3_24 m) := by
  unfold f_X12_is_L24
  refine ps_bd ((ps_f_J0_length_8abf5 hm)) (fun r_26 m_26 hm_26 => ?_)
  refine ps_ite ?_ ?_
  · refine ps_chk ?_
    exact ps_ret hm_26
  · refine ps_ite ?_ ?_
    · refine ps_chk ?_
      exact ps_ret hm_26
    · refine ps_chk ?_
      refine ps_bd ((ps_f_J0_charAt_5068e hm_26)) (fun r_49 m_49 hm_49 => ?_)
      refine ps_ite ?_ ?_
      · exact hX 1 (s3_24 + 1) m_49 hm_49
      · exact hX 0 (s3_24 + 1) m_49 hm_49
theorem ps_f_X12_is_J21 {m0 : Mem} {N : Nat} {a1 : Nat} {t0_21 : Int32} {m : Mem}  (hm : Ag m0 m) : PsA m0 (f_X12_is_J21 N a1 t0_21 m) := by
  unfold f_X12_is_J21
  exact ps_it2 (fun Y hY y0 y1 m1 hm1 => (ps_f_X12_is_L24 hY hm1)) hm
theorem ps_f_X12_is {m0 : Mem} {N : Nat} {a1 : Nat} {m : Mem}  (hm : Ag m0 m) : PsA m0 (f_X12_is N a1 m) := by
  unfold f_X12_is
  refine ps_bd ((ps_f_J0_length_8abf5 hm)) (fun r_10 m_10 hm_10 => ?_)
  refine ps_ite ?_ ?_
  · exact (ps_f_X12_is_J21 hm_10)
  · exact (ps_f_X12_is_J21 hm_10)
theorem ps_f_X12_asked {m0 : Mem} {N : Nat} {m : Mem}  (hm : Ag m0 m) : PsA m0 (f_X12_asked N m) := by
  unfold f_X12_asked
  refine ps_bd ((ps_f_X12_is hm)) (fun r_3 m_3 hm_3 => ?_)
  refine ps_ite ?_ ?_
  · refine ps_bd ((ps_f_X12_is hm_3)) (fun r_15 m_15 hm_15 => ?_)
    refine ps_ite ?_ ?_
    · refine ps_bd ((ps_f_X12_is hm_15)) (fun r_27 m_27 hm_27 => ?_)
      refine ps_ite ?_ ?_
      · refine ps_bd ((ps_f_X12_is hm_27)) (fun r_39 m_39 hm_39 => ?_)
        refine ps_ite ?_ ?_
        · refine ps_bd ((ps_f_X12_is hm_39)) (fun r_51 m_51 hm_51 => ?_)
          refine ps_ite ?_ ?_
          · refine ps_bd ((ps_f_X12_is hm_51)) (fun r_63 m_63 hm_63 => ?_)
            refine ps_ite ?_ ?_
            · refine ps_bd ((ps_f_X12_is hm_63)) (fun r_75 m_75 hm_75 => ?_)
              refine ps_ite ?_ ?_
              · refine ps_bd ((ps_f_X12_is hm_75)) (fun r_87 m_87 hm_87 => ?_)
                refine ps_ite ?_ ?_
                · refine ps_bd ((ps_f_X12_is hm_87)) (fun r_99 m_99 hm_99 => ?_)
                  refine ps_ite ?_ ?_
                  · refine ps_bd ((ps_f_X12_is hm_99)) (fun r_111 m_111 hm_111 => ?_)
                    refine ps_ite ?_ ?_
                    · exact ps_ret hm_111
                    · exact ps_ret hm_111
                  · exact ps_ret hm_99
                · exact ps_ret hm_87
              · exact ps_ret hm_75
            · exact ps_ret hm_63
          · exact ps_ret hm_51
        · exact ps_ret hm_39
      · exact ps_ret hm_27
    · exact ps_ret hm_15
  · exact ps_ret hm_3
theorem ps_f_X12_lawWord {m0 : Mem} {N : Nat} {m : Mem}  (hm : Ag m0 m) : PsA m0 (f_X12_lawWord N m) := by
  unfold f_X12_lawWord
  refine ps_bd ((ps_f_X12_is hm)) (fun r_3 m_3 hm_3 => ?_)
  refine ps_ite ?_ ?_
  · refine ps_bd ((ps_f_X12_is hm_3)) (fun r_14 m_14 hm_14 => ?_)
    refine ps_ite ?_ ?_
    · refine ps_bd ((ps_f_X12_is hm_14)) (fun r_25 m_25 hm_25 => ?_)
      refine ps_ite ?_ ?_
      · refine ps_bd ((ps_f_X12_is hm_25)) (fun r_36 m_36 hm_36 => ?_)
        refine ps_ite ?_ ?_
        · refine ps_bd ((ps_f_X12_is hm_36)) (fun r_48 m_48 hm_48 => ?_)
          refine ps_ite ?_ ?_
          · refine ps_bd ((ps_f_X12_is hm_48)) (fun r_60 m_60 hm_60 => ?_)
            refine ps_ite ?_ ?_
            · refine ps_bd ((ps_f_X12_is hm_60)) (fun r_72 m_72 hm_72 => ?_)
              refine ps_ite ?_ ?_
              · refine ps_bd ((ps_f_X12_asked hm_72)) (fun r_84 m_84 hm_84 => ?_)
                exact ps_ret hm_84
              · exact ps_ret hm_72
            · exact ps_ret hm_60
          · exact ps_ret hm_48
        · exact ps_ret hm_36
      · exact ps_ret hm_25
    · exact ps_ret hm_14
  · exact ps_ret hm_3
theorem ps_f_X12_statuteWord {m0 : Mem} {N : Nat} {m : Mem}  (hm : Ag m0 m) : PsA m0 (f_X12_statuteWord N m) := by
  unfold f_X12_statuteWord
  refine ps_bd ((ps_f_X12_is hm)) (fun r_3 m_3 hm_3 => ?_)
  refine ps_ite ?_ ?_
  · refine ps_bd ((ps_f_X12_is hm_3)) (fun r_15 m_15 hm_15 => ?_)
    refine ps_ite ?_ ?_
    · refine ps_bd ((ps_f_X12_is hm_15)) (fun r_27 m_27 hm_27 => ?_)
      refine ps_ite ?_ ?_
      · refine ps_bd ((ps_f_X12_is hm_27)) (fun r_39 m_39 hm_39 => ?_)
        refine ps_ite ?_ ?_
        · refine ps_bd ((ps_f_X12_is hm_39)) (fun r_51 m_51 hm_51 => ?_)
          refine ps_ite ?_ ?_
          · exact ps_ret hm_51
          · exact ps_ret hm_51
        · exact ps_ret hm_39
      · exact ps_ret hm_27
    · exact ps_ret hm_15
  · exact ps_ret hm_3
theorem ps_f_X12_word {m0 : Mem} {N : Nat} {m : Mem}  (hm : Ag m0 m) : PsA m0 (f_X12_word N m) := by
  unfold f_X12_word
  refine ps_swt ⟨?_, ?_, ?_, trivial⟩ ?_
  · refine ps_bd ((ps_f_X12_lawWord hm)) (fun r_33 m_33 hm_33 => ?_)
    exact ps_ret hm_33
  · refine ps_bd ((ps_f_X12_statuteWord hm)) (fun r_38 m_38 hm_38 => ?_)
    exact ps_ret hm_38
  · refine ps_bd ((ps_f_X12_is hm)) (fun r_45 m_45 hm_45 => ?_)
    refine ps_ite ?_ ?_
    · refine ps_bd ((ps_f_X12_is hm_45)) (fun r_59 m_59 hm_59 => ?_)
      refine ps_ite ?_ ?_
      · exact ps_ret hm_59
      · exact ps_ret hm_59
    · exact ps_ret hm_45
  · refine ps_bd ((ps_f_X12_is hm)) (fun r_75 m_75 hm_75 => ?_)
    refine ps_ite ?_ ?_
    · refine ps_bd ((ps_f_X12_is hm_75)) (fun r_89 m_89 hm_89 => ?_)
      refine ps_ite ?_ ?_
      · exact ps_ret hm_89
      · exact ps_ret hm_89
    · exact ps_ret hm_75
theorem ps_f_X12_next0_L0 {m0 : Mem} {N : Nat} {K39 : Mem → Ans} {X : Mem → Ans} {m : Mem} (hK39 : ∀ (m : Mem), Ag m0 m → PsA m0 (K39  m)) (hX : ∀ (m : Mem), Ag m0 m → PsA m0 (X  m)) (hm : Ag m0 m) : PsA m0 (f_X12_next0_L0 N K39 X m) := by
  unfold f_X12_next0_L0
  refine ps_bd ((ps_f_X12_see hm)) (fun r_5 m_5 hm_5 => ?_)
  refine ps_ite ?_ ?_
  · refine ps_set hm_5 (by decide) (fun m_33 hm_33 => ?_)
    exact hX  m_33 hm_33
  · refine ps_bd ((ps_f_X12_see hm_5)) (fun r_18 m_18 hm_18 => ?_)
    refine ps_ite ?_ ?_
    · refine ps_set hm_18 (by decide) (fun m_33 hm_33 => ?_)
      exact hX  m_33 hm_33
    · exact hK39  m_18 hm_18
theorem ps_f_X12_next0_J284 {m0 : Mem} {N : Nat} {s1_284 : Int32} {m : Mem}  (hm : Ag m0 m) : PsA m0 (f_X12_next0_J284 N s1_284 m) := by
  unfold f_X12_next0_J284
  refine ps_ite ?_ ?_
  · refine ps_set hm (by decide) (fun m_303 hm_303 => ?_)
    exact ps_ret hm_303
  · refine ps_set hm (by decide) (fun m_303 hm_303 => ?_)
    exact ps_ret hm_303
theorem ps_f_X12_next0_L126 {m0 : Mem} {N : Nat} {K189 : Mem → Ans} {X : Mem → Ans} {m : Mem} (hK189 : ∀ (m : Mem), Ag m0 m → PsA m0 (K189  m)) (hX : ∀ (m : Mem), Ag m0 m → PsA m0 (X  m)) (hm : Ag m0 m) : PsA m0 (f_X12_next0_L126 N K189 X m) := by
  unfold f_X12_next0_L126
  refine ps_bd ((ps_f_X12_see hm)) (fun r_131 m_131 hm_131 => ?_)
  refine ps_bd ((ps_f_X12_isDigit hm_131)) (fun r_134 m_134 hm_134 => ?_)
  refine ps_ite ?_ ?_
  · exact hK189  m_134 hm_134
  · refine ps_ite ?_ ?_
    · refine ps_set hm_134 (by decide) (fun m_183 hm_183 => ?_)
      exact hX  m_183 hm_183
    · refine ps_bd ((ps_f_X12_see hm_134)) (fun r_166 m_166 hm_166 => ?_)
      refine ps_set hm_166 (by decide) (fun m_173 hm_173 => ?_)
      refine ps_set hm_173 (by decide) (fun m_183 hm_183 => ?_)
      exact hX  m_183 hm_183
theorem ps_f_X12_next0_L76 {m0 : Mem} {N : Nat} {X : Mem → Ans} {m : Mem} (hX : ∀ (m : Mem), Ag m0 m → PsA m0 (X  m)) (hm : Ag m0 m) : PsA m0 (f_X12_next0_L76 N X m) := by
  unfold f_X12_next0_L76
  refine ps_bd ((ps_f_X12_see hm)) (fun r_81 m_81 hm_81 => ?_)
  refine ps_bd ((ps_f_X12_isLetter hm_81)) (fun r_84 m_84 hm_84 => ?_)
  refine ps_ite ?_ ?_
  · refine ps_bd ((ps_f_X12_word hm_84)) (fun r_105 m_105 hm_105 => ?_)
    refine ps_set hm_105 (by decide) (fun m_108 hm_108 => ?_)
    exact ps_ret hm_108
  · refine ps_set hm_84 (by decide) (fun m_97 hm_97 => ?_)
    exact hX  m_97 hm_97
theorem ps_f_X12_next0 {m0 : Mem} {N : Nat} {m : Mem}  (hm : Ag m0 m) : PsA m0 (f_X12_next0 N m) := by
  unfold f_X12_next0
  exact ps_it0 (fun Y hY  m1 hm1 => (ps_f_X12_next0_L0 (fun mk39 hmk39 => by
            refine ps_set hmk39 (by decide) (fun m_44 hm_44 => ?_)
            refine ps_bd ((ps_f_X12_see hm_44)) (fun r_52 m_52 hm_52 => ?_)
            refine ps_ite ?_ ?_
            · refine ps_set hm_52 (by decide) (fun m_63 hm_63 => ?_)
              exact ps_ret hm_63
            · refine ps_bd ((ps_f_X12_isLetter hm_52)) (fun r_70 m_70 hm_70 => ?_)
              refine ps_ite ?_ ?_
              · refine ps_bd ((ps_f_X12_isDigit hm_70)) (fun r_115 m_115 hm_115 => ?_)
                refine ps_ite ?_ ?_
                · refine ps_set hm_115 (by decide) (fun m_221 hm_221 => ?_)
                  refine ps_ite ?_ ?_
                  · exact (ps_f_X12_next0_J284 hm_221)
                  · refine ps_ite ?_ ?_
                    · exact (ps_f_X12_next0_J284 hm_221)
                    · refine ps_ite ?_ ?_
                      · exact (ps_f_X12_next0_J284 hm_221)
                      · refine ps_ite ?_ ?_
                        · exact (ps_f_X12_next0_J284 hm_221)
                        · refine ps_ite ?_ ?_
                          · exact (ps_f_X12_next0_J284 hm_221)
                          · refine ps_ite ?_ ?_
                            · exact (ps_f_X12_next0_J284 hm_221)
                            · refine ps_ite ?_ ?_
                              · exact (ps_f_X12_next0_J284 hm_221)
                              · refine ps_ite ?_ ?_
                                · exact (ps_f_X12_next0_J284 hm_221)
                                · refine ps_ite ?_ ?_
                                  · exact (ps_f_X12_next0_J284 hm_221)
                                  · refine ps_ite ?_ ?_
                                    · exact (ps_f_X12_next0_J284 hm_221)
                                    · refine ps_ite ?_ ?_
                                      · refine ps_set hm_221 (by decide) (fun m_303 hm_303 => ?_)
                                        exact ps_ret hm_303
                                      · refine ps_set hm_221 (by decide) (fun m_303 hm_303 => ?_)
                                        exact ps_ret hm_303
                · refine ps_set hm_115 (by decide) (fun m_123 hm_123 => ?_)
                  exact ps_it0 (fun Y hY  m1 hm1 => (ps_f_X12_next0_L126 (fun mk189 hmk189 => by
            refine ps_ite ?_ ?_
            · refine ps_set hmk189 (by decide) (fun m_208 hm_208 => ?_)
              exact ps_ret hm_208
            · refine ps_set hmk189 (by decide) (fun m_208 hm_208 => ?_)
              exact ps_ret hm_208) hY hm1)) hm_123
              · exact ps_it0 (fun Y hY  m1 hm1 => (ps_f_X12_next0_L76 hY hm1)) hm_70) hY hm1)) hm
theorem ps_f_X12_bad {m0 : Mem} {N : Nat} {a1 : Int32} {m : Mem}  (hm : Ag m0 m) : PsA m0 (f_X12_bad N a1 m) := by
  unfold f_X12_bad
  refine ps_set hm (by decide) (fun m_2 hm_2 => ?_)
  refine ps_set hm_2 (by decide) (fun m_10 hm_10 => ?_)
  exact ps_ret hm_10
theorem ps_f_X12_need {m0 : Mem} {N : Nat} {a1 : Int32} {m : Mem}  (hm : Ag m0 m) : PsA m0 (f_X12_need N a1 m) := by
  unfold f_X12_need
  refine ps_ite ?_ ?_
  · refine ps_bd ((ps_f_X12_next0 hm)) (fun _ m_15 hm_15 => ?_)
    exact ps_ret hm_15
  · refine ps_bd ((ps_f_X12_bad hm)) (fun r_10 m_10 hm_10 => ?_)
    refine ps_chk ?_
    exact ps_ret hm_10
theorem ps_f_X12_lay {m0 : Mem} {N : Nat} {a1 : Int32} {a2 : Int32} {m : Mem}  (hm : Ag m0 m) : PsA m0 (f_X12_lay N a1 a2 m) := by
  unfold f_X12_lay
  refine ps_chk ?_
  refine ps_set hm (by decide) (fun m_11 hm_11 => ?_)
  refine ps_chk ?_
  refine ps_set hm_11 (by decide) (fun m_25 hm_25 => ?_)
  refine ps_set hm_25 (by decide) (fun m_33 hm_33 => ?_)
  exact ps_ret hm_33
theorem ps_f_X12_opens {m0 : Mem} {N : Nat} {m : Mem}  (hm : Ag m0 m) : PsA m0 (f_X12_opens N m) := by
  unfold f_X12_opens
  refine ps_ite ?_ ?_
  · refine ps_bd ((ps_f_X12_bad hm)) (fun r_11 m_11 hm_11 => ?_)
    refine ps_chk ?_
    exact ps_ret hm_11
  · refine ps_set hm (by decide) (fun m_22 hm_22 => ?_)
    refine ps_bd ((ps_f_X12_next0 hm_22)) (fun _ m_26 hm_26 => ?_)
    exact ps_ret hm_26
theorem ps_f_X12_unit_J30 {m0 : Mem} {N : Nat} {s1_30 : Int32} {m : Mem}  (hm : Ag m0 m) : PsA m0 (f_X12_unit_J30 N s1_30 m) := by
  unfold f_X12_unit_J30
  refine ps_ite ?_ ?_
  · refine ps_bd ((ps_f_X12_lay hm)) (fun _ m_50 hm_50 => ?_)
    refine ps_bd ((ps_f_X12_next0 hm_50)) (fun _ m_54 hm_54 => ?_)
    exact ps_ret hm_54
  · refine ps_bd ((ps_f_X12_lay hm)) (fun _ m_50 hm_50 => ?_)
    refine ps_bd ((ps_f_X12_next0 hm_50)) (fun _ m_54 hm_54 => ?_)
    exact ps_ret hm_54
theorem ps_f_X12_unit {m0 : Mem} {N : Nat} {m : Mem}  (hm : Ag m0 m) : PsA m0 (f_X12_unit N m) := by
  unfold f_X12_unit
  refine ps_bd ((ps_f_X12_isIn hm)) (fun r_8 m_8 hm_8 => ?_)
  refine ps_ite ?_ ?_
  · exact (ps_f_X12_unit_J30 hm_8)
  · refine ps_ite ?_ ?_
    · refine ps_bd ((ps_f_X12_bad hm_8)) (fun r_26 m_26 hm_26 => ?_)
      refine ps_chk ?_
      exact ps_ret hm_26
    · exact (ps_f_X12_unit_J30 hm_8)
theorem ps_f_X12_product_J44 {m0 : Mem} {N : Nat} {X : Mem → Ans} {t0_44 : Int32} {m : Mem} (hX : ∀ (m : Mem), Ag m0 m → PsA m0 (X  m)) (hm : Ag m0 m) : PsA m0 (f_X12_product_J44 N X t0_44 m) := by
  unfold f_X12_product_J44
  refine ps_bd ((ps_f_X12_next0 hm)) (fun _ m_46 hm_46 => ?_)
  refine ps_ite ?_ ?_
  · refine ps_bd ((ps_f_X12_unit hm_46)) (fun r_97 m_97 hm_97 => ?_)
    refine ps_ite ?_ ?_
    · exact ps_ret hm_97
    · refine ps_bd ((ps_f_X12_lay hm_97)) (fun _ m_109 hm_109 => ?_)
      exact hX  m_109 hm_109
  · refine ps_bnd (fun a2_57 => ?_)
    refine ps_ite ?_ ?_
    · refine ps_ite ?_ ?_
      · refine ps_bd ((ps_f_X12_bad hm_46)) (fun r_78 m_78 hm_78 => ?_)
        refine ps_chk ?_
        exact ps_ret hm_78
      · refine ps_bd ((ps_f_X12_next0 hm_46)) (fun _ m_83 hm_83 => ?_)
        refine ps_bd ((ps_f_X12_lay hm_83)) (fun _ m_90 hm_90 => ?_)
        exact hX  m_90 hm_90
    · refine ps_bd ((ps_f_X12_bad hm_46)) (fun r_68 m_68 hm_68 => ?_)
      refine ps_chk ?_
      exact ps_ret hm_68
theorem ps_f_X12_product_J29 {m0 : Mem} {N : Nat} {X : Mem → Ans} {m : Mem} (hX : ∀ (m : Mem), Ag m0 m → PsA m0 (X  m)) (hm : Ag m0 m) : PsA m0 (f_X12_product_J29 N X m) := by
  unfold f_X12_product_J29
  refine ps_ite ?_ ?_
  · exact (ps_f_X12_product_J44 hX hm)
  · exact (ps_f_X12_product_J44 hX hm)
theorem ps_f_X12_product_L9 {m0 : Mem} {N : Nat} {X : Mem → Ans} {m : Mem} (hX : ∀ (m : Mem), Ag m0 m → PsA m0 (X  m)) (hm : Ag m0 m) : PsA m0 (f_X12_product_L9 N X m) := by
  unfold f_X12_product_L9
  refine ps_ite ?_ ?_
  · exact (ps_f_X12_product_J29 hX hm)
  · refine ps_ite ?_ ?_
    · exact (ps_f_X12_product_J29 hX hm)
    · exact ps_ret hm
theorem ps_f_X12_product {m0 : Mem} {N : Nat} {m : Mem}  (hm : Ag m0 m) : PsA m0 (f_X12_product N m) := by
  unfold f_X12_product
  refine ps_bd ((ps_f_X12_unit hm)) (fun r_1 m_1 hm_1 => ?_)
  refine ps_ite ?_ ?_
  · exact ps_ret hm_1
  · exact ps_it0 (fun Y hY  m1 hm1 => (ps_f_X12_product_L9 hY hm1)) hm_1
theorem ps_f_X12_sumUp_J46 {m0 : Mem} {N : Nat} {X : Mem → Ans} {t0_46 : Int32} {m : Mem} (hX : ∀ (m : Mem), Ag m0 m → PsA m0 (X  m)) (hm : Ag m0 m) : PsA m0 (f_X12_sumUp_J46 N X t0_46 m) := by
  unfold f_X12_sumUp_J46
  refine ps_bd ((ps_f_X12_next0 hm)) (fun _ m_48 hm_48 => ?_)
  refine ps_bd ((ps_f_X12_product hm_48)) (fun r_52 m_52 hm_52 => ?_)
  refine ps_ite ?_ ?_
  · exact ps_ret hm_52
  · refine ps_bd ((ps_f_X12_lay hm_52)) (fun _ m_63 hm_63 => ?_)
    exact hX  m_63 hm_63
theorem ps_f_X12_sumUp_J29 {m0 : Mem} {N : Nat} {X : Mem → Ans} {m : Mem} (hX : ∀ (m : Mem), Ag m0 m → PsA m0 (X  m)) (hm : Ag m0 m) : PsA m0 (f_X12_sumUp_J29 N X m) := by
  unfold f_X12_sumUp_J29
  refine ps_ite ?_ ?_
  · exact (ps_f_X12_sumUp_J46 hX hm)
  · exact (ps_f_X12_sumUp_J46 hX hm)
theorem ps_f_X12_sumUp_L9 {m0 : Mem} {N : Nat} {X : Mem → Ans} {m : Mem} (hX : ∀ (m : Mem), Ag m0 m → PsA m0 (X  m)) (hm : Ag m0 m) : PsA m0 (f_X12_sumUp_L9 N X m) := by
  unfold f_X12_sumUp_L9
  refine ps_ite ?_ ?_
  · exact (ps_f_X12_sumUp_J29 hX hm)
  · refine ps_ite ?_ ?_
    · exact (ps_f_X12_sumUp_J29 hX hm)
    · exact ps_ret hm
theorem ps_f_X12_sumUp {m0 : Mem} {N : Nat} {m : Mem}  (hm : Ag m0 m) : PsA m0 (f_X12_sumUp N m) := by
  unfold f_X12_sumUp
  refine ps_bd ((ps_f_X12_product hm)) (fun r_1 m_1 hm_1 => ?_)
  refine ps_ite ?_ ?_
  · exact ps_ret hm_1
  · exact ps_it0 (fun Y hY  m1 hm1 => (ps_f_X12_sumUp_L9 hY hm1)) hm_1
theorem ps_f_X12_every_L9 {m0 : Mem} {N : Nat} {ot : Mem → Ans} {X : Mem → Ans} {m : Mem} (hot : ∀ (m : Mem), Ag m0 m → PsA m0 (ot  m)) (hX : ∀ (m : Mem), Ag m0 m → PsA m0 (X  m)) (hm : Ag m0 m) : PsA m0 (f_X12_every_L9 N ot X m) := by
  unfold f_X12_every_L9
  refine ps_ite ?_ ?_
  · refine ps_bd ((ps_f_X12_next0 hm)) (fun _ m_18 hm_18 => ?_)
    refine ps_bd (hot  m_18 hm_18) (fun r_22 m_22 hm_22 => ?_)
    refine ps_ite ?_ ?_
    · exact ps_ret hm_22
    · refine ps_bd ((ps_f_X12_lay hm_22)) (fun _ m_34 hm_34 => ?_)
      exact hX  m_34 hm_34
  · exact ps_ret hm
theorem ps_f_X12_every {m0 : Mem} {N : Nat} {ot : Mem → Ans} {m : Mem} (hot : ∀ (m : Mem), Ag m0 m → PsA m0 (ot  m)) (hm : Ag m0 m) : PsA m0 (f_X12_every N ot m) := by
  unfold f_X12_every
  refine ps_bd (hot  m hm) (fun r_1 m_1 hm_1 => ?_)
  refine ps_ite ?_ ?_
  · exact ps_ret hm_1
  · exact ps_it0 (fun Y hY  m1 hm1 => (ps_f_X12_every_L9 hot hY hm1)) hm_1
theorem ps_f_X12_any_L9 {m0 : Mem} {N : Nat} {ot : Mem → Ans} {X : Mem → Ans} {m : Mem} (hot : ∀ (m : Mem), Ag m0 m → PsA m0 (ot  m)) (hX : ∀ (m : Mem), Ag m0 m → PsA m0 (X  m)) (hm : Ag m0 m) : PsA m0 (f_X12_any_L9 N ot X m) := by
  unfold f_X12_any_L9
  refine ps_ite ?_ ?_
  · refine ps_bd ((ps_f_X12_next0 hm)) (fun _ m_18 hm_18 => ?_)
    refine ps_bd ((ps_f_X12_every hot hm_18)) (fun r_22 m_22 hm_22 => ?_)
    refine ps_ite ?_ ?_
    · exact ps_ret hm_22
    · refine ps_bd ((ps_f_X12_lay hm_22)) (fun _ m_34 hm_34 => ?_)
      exact hX  m_34 hm_34
  · exact ps_ret hm
theorem ps_f_X12_any {m0 : Mem} {N : Nat} {ot : Mem → Ans} {m : Mem} (hot : ∀ (m : Mem), Ag m0 m → PsA m0 (ot  m)) (hm : Ag m0 m) : PsA m0 (f_X12_any N ot m) := by
  unfold f_X12_any
  refine ps_bd ((ps_f_X12_every hot hm)) (fun r_1 m_1 hm_1 => ?_)
  refine ps_ite ?_ ?_
  · exact ps_ret hm_1
  · exact ps_it0 (fun Y hY  m1 hm1 => (ps_f_X12_any_L9 hot hY hm1)) hm_1
theorem ps_f_X12_oneTestB_J147 {m0 : Mem} {N : Nat} {ot : Mem → Ans} {t0_147 : Int32} {m : Mem} (hot : ∀ (m : Mem), Ag m0 m → PsA m0 (ot  m)) (hm : Ag m0 m) : PsA m0 (f_X12_oneTestB_J147 N ot t0_147 m) := by
  unfold f_X12_oneTestB_J147
  refine ps_ite ?_ ?_
  · refine ps_bd ((ps_f_X12_bad hm)) (fun r_155 m_155 hm_155 => ?_)
    refine ps_chk ?_
    exact ps_ret hm_155
  · refine ps_bd ((ps_f_X12_next0 hm)) (fun _ m_160 hm_160 => ?_)
    refine ps_bd ((ps_f_X12_sumUp hm_160)) (fun r_164 m_164 hm_164 => ?_)
    refine ps_ite ?_ ?_
    · exact ps_ret hm_164
    · refine ps_bd ((ps_f_X12_lay hm_164)) (fun _ m_175 hm_175 => ?_)
      exact ps_ret hm_175
theorem ps_f_X12_oneTestB {m0 : Mem} {N : Nat} {ot : Mem → Ans} {m : Mem} (hot : ∀ (m : Mem), Ag m0 m → PsA m0 (ot  m)) (hm : Ag m0 m) : PsA m0 (f_X12_oneTestB N ot m) := by
  unfold f_X12_oneTestB
  refine ps_ite ?_ ?_
  · refine ps_bd ((ps_f_X12_opens hm)) (fun r_10 m_10 hm_10 => ?_)
    refine ps_ite ?_ ?_
    · exact ps_ret hm_10
    · refine ps_bd (hot  m_10 hm_10) (fun r_17 m_17 hm_17 => ?_)
      refine ps_ite ?_ ?_
      · exact ps_ret hm_17
      · refine ps_set hm_17 (by decide) (fun m_32 hm_32 => ?_)
        refine ps_bd ((ps_f_X12_lay hm_32)) (fun _ m_39 hm_39 => ?_)
        exact ps_ret hm_39
  · refine ps_ite ?_ ?_
    · refine ps_bd ((ps_f_X12_opens hm)) (fun r_55 m_55 hm_55 => ?_)
      refine ps_ite ?_ ?_
      · exact ps_ret hm_55
      · refine ps_bd ((ps_f_X12_any hot hm_55)) (fun r_62 m_62 hm_62 => ?_)
        refine ps_ite ?_ ?_
        · exact ps_ret hm_62
        · refine ps_bd ((ps_f_X12_need hm_62)) (fun r_72 m_72 hm_72 => ?_)
          refine ps_ite ?_ ?_
          · exact ps_ret hm_72
          · refine ps_set hm_72 (by decide) (fun m_87 hm_87 => ?_)
            exact ps_ret hm_87
    · refine ps_bd ((ps_f_X12_sumUp hm)) (fun r_93 m_93 hm_93 => ?_)
      refine ps_ite ?_ ?_
      · exact ps_ret hm_93
      · refine ps_ite ?_ ?_
        · exact (ps_f_X12_oneTestB_J147 hot hm_93)
        · refine ps_ite ?_ ?_
          · exact (ps_f_X12_oneTestB_J147 hot hm_93)
          · refine ps_ite ?_ ?_
            · exact (ps_f_X12_oneTestB_J147 hot hm_93)
            · exact (ps_f_X12_oneTestB_J147 hot hm_93)
theorem ps_f_X12_oneTest {m0 : Mem} {N : Nat} : ∀ (k : Nat) {m : Mem}, Ag m0 m → PsA m0 (f_X12_oneTest N k m)
  | 0, _, _ => ps_none
  | k + 1, m, h => ps_f_X12_oneTestB (fun m h => ps_f_X12_oneTest k h) h
theorem ps_f_X12_aLine_J123 {m0 : Mem} {N : Nat} {m : Mem}  (hm : Ag m0 m) : PsA m0 (f_X12_aLine_J123 N m) := by
  unfold f_X12_aLine_J123
  refine ps_chk ?_
  refine ps_set hm (by decide) (fun m_139 hm_139 => ?_)
  refine ps_bd ((ps_f_X12_need hm_139)) (fun r_144 m_144 hm_144 => ?_)
  refine ps_chk ?_
  exact ps_ret hm_144
theorem ps_f_X12_aLine {m0 : Mem} {N : Nat} {m : Mem}  (hm : Ag m0 m) : PsA m0 (f_X12_aLine N m) := by
  unfold f_X12_aLine
  refine ps_bd ((ps_f_X12_isIn hm)) (fun r_8 m_8 hm_8 => ?_)
  refine ps_ite ?_ ?_
  · refine ps_bd ((ps_f_X12_bad hm_8)) (fun r_16 m_16 hm_16 => ?_)
    refine ps_chk ?_
    exact ps_ret hm_16
  · refine ps_ite ?_ ?_
    · refine ps_bd ((ps_f_X12_bad hm_8)) (fun r_31 m_31 hm_31 => ?_)
      refine ps_chk ?_
      exact ps_ret hm_31
    · refine ps_set hm_8 (by decide) (fun m_37 hm_37 => ?_)
      refine ps_chk ?_
      refine ps_set hm_37 (by decide) (fun m_56 hm_56 => ?_)
      refine ps_bd ((ps_f_X12_next0 hm_56)) (fun _ m_58 hm_58 => ?_)
      refine ps_chk ?_
      refine ps_set hm_58 (by decide) (fun m_75 hm_75 => ?_)
      refine ps_bd ((ps_f_X12_sumUp hm_75)) (fun r_77 m_77 hm_77 => ?_)
      refine ps_ite ?_ ?_
      · exact ps_ret hm_77
      · refine ps_chk ?_
        refine ps_set hm_77 (by decide) (fun m_101 hm_101 => ?_)
        refine ps_ite ?_ ?_
        · refine ps_bd ((ps_f_X12_next0 hm_101)) (fun _ m_111 hm_111 => ?_)
          refine ps_bd ((ps_f_X12_any (fun m hm => ps_f_X12_oneTest _ hm) hm_111)) (fun r_115 m_115 hm_115 => ?_)
          refine ps_ite ?_ ?_
          · exact ps_ret hm_115
          · exact (ps_f_X12_aLine_J123 hm_115)
        · exact (ps_f_X12_aLine_J123 hm_101)
theorem ps_f_X12_readsLaw_L12 {m0 : Mem} {N : Nat} {X : Int32 → Mem → Ans} {s1_12 : Int32} {m : Mem} (hX : ∀ (q0 : Int32) (m : Mem), Ag m0 m → PsA m0 (X q0 m)) (hm : Ag m0 m) : PsA m0 (f_X12_readsLaw_L12 N X s1_12 m) := by
  unfold f_X12_readsLaw_L12
  refine ps_ite ?_ ?_
  · refine ps_chk ?_
    exact ps_ret hm
  · refine ps_ite ?_ ?_
    · refine ps_chk ?_
      exact ps_ret hm
    · refine ps_bd ((ps_f_X12_aLine hm)) (fun r_24 m_24 hm_24 => ?_)
      refine ps_ite ?_ ?_
      · refine ps_set hm_24 (by decide) (fun m_43 hm_43 => ?_)
        exact hX r_24 m_43 hm_43
      · refine ps_set hm_24 (by decide) (fun m_43 hm_43 => ?_)
        exact hX r_24 m_43 hm_43
theorem ps_f_X12_readsLaw {m0 : Mem} {N : Nat} {m : Mem}  (hm : Ag m0 m) : PsA m0 (f_X12_readsLaw N m) := by
  unfold f_X12_readsLaw
  refine ps_set hm (by decide) (fun m_2 hm_2 => ?_)
  refine ps_set hm_2 (by decide) (fun m_7 hm_7 => ?_)
  exact ps_it1 (fun Y hY y0 m1 hm1 => (ps_f_X12_readsLaw_L12 hY hm1)) hm_7
theorem ps_f_X12_number {m0 : Mem} {N : Nat} {a1 : Int32} {a2 : Int32} {a3 : Int32} {m : Mem}  (hm : Ag m0 m) : PsA m0 (f_X12_number N a1 a2 a3 m) := by
  unfold f_X12_number
  refine ps_ite ?_ ?_
  · refine ps_bd ((ps_f_X12_isIn hm)) (fun r_20 m_20 hm_20 => ?_)
    refine ps_ite ?_ ?_
    · refine ps_bd ((ps_f_X12_bad hm_20)) (fun r_28 m_28 hm_28 => ?_)
      refine ps_chk ?_
      exact ps_ret hm_28
    · refine ps_chk ?_
      refine ps_set hm_20 (by decide) (fun m_41 hm_41 => ?_)
      refine ps_bd ((ps_f_X12_next0 hm_41)) (fun _ m_43 hm_43 => ?_)
      exact ps_ret hm_43
  · refine ps_bd ((ps_f_X12_bad hm)) (fun r_10 m_10 hm_10 => ?_)
    refine ps_chk ?_
    exact ps_ret hm_10
theorem ps_f_X12_told {m0 : Mem} {N : Nat} {a1 : Int32} {a2 : Int32} {a3 : Int32} {a4 : Int32} {m : Mem}  (hm : Ag m0 m) : PsA m0 (f_X12_told N a1 a2 a3 a4 m) := by
  unfold f_X12_told
  refine ps_bd ((ps_f_X12_need hm)) (fun r_2 m_2 hm_2 => ?_)
  refine ps_ite ?_ ?_
  · exact ps_ret hm_2
  · refine ps_bd ((ps_f_X12_number hm_2)) (fun r_13 m_13 hm_13 => ?_)
    refine ps_ite ?_ ?_
    · exact ps_ret hm_13
    · exact ps_ret hm_13
theorem ps_f_X12_aRule {m0 : Mem} {N : Nat} {m : Mem}  (hm : Ag m0 m) : PsA m0 (f_X12_aRule N m) := by
  unfold f_X12_aRule
  refine ps_bnd (fun a1_6 => ?_)
  refine ps_bnd (fun a2_11 => ?_)
  refine ps_chk ?_
  refine ps_set hm (by decide) (fun m_18 hm_18 => ?_)
  refine ps_chk ?_
  refine ps_set hm_18 (by decide) (fun m_27 hm_27 => ?_)
  refine ps_bd ((ps_f_X12_next0 hm_27)) (fun _ m_29 hm_29 => ?_)
  refine ps_swt ⟨?_, ?_, ?_, trivial⟩ ?_
  · refine ps_bd ((ps_f_X12_number hm_29)) (fun r_67 m_67 hm_67 => ?_)
    refine ps_ite ?_ ?_
    · exact ps_ret hm_67
    · refine ps_bd ((ps_f_X12_told hm_67)) (fun r_83 m_83 hm_83 => ?_)
      refine ps_ite ?_ ?_
      · exact ps_ret hm_83
      · exact ps_ret hm_83
  · refine ps_bd ((ps_f_X12_number hm_29)) (fun r_102 m_102 hm_102 => ?_)
    refine ps_chk ?_
    exact ps_ret hm_102
  · refine ps_bd ((ps_f_X12_number hm_29)) (fun r_120 m_120 hm_120 => ?_)
    refine ps_chk ?_
    exact ps_ret hm_120
  · refine ps_bd ((ps_f_X12_number hm_29)) (fun r_132 m_132 hm_132 => ?_)
    refine ps_chk ?_
    exact ps_ret hm_132
theorem ps_f_X12_aPiece {m0 : Mem} {N : Nat} {m : Mem}  (hm : Ag m0 m) : PsA m0 (f_X12_aPiece N m) := by
  unfold f_X12_aPiece
  refine ps_bd ((ps_f_X12_told hm)) (fun r_13 m_13 hm_13 => ?_)
  refine ps_ite ?_ ?_
  · exact ps_ret hm_13
  · refine ps_bd ((ps_f_X12_told hm_13)) (fun r_40 m_40 hm_40 => ?_)
    refine ps_ite ?_ ?_
    · exact ps_ret hm_40
    · exact ps_ret hm_40
theorem ps_f_X12_aSeat_J65 {m0 : Mem} {N : Nat} {s1_65 : Int32} {m : Mem}  (hm : Ag m0 m) : PsA m0 (f_X12_aSeat_J65 N s1_65 m) := by
  unfold f_X12_aSeat_J65
  refine ps_bd ((ps_f_X12_number hm)) (fun r_79 m_79 hm_79 => ?_)
  refine ps_chk ?_
  exact ps_ret hm_79
theorem ps_f_X12_aSeat {m0 : Mem} {N : Nat} {m : Mem}  (hm : Ag m0 m) : PsA m0 (f_X12_aSeat N m) := by
  unfold f_X12_aSeat
  refine ps_bnd (fun a1_6 => ?_)
  refine ps_bd ((ps_f_X12_told hm)) (fun r_21 m_21 hm_21 => ?_)
  refine ps_ite ?_ ?_
  · exact ps_ret hm_21
  · refine ps_bd ((ps_f_X12_need hm_21)) (fun r_30 m_30 hm_30 => ?_)
    refine ps_ite ?_ ?_
    · exact ps_ret hm_30
    · refine ps_ite ?_ ?_
      · refine ps_chk ?_
        refine ps_ite ?_ ?_
        · refine ps_bd ((ps_f_X12_bad hm_30)) (fun r_61 m_61 hm_61 => ?_)
          refine ps_chk ?_
          exact ps_ret hm_61
        · exact (ps_f_X12_aSeat_J65 hm_30)
      · exact (ps_f_X12_aSeat_J65 hm_30)
theorem ps_f_X12_aRow {m0 : Mem} {N : Nat} {m : Mem}  (hm : Ag m0 m) : PsA m0 (f_X12_aRow N m) := by
  unfold f_X12_aRow
  refine ps_ite ?_ ?_
  · refine ps_bd ((ps_f_X12_aRule hm)) (fun r_9 m_9 hm_9 => ?_)
    refine ps_ite ?_ ?_
    · exact ps_ret hm_9
    · refine ps_bd ((ps_f_X12_need hm_9)) (fun r_47 m_47 hm_47 => ?_)
      refine ps_ite ?_ ?_
      · exact ps_ret hm_47
      · exact ps_ret hm_47
  · refine ps_ite ?_ ?_
    · refine ps_bd ((ps_f_X12_aPiece hm)) (fun r_27 m_27 hm_27 => ?_)
      refine ps_ite ?_ ?_
      · exact ps_ret hm_27
      · refine ps_bd ((ps_f_X12_need hm_27)) (fun r_47 m_47 hm_47 => ?_)
        refine ps_ite ?_ ?_
        · exact ps_ret hm_47
        · exact ps_ret hm_47
    · refine ps_bd ((ps_f_X12_aSeat hm)) (fun r_37 m_37 hm_37 => ?_)
      refine ps_ite ?_ ?_
      · exact ps_ret hm_37
      · refine ps_bd ((ps_f_X12_need hm_37)) (fun r_47 m_47 hm_47 => ?_)
        refine ps_ite ?_ ?_
        · exact ps_ret hm_47
        · exact ps_ret hm_47
theorem ps_f_X12_begins {m0 : Mem} {N : Nat} {m : Mem}  (hm : Ag m0 m) : PsA m0 (f_X12_begins N m) := by
  unfold f_X12_begins
  refine ps_ite ?_ ?_
  · refine ps_bd ((ps_f_X12_isIn hm)) (fun r_16 m_16 hm_16 => ?_)
    refine ps_chk ?_
    exact ps_ret hm_16
  · refine ps_ite ?_ ?_
    · refine ps_ite ?_ ?_
      · exact ps_ret hm
      · exact ps_ret hm
    · refine ps_ite ?_ ?_
      · exact ps_ret hm
      · exact ps_ret hm
theorem ps_f_X12_readsRows_L7 {m0 : Mem} {N : Nat} {X : Int32 → Mem → Ans} {s1_7 : Int32} {m : Mem} (hX : ∀ (q0 : Int32) (m : Mem), Ag m0 m → PsA m0 (X q0 m)) (hm : Ag m0 m) : PsA m0 (f_X12_readsRows_L7 N X s1_7 m) := by
  unfold f_X12_readsRows_L7
  refine ps_ite ?_ ?_
  · refine ps_chk ?_
    exact ps_ret hm
  · refine ps_ite ?_ ?_
    · refine ps_chk ?_
      exact ps_ret hm
    · refine ps_bd ((ps_f_X12_begins hm)) (fun r_19 m_19 hm_19 => ?_)
      refine ps_ite ?_ ?_
      · refine ps_bd ((ps_f_X12_bad hm_19)) (fun r_27 m_27 hm_27 => ?_)
        refine ps_chk ?_
        exact ps_ret hm_27
      · refine ps_ite ?_ ?_
        · refine ps_bd ((ps_f_X12_bad hm_19)) (fun r_42 m_42 hm_42 => ?_)
          refine ps_chk ?_
          exact ps_ret hm_42
        · refine ps_bd ((ps_f_X12_aRow hm_19)) (fun r_47 m_47 hm_47 => ?_)
          refine ps_ite ?_ ?_
          · refine ps_set hm_47 (by decide) (fun m_66 hm_66 => ?_)
            exact hX r_47 m_66 hm_66
          · refine ps_set hm_47 (by decide) (fun m_66 hm_66 => ?_)
            exact hX r_47 m_66 hm_66
theorem ps_f_X12_readsRows {m0 : Mem} {N : Nat} {m : Mem}  (hm : Ag m0 m) : PsA m0 (f_X12_readsRows N m) := by
  unfold f_X12_readsRows
  refine ps_set hm (by decide) (fun m_2 hm_2 => ?_)
  exact ps_it1 (fun Y hY y0 m1 hm1 => (ps_f_X12_readsRows_L7 hY hm1)) hm_2
theorem ps_f_X12_putsLaw_L13 {m0 : Mem} {N : Nat} {K105 : Mem → Ans} {X : Int32 → Mem → Ans} {s1_13 : Int32} {m : Mem} (hK105 : ∀ (m : Mem), Ag m0 m → PsA m0 (K105  m)) (hX : ∀ (q0 : Int32) (m : Mem), Ag m0 m → PsA m0 (X q0 m)) (hm : Ag m0 m) : PsA m0 (f_X12_putsLaw_L13 N K105 X s1_13 m) := by
  unfold f_X12_putsLaw_L13
  refine ps_ite ?_ ?_
  · exact hK105  m hm
  · refine ps_chk ?_
    refine ps_chk ?_
    refine ps_set hm (by decide) (fun m_38 hm_38 => ?_)
    refine ps_chk ?_
    refine ps_chk ?_
    refine ps_set hm_38 (by decide) (fun m_58 hm_58 => ?_)
    refine ps_chk ?_
    refine ps_chk ?_
    refine ps_set hm_58 (by decide) (fun m_78 hm_78 => ?_)
    refine ps_chk ?_
    refine ps_chk ?_
    refine ps_set hm_78 (by decide) (fun m_98 hm_98 => ?_)
    exact hX (s1_13 + 1) m_98 hm_98
theorem ps_f_X12_putsLaw_L107 {m0 : Mem} {N : Nat} {X : Int32 → Mem → Ans} {s1_107 : Int32} {m : Mem} (hX : ∀ (q0 : Int32) (m : Mem), Ag m0 m → PsA m0 (X q0 m)) (hm : Ag m0 m) : PsA m0 (f_X12_putsLaw_L107 N X s1_107 m) := by
  unfold f_X12_putsLaw_L107
  refine ps_ite ?_ ?_
  · exact ps_ret hm
  · refine ps_chk ?_
    refine ps_chk ?_
    refine ps_set hm (by decide) (fun m_132 hm_132 => ?_)
    exact hX (s1_107 + 1) m_132 hm_132
theorem ps_f_X12_putsLaw {m0 : Mem} {N : Nat} {m : Mem}  (hm : Ag m0 m) : PsA m0 (f_X12_putsLaw N m) := by
  unfold f_X12_putsLaw
  refine ps_set hm (by decide) (fun m_10 hm_10 => ?_)
  exact ps_it1 (fun Y hY y0 m1 hm1 => (ps_f_X12_putsLaw_L13 (fun mk105 hmk105 => by
            exact ps_it1 (fun Y hY y0 m1 hm1 => (ps_f_X12_putsLaw_L107 hY hm1)) hmk105) hY hm1)) hm_10
theorem ps_f_X12_puts_L13 {m0 : Mem} {N : Nat} {a1 : Int32} {a2 : Int32} {a3 : Int32} {X : Int32 → Mem → Ans} {s4_13 : Int32} {m : Mem} (hX : ∀ (q0 : Int32) (m : Mem), Ag m0 m → PsA m0 (X q0 m)) (hm : Ag m0 m) : PsA m0 (f_X12_puts_L13 N a1 a2 a3 X s4_13 m) := by
  unfold f_X12_puts_L13
  refine ps_ite ?_ ?_
  · exact ps_ret hm
  · refine ps_chk ?_
    refine ps_chk ?_
    refine ps_set hm (by decide) (fun m_39 hm_39 => ?_)
    exact hX (s4_13 + 1) m_39 hm_39
theorem ps_f_X12_puts {m0 : Mem} {N : Nat} {a1 : Int32} {a2 : Int32} {a3 : Int32} {m : Mem}  (hm : Ag m0 m) : PsA m0 (f_X12_puts N a1 a2 a3 m) := by
  unfold f_X12_puts
  refine ps_chk ?_
  refine ps_set hm (by decide) (fun m_9 hm_9 => ?_)
  exact ps_it1 (fun Y hY y0 m1 hm1 => (ps_f_X12_puts_L13 hY hm1)) hm_9
theorem ps_f_X12_putsGallery_L13 {m0 : Mem} {N : Nat} {K36 : Mem → Ans} {X : Int32 → Mem → Ans} {s1_13 : Int32} {m : Mem} (hK36 : ∀ (m : Mem), Ag m0 m → PsA m0 (K36  m)) (hX : ∀ (q0 : Int32) (m : Mem), Ag m0 m → PsA m0 (X q0 m)) (hm : Ag m0 m) : PsA m0 (f_X12_putsGallery_L13 N K36 X s1_13 m) := by
  unfold f_X12_putsGallery_L13
  refine ps_ite ?_ ?_
  · exact hK36  m hm
  · refine ps_chk ?_
    refine ps_set hm (by decide) (fun m_29 hm_29 => ?_)
    exact hX (s1_13 + 1) m_29 hm_29
theorem ps_f_X12_putsGallery_L38 {m0 : Mem} {N : Nat} {X : Int32 → Mem → Ans} {s1_38 : Int32} {m : Mem} (hX : ∀ (q0 : Int32) (m : Mem), Ag m0 m → PsA m0 (X q0 m)) (hm : Ag m0 m) : PsA m0 (f_X12_putsGallery_L38 N X s1_38 m) := by
  unfold f_X12_putsGallery_L38
  refine ps_ite ?_ ?_
  · exact ps_ret hm
  · refine ps_chk ?_
    refine ps_chk ?_
    refine ps_chk ?_
    refine ps_chk ?_
    refine ps_set hm (by decide) (fun m_77 hm_77 => ?_)
    refine ps_chk ?_
    refine ps_chk ?_
    refine ps_chk ?_
    refine ps_chk ?_
    refine ps_set hm_77 (by decide) (fun m_109 hm_109 => ?_)
    exact hX (s1_38 + 1) m_109 hm_109
theorem ps_f_X12_putsGallery {m0 : Mem} {N : Nat} {m : Mem}  (hm : Ag m0 m) : PsA m0 (f_X12_putsGallery N m) := by
  unfold f_X12_putsGallery
  refine ps_set hm (by decide) (fun m_10 hm_10 => ?_)
  exact ps_it1 (fun Y hY y0 m1 hm1 => (ps_f_X12_putsGallery_L13 (fun mk36 hmk36 => by
            exact ps_it1 (fun Y hY y0 m1 hm1 => (ps_f_X12_putsGallery_L38 hY hm1)) hmk36) hY hm1)) hm_10
theorem ps_f_X12_putsText {m0 : Mem} {N : Nat} {a1 : Int32} {m : Mem}  (hm : Ag m0 m) : PsA m0 (f_X12_putsText N a1 m) := by
  unfold f_X12_putsText
  refine ps_ite ?_ ?_
  · refine ps_bd ((ps_f_X12_putsLaw hm)) (fun r_5 m_5 hm_5 => ?_)
    exact ps_ret hm_5
  · refine ps_bd ((ps_f_X12_forgets hm)) (fun _ m_10 hm_10 => ?_)
    refine ps_ite ?_ ?_
    · refine ps_bd ((ps_f_X12_puts hm_10)) (fun r_24 m_24 hm_24 => ?_)
      exact ps_ret hm_24
    · refine ps_ite ?_ ?_
      · refine ps_bd ((ps_f_X12_puts hm_10)) (fun r_42 m_42 hm_42 => ?_)
        exact ps_ret hm_42
      · refine ps_bd ((ps_f_X12_putsGallery hm_10)) (fun r_49 m_49 hm_49 => ?_)
        exact ps_ret hm_49
theorem ps_f_X12_text_J60 {m0 : Mem} {N : Nat} {a1 : Int32} {t0_60 : Int32} {m : Mem}  (hm : Ag m0 m) : PsA m0 (f_X12_text_J60 N a1 t0_60 m) := by
  unfold f_X12_text_J60
  refine ps_set hm (by decide) (fun m_63 hm_63 => ?_)
  refine ps_ite ?_ ?_
  · refine ps_set hm_63 (by decide) (fun m_81 hm_81 => ?_)
    refine ps_set hm_81 (by decide) (fun m_89 hm_89 => ?_)
    exact ps_ret hm_89
  · refine ps_bd ((ps_f_X12_putsText hm_63)) (fun r_72 m_72 hm_72 => ?_)
    exact ps_ret hm_72
theorem ps_f_X12_text {m0 : Mem} {N : Nat} {a1 : Int32} {m : Mem}  (hm : Ag m0 m) : PsA m0 (f_X12_text N a1 m) := by
  unfold f_X12_text
  refine ps_set hm (by decide) (fun m_2 hm_2 => ?_)
  refine ps_set hm_2 (by decide) (fun m_7 hm_7 => ?_)
  refine ps_bd ((ps_f_X12_isIn hm_7)) (fun r_13 m_13 hm_13 => ?_)
  refine ps_ite ?_ ?_
  · refine ps_set hm_13 (by decide) (fun m_21 hm_21 => ?_)
    exact ps_ret hm_21
  · refine ps_set hm_13 (by decide) (fun m_28 hm_28 => ?_)
    refine ps_set hm_28 (by decide) (fun m_33 hm_33 => ?_)
    refine ps_set hm_33 (by decide) (fun m_38 hm_38 => ?_)
    refine ps_bd ((ps_f_X12_next0 hm_38)) (fun _ m_42 hm_42 => ?_)
    refine ps_ite ?_ ?_
    · refine ps_bd ((ps_f_X12_readsLaw hm_42)) (fun r_50 m_50 hm_50 => ?_)
      exact (ps_f_X12_text_J60 hm_50)
    · refine ps_bd ((ps_f_X12_readsRows hm_42)) (fun r_57 m_57 hm_57 => ?_)
      exact (ps_f_X12_text_J60 hm_57)
theorem ps_f_X12_fault {m0 : Mem} {N : Nat} {a1 : Int32} {m : Mem}  (hm : Ag m0 m) : PsA m0 (f_X12_fault N a1 m) := by
  unfold f_X12_fault
  refine ps_ite ?_ ?_
  · exact ps_ret hm
  · refine ps_ite ?_ ?_
    · exact ps_ret hm
    · exact ps_ret hm
theorem ps_f_X12_both {m0 : Mem} {N : Nat} {a0 : Int32} {a1 : Int32} {a2 : Int32} {m : Mem}  (hm : Ag m0 m) : PsA m0 (f_X12_both N a0 a1 a2 m) := by
  unfold f_X12_both
  refine ps_swt ⟨?_, ?_, ?_, ?_, ?_, ?_, ?_, ?_, ?_, trivial⟩ ?_
  · exact ps_ret hm
  · exact ps_ret hm
  · exact ps_ret hm
  · exact ps_ret hm
  · refine ps_ite ?_ ?_
    · exact ps_ret hm
    · exact ps_ret hm
  · refine ps_ite ?_ ?_
    · exact ps_ret hm
    · exact ps_ret hm
  · refine ps_ite ?_ ?_
    · exact ps_ret hm
    · exact ps_ret hm
  · exact ps_ret hm
  · exact ps_ret hm
  · exact ps_ret hm
theorem ps_f_X12_comesTo_L6 {m0 : Mem} {N : Nat} {a1 : Int32} {a2 : Int32} {a3 : Int32} {X : Int32 → Int32 → Mem → Ans} {s4_6 : Int32} {s5_6 : Int32} {m : Mem} (hX : ∀ (q0 : Int32) (q1 : Int32) (m : Mem), Ag m0 m → PsA m0 (X q0 q1 m)) (hm : Ag m0 m) : PsA m0 (f_X12_comesTo_L6 N a1 a2 a3 X s4_6 s5_6 m) := by
  unfold f_X12_comesTo_L6
  refine ps_ite ?_ ?_
  · exact ps_ret hm
  · refine ps_chk ?_
    refine ps_bnd (fun a6_31 => ?_)
    refine ps_chk ?_
    refine ps_bnd (fun a7_54 => ?_)
    refine ps_ite ?_ ?_
    · refine ps_ite ?_ ?_
      · refine ps_chk ?_
        refine ps_chk ?_
        refine ps_chk ?_
        refine ps_set hm (by decide) (fun m_113 hm_113 => ?_)
        exact hX s4_6 (s5_6 + 1) m_113 hm_113
      · refine ps_ite ?_ ?_
        · refine ps_chk ?_
          refine ps_chk ?_
          refine ps_set hm (by decide) (fun m_143 hm_143 => ?_)
          exact hX s4_6 (s5_6 + 1) m_143 hm_143
        · refine ps_chk ?_
          refine ps_chk ?_
          refine ps_bd ((ps_f_X12_both hm)) (fun r_176 m_176 hm_176 => ?_)
          refine ps_chk ?_
          refine ps_set hm_176 (by decide) (fun m_179 hm_179 => ?_)
          exact hX (s4_6 + (-1)) (s5_6 + 1) m_179 hm_179
    · refine ps_ite ?_ ?_
      · refine ps_chk ?_
        refine ps_set hm (by decide) (fun m_86 hm_86 => ?_)
        exact hX (s4_6 + 1) (s5_6 + 1) m_86 hm_86
      · refine ps_chk ?_
        refine ps_chk ?_
        refine ps_set hm (by decide) (fun m_86 hm_86 => ?_)
        exact hX (s4_6 + 1) (s5_6 + 1) m_86 hm_86
theorem ps_f_X12_comesTo {m0 : Mem} {N : Nat} {a1 : Int32} {a2 : Int32} {a3 : Int32} {m : Mem}  (hm : Ag m0 m) : PsA m0 (f_X12_comesTo N a1 a2 a3 m) := by
  unfold f_X12_comesTo
  exact ps_it2 (fun Y hY y0 y1 m1 hm1 => (ps_f_X12_comesTo_L6 hY hm1)) hm
theorem ps_f_X12_isSo {m0 : Mem} {N : Nat} {a1 : Int32} {m : Mem}  (hm : Ag m0 m) : PsA m0 (f_X12_isSo N a1 m) := by
  unfold f_X12_isSo
  refine ps_chk ?_
  refine ps_chk ?_
  refine ps_ite ?_ ?_
  · exact ps_ret hm
  · refine ps_chk ?_
    refine ps_chk ?_
    refine ps_bd ((ps_f_X12_comesTo hm)) (fun r_45 m_45 hm_45 => ?_)
    refine ps_ite ?_ ?_
    · exact ps_ret hm_45
    · exact ps_ret hm_45
theorem ps_f_X12_says_L3 {m0 : Mem} {N : Nat} {a1 : Int32} {a2 : Int32} {a3 : Int32} {K39 : Int32 → Mem → Ans} {X : Int32 → Mem → Ans} {s4_3 : Int32} {m : Mem} (hK39 : ∀ (q0 : Int32) (m : Mem), Ag m0 m → PsA m0 (K39 q0 m)) (hX : ∀ (q0 : Int32) (m : Mem), Ag m0 m → PsA m0 (X q0 m)) (hm : Ag m0 m) : PsA m0 (f_X12_says_L3 N a1 a2 a3 K39 X s4_3 m) := by
  unfold f_X12_says_L3
  refine ps_ite ?_ ?_
  · refine ps_bd ((ps_f_X12_lesser hm)) (fun r_84 m_84 hm_84 => ?_)
    refine ps_bd ((ps_f_X12_greater hm_84)) (fun r_87 m_87 hm_87 => ?_)
    exact ps_ret hm_87
  · refine ps_chk ?_
    refine ps_ite ?_ ?_
    · refine ps_bd ((ps_f_X12_isSo hm)) (fun r_33 m_33 hm_33 => ?_)
      refine ps_ite ?_ ?_
      · exact hX (s4_3 + 1) m_33 hm_33
      · exact hK39 s4_3 m_33 hm_33
    · exact hX (s4_3 + 1) m hm
theorem ps_f_X12_says {m0 : Mem} {N : Nat} {a1 : Int32} {a2 : Int32} {a3 : Int32} {m : Mem}  (hm : Ag m0 m) : PsA m0 (f_X12_says N a1 a2 a3 m) := by
  unfold f_X12_says
  exact ps_it1 (fun Y hY y0 m1 hm1 => (ps_f_X12_says_L3 (fun k4_39 mk39 hmk39 => by
            refine ps_chk ?_
            refine ps_chk ?_
            refine ps_bd ((ps_f_X12_comesTo hmk39)) (fun r_65 m_65 hm_65 => ?_)
            refine ps_bd ((ps_f_X12_lesser hm_65)) (fun r_68 m_68 hm_68 => ?_)
            refine ps_bd ((ps_f_X12_greater hm_68)) (fun r_71 m_71 hm_71 => ?_)
            exact ps_ret hm_71) hY hm1)) hm
theorem ps_f_X12_laysDeed_L2 {m0 : Mem} {N : Nat} {a1 : Int32} {K24 : Mem → Ans} {X : Int32 → Mem → Ans} {s2_2 : Int32} {m : Mem} (hK24 : ∀ (m : Mem), Ag m0 m → PsA m0 (K24  m)) (hX : ∀ (q0 : Int32) (m : Mem), Ag m0 m → PsA m0 (X q0 m)) (hm : Ag m0 m) : PsA m0 (f_X12_laysDeed_L2 N a1 K24 X s2_2 m) := by
  unfold f_X12_laysDeed_L2
  refine ps_ite ?_ ?_
  · exact hK24  m hm
  · refine ps_chk ?_
    refine ps_set hm (by decide) (fun m_17 hm_17 => ?_)
    exact hX (s2_2 + 1) m_17 hm_17
theorem ps_f_X12_laysDeed {m0 : Mem} {N : Nat} {a1 : Int32} {m : Mem}  (hm : Ag m0 m) : PsA m0 (f_X12_laysDeed N a1 m) := by
  unfold f_X12_laysDeed
  exact ps_it1 (fun Y hY y0 m1 hm1 => (ps_f_X12_laysDeed_L2 (fun mk24 hmk24 => by
            refine ps_chk ?_
            refine ps_set hmk24 (by decide) (fun m_39 hm_39 => ?_)
            refine ps_chk ?_
            refine ps_set hm_39 (by decide) (fun m_55 hm_55 => ?_)
            refine ps_set hm_55 (by decide) (fun m_68 hm_68 => ?_)
            refine ps_set hm_68 (by decide) (fun m_84 hm_84 => ?_)
            exact ps_ret hm_84) hY hm1)) hm
theorem ps_f_X12_loudOf {m0 : Mem} {N : Nat} {a1 : Int32} {m : Mem}  (hm : Ag m0 m) : PsA m0 (f_X12_loudOf N a1 m) := by
  unfold f_X12_loudOf
  refine ps_bd ((ps_f_X12_laysDeed hm)) (fun _ m_2 hm_2 => ?_)
  refine ps_chk ?_
  refine ps_bd ((ps_f_X12_says hm_2)) (fun r_21 m_21 hm_21 => ?_)
  exact ps_ret hm_21
theorem ps_f_X12_wearsOf {m0 : Mem} {N : Nat} {a1 : Int32} {m : Mem}  (hm : Ag m0 m) : PsA m0 (f_X12_wearsOf N a1 m) := by
  unfold f_X12_wearsOf
  refine ps_bd ((ps_f_X12_laysDeed hm)) (fun _ m_2 hm_2 => ?_)
  refine ps_bd ((ps_f_X12_says hm_2)) (fun r_11 m_11 hm_11 => ?_)
  exact ps_ret hm_11
theorem ps_f_X12_clapOf {m0 : Mem} {N : Nat} {a1 : Int32} {a2 : Int32} {a3 : Int32} {m : Mem}  (hm : Ag m0 m) : PsA m0 (f_X12_clapOf N a1 a2 a3 m) := by
  unfold f_X12_clapOf
  refine ps_bd ((ps_f_X12_laysDeed hm)) (fun _ m_2 hm_2 => ?_)
  refine ps_set hm_2 (by decide) (fun m_11 hm_11 => ?_)
  refine ps_chk ?_
  refine ps_set hm_11 (by decide) (fun m_26 hm_26 => ?_)
  refine ps_chk ?_
  refine ps_set hm_26 (by decide) (fun m_41 hm_41 => ?_)
  refine ps_chk ?_
  refine ps_set hm_41 (by decide) (fun m_56 hm_56 => ?_)
  refine ps_chk ?_
  refine ps_set hm_56 (by decide) (fun m_71 hm_71 => ?_)
  refine ps_set hm_71 (by decide) (fun m_79 hm_79 => ?_)
  refine ps_chk ?_
  refine ps_bd ((ps_f_X12_says hm_79)) (fun r_98 m_98 hm_98 => ?_)
  exact ps_ret hm_98
theorem ps_f_X12_handsAsked_L4 {m0 : Mem} {N : Nat} {X : Int32 → Int32 → Mem → Ans} {s1_4 : Int32} {s2_4 : Int32} {m : Mem} (hX : ∀ (q0 : Int32) (q1 : Int32) (m : Mem), Ag m0 m → PsA m0 (X q0 q1 m)) (hm : Ag m0 m) : PsA m0 (f_X12_handsAsked_L4 N X s1_4 s2_4 m) := by
  unfold f_X12_handsAsked_L4
  refine ps_ite ?_ ?_
  · refine ps_ite ?_ ?_
    · exact ps_ret hm
    · refine ps_chk ?_
      exact ps_ret hm
  · refine ps_bnd (fun a3_21 => ?_)
    refine ps_chk ?_
    refine ps_ite ?_ ?_
    · refine ps_chk ?_
      refine ps_ite ?_ ?_
      · exact hX s1_4 (s2_4 + 1) m hm
      · refine ps_ite ?_ ?_
        · exact hX a3_21 (s2_4 + 1) m hm
        · refine ps_chk ?_
          refine ps_chk ?_
          refine ps_ite ?_ ?_
          · exact hX s1_4 (s2_4 + 1) m hm
          · exact hX a3_21 (s2_4 + 1) m hm
    · exact hX s1_4 (s2_4 + 1) m hm
theorem ps_f_X12_handsAsked {m0 : Mem} {N : Nat} {m : Mem}  (hm : Ag m0 m) : PsA m0 (f_X12_handsAsked N m) := by
  unfold f_X12_handsAsked
  exact ps_it2 (fun Y hY y0 y1 m1 hm1 => (ps_f_X12_handsAsked_L4 hY hm1)) hm
theorem ps_f_X12_lastRule_L5 {m0 : Mem} {N : Nat} {a1 : Int32} {a2 : Int32} {X : Int32 → Int32 → Mem → Ans} {s3_5 : Int32} {s4_5 : Int32} {m : Mem} (hX : ∀ (q0 : Int32) (q1 : Int32) (m : Mem), Ag m0 m → PsA m0 (X q0 q1 m)) (hm : Ag m0 m) : PsA m0 (f_X12_lastRule_L5 N a1 a2 X s3_5 s4_5 m) := by
  unfold f_X12_lastRule_L5
  refine ps_ite ?_ ?_
  · exact ps_ret hm
  · refine ps_chk ?_
    refine ps_ite ?_ ?_
    · refine ps_chk ?_
      refine ps_bnd (fun a3_51 => ?_)
      exact hX a3_51 (s4_5 + 1) m hm
    · exact hX s3_5 (s4_5 + 1) m hm
theorem ps_f_X12_lastRule {m0 : Mem} {N : Nat} {a1 : Int32} {a2 : Int32} {m : Mem}  (hm : Ag m0 m) : PsA m0 (f_X12_lastRule N a1 a2 m) := by
  unfold f_X12_lastRule
  exact ps_it2 (fun Y hY y0 y1 m1 hm1 => (ps_f_X12_lastRule_L5 hY hm1)) hm
theorem ps_f_X12_mostAgains {m0 : Mem} {N : Nat} {m : Mem}  (hm : Ag m0 m) : PsA m0 (f_X12_mostAgains N m) := by
  unfold f_X12_mostAgains
  refine ps_bd ((ps_f_X12_lastRule hm)) (fun r_5 m_5 hm_5 => ?_)
  exact ps_ret hm_5
theorem ps_f_X12_endsAt {m0 : Mem} {N : Nat} {m : Mem}  (hm : Ag m0 m) : PsA m0 (f_X12_endsAt N m) := by
  unfold f_X12_endsAt
  refine ps_bd ((ps_f_X12_lastRule hm)) (fun r_6 m_6 hm_6 => ?_)
  exact ps_ret hm_6
theorem ps_f_X12_countsAs_L2 {m0 : Mem} {N : Nat} {a1 : Int32} {X : Int32 → Mem → Ans} {s2_2 : Int32} {m : Mem} (hX : ∀ (q0 : Int32) (m : Mem), Ag m0 m → PsA m0 (X q0 m)) (hm : Ag m0 m) : PsA m0 (f_X12_countsAs_L2 N a1 X s2_2 m) := by
  unfold f_X12_countsAs_L2
  refine ps_ite ?_ ?_
  · exact ps_ret hm
  · refine ps_chk ?_
    refine ps_ite ?_ ?_
    · refine ps_chk ?_
      refine ps_ite ?_ ?_
      · exact ps_ret hm
      · exact hX (s2_2 + 1) m hm
    · exact hX (s2_2 + 1) m hm
theorem ps_f_X12_countsAs {m0 : Mem} {N : Nat} {a1 : Int32} {m : Mem}  (hm : Ag m0 m) : PsA m0 (f_X12_countsAs N a1 m) := by
  unfold f_X12_countsAs
  exact ps_it1 (fun Y hY y0 m1 hm1 => (ps_f_X12_countsAs_L2 hY hm1)) hm
theorem ps_f_X12_keeps_L51 {m0 : Mem} {N : Nat} {X : Int32 → Mem → Ans} {s1_51 : Int32} {m : Mem} (hX : ∀ (q0 : Int32) (m : Mem), Ag m0 m → PsA m0 (X q0 m)) (hm : Ag m0 m) : PsA m0 (f_X12_keeps_L51 N X s1_51 m) := by
  unfold f_X12_keeps_L51
  refine ps_ite ?_ ?_
  · refine ps_set hm (by decide) (fun m_90 hm_90 => ?_)
    refine ps_set hm_90 (by decide) (fun m_95 hm_95 => ?_)
    exact ps_ret hm_95
  · refine ps_chk ?_
    refine ps_chk ?_
    refine ps_set hm (by decide) (fun m_76 hm_76 => ?_)
    exact hX (s1_51 + 1) m_76 hm_76
theorem ps_f_X12_keeps_J49 {m0 : Mem} {N : Nat} {m : Mem}  (hm : Ag m0 m) : PsA m0 (f_X12_keeps_J49 N m) := by
  unfold f_X12_keeps_J49
  exact ps_it1 (fun Y hY y0 m1 hm1 => (ps_f_X12_keeps_L51 hY hm1)) hm
theorem ps_f_X12_keeps_L11 {m0 : Mem} {N : Nat} {K39 : Mem → Ans} {X : Int32 → Mem → Ans} {s1_11 : Int32} {m : Mem} (hK39 : ∀ (m : Mem), Ag m0 m → PsA m0 (K39  m)) (hX : ∀ (q0 : Int32) (m : Mem), Ag m0 m → PsA m0 (X q0 m)) (hm : Ag m0 m) : PsA m0 (f_X12_keeps_L11 N K39 X s1_11 m) := by
  unfold f_X12_keeps_L11
  refine ps_ite ?_ ?_
  · exact hK39  m hm
  · refine ps_chk ?_
    refine ps_chk ?_
    refine ps_set hm (by decide) (fun m_32 hm_32 => ?_)
    exact hX (s1_11 + 1) m_32 hm_32
theorem ps_f_X12_keeps {m0 : Mem} {N : Nat} {m : Mem}  (hm : Ag m0 m) : PsA m0 (f_X12_keeps N m) := by
  unfold f_X12_keeps
  refine ps_ite ?_ ?_
  · exact ps_it1 (fun Y hY y0 m1 hm1 => (ps_f_X12_keeps_L11 (fun mk39 hmk39 => by
            refine ps_set hmk39 (by decide) (fun m_46 hm_46 => ?_)
            exact (ps_f_X12_keeps_J49 hm_46)) hY hm1)) hm
  · exact (ps_f_X12_keeps_J49 hm)
theorem ps_f_X12_undo_L21 {m0 : Mem} {N : Nat} {X : Int32 → Mem → Ans} {s1_21 : Int32} {m : Mem} (hX : ∀ (q0 : Int32) (m : Mem), Ag m0 m → PsA m0 (X q0 m)) (hm : Ag m0 m) : PsA m0 (f_X12_undo_L21 N X s1_21 m) := by
  unfold f_X12_undo_L21
  refine ps_ite ?_ ?_
  · exact ps_ret hm
  · refine ps_chk ?_
    refine ps_chk ?_
    refine ps_set hm (by decide) (fun m_46 hm_46 => ?_)
    exact hX (s1_21 + 1) m_46 hm_46
theorem ps_f_X12_undo {m0 : Mem} {N : Nat} {m : Mem}  (hm : Ag m0 m) : PsA m0 (f_X12_undo N m) := by
  unfold f_X12_undo
  refine ps_ite ?_ ?_
  · exact ps_ret hm
  · refine ps_set hm (by decide) (fun m_16 hm_16 => ?_)
    exact ps_it1 (fun Y hY y0 m1 hm1 => (ps_f_X12_undo_L21 hY hm1)) hm_16
theorem ps_f_X12_notes {m0 : Mem} {N : Nat} {a1 : Int32} {a2 : Int32} {a3 : Int32} {m : Mem}  (hm : Ag m0 m) : PsA m0 (f_X12_notes N a1 a2 a3 m) := by
  unfold f_X12_notes
  refine ps_ite ?_ ?_
  · exact ps_ret hm
  · refine ps_ite ?_ ?_
    · exact ps_ret hm
    · refine ps_bnd (fun a4_34 => ?_)
      refine ps_chk ?_
      refine ps_set hm (by decide) (fun m_48 hm_48 => ?_)
      refine ps_chk ?_
      refine ps_set hm_48 (by decide) (fun m_58 hm_58 => ?_)
      refine ps_chk ?_
      refine ps_set hm_58 (by decide) (fun m_68 hm_68 => ?_)
      refine ps_chk ?_
      refine ps_set hm_68 (by decide) (fun m_78 hm_78 => ?_)
      refine ps_set hm_78 (by decide) (fun m_89 hm_89 => ?_)
      exact ps_ret hm_89
theorem ps_f_X12_begins0_J27 {m0 : Mem} {N : Nat} {a1 : Int32} {t0_27 : Int32} {t1_27 : Int32} {m : Mem}  (hm : Ag m0 m) : PsA m0 (f_X12_begins0_J27 N a1 t0_27 t1_27 m) := by
  unfold f_X12_begins0_J27
  refine ps_chk ?_
  refine ps_set hm (by decide) (fun m_27 hm_27 => ?_)
  refine ps_set hm_27 (by decide) (fun m_34 hm_34 => ?_)
  refine ps_bd ((ps_f_X12_wearsOf hm_34)) (fun r_37 m_37 hm_37 => ?_)
  refine ps_chk ?_
  refine ps_set hm_37 (by decide) (fun m_58 hm_58 => ?_)
  refine ps_chk ?_
  refine ps_set hm_58 (by decide) (fun m_76 hm_76 => ?_)
  refine ps_chk ?_
  refine ps_chk ?_
  refine ps_set hm_76 (by decide) (fun m_89 hm_89 => ?_)
  refine ps_chk ?_
  refine ps_bd ((ps_f_X12_lesser hm_89)) (fun r_111 m_111 hm_111 => ?_)
  refine ps_chk ?_
  refine ps_set hm_111 (by decide) (fun m_114 hm_114 => ?_)
  exact ps_ret hm_114
theorem ps_f_X12_begins0 {m0 : Mem} {N : Nat} {a1 : Int32} {m : Mem}  (hm : Ag m0 m) : PsA m0 (f_X12_begins0 N a1 m) := by
  unfold f_X12_begins0
  refine ps_ite ?_ ?_
  · exact (ps_f_X12_begins0_J27 hm)
  · exact (ps_f_X12_begins0_J27 hm)
theorem ps_f_X12_aRound_L4 {m0 : Mem} {N : Nat} {a1 : Int32} {X : Int32 → Int32 → Mem → Ans} {s2_4 : Int32} {s3_4 : Int32} {m : Mem} (hX : ∀ (q0 : Int32) (q1 : Int32) (m : Mem), Ag m0 m → PsA m0 (X q0 q1 m)) (hm : Ag m0 m) : PsA m0 (f_X12_aRound_L4 N a1 X s2_4 s3_4 m) := by
  unfold f_X12_aRound_L4
  refine ps_ite ?_ ?_
  · refine ps_chk ?_
    exact ps_ret hm
  · refine ps_bd ((ps_f_X12_isThere hm)) (fun r_17 m_17 hm_17 => ?_)
    refine ps_ite ?_ ?_
    · exact hX s2_4 (s3_4 + 1) m_17 hm_17
    · refine ps_bd ((ps_f_X12_isGloved hm_17)) (fun r_25 m_25 hm_25 => ?_)
      refine ps_ite ?_ ?_
      · refine ps_ite ?_ ?_
        · exact hX s2_4 (s3_4 + 1) m_25 hm_25
        · refine ps_chk ?_
          refine ps_chk ?_
          refine ps_bd ((ps_f_X12_count hm_25)) (fun r_70 m_70 hm_70 => ?_)
          refine ps_bd ((ps_f_X12_clapOf hm_70)) (fun r_73 m_73 hm_73 => ?_)
          refine ps_ite ?_ ?_
          · refine ps_set hm_73 (by decide) (fun m_91 hm_91 => ?_)
            exact hX 1 (s3_4 + 1) m_91 hm_91
          · exact hX s2_4 (s3_4 + 1) m_73 hm_73
      · exact hX s2_4 (s3_4 + 1) m_25 hm_25
theorem ps_f_X12_aRound {m0 : Mem} {N : Nat} {a1 : Int32} {m : Mem}  (hm : Ag m0 m) : PsA m0 (f_X12_aRound N a1 m) := by
  unfold f_X12_aRound
  exact ps_it2 (fun Y hY y0 y1 m1 hm1 => (ps_f_X12_aRound_L4 hY hm1)) hm
theorem ps_f_X12_handsClapping_L4 {m0 : Mem} {N : Nat} {X : Int32 → Int32 → Mem → Ans} {s1_4 : Int32} {s2_4 : Int32} {m : Mem} (hX : ∀ (q0 : Int32) (q1 : Int32) (m : Mem), Ag m0 m → PsA m0 (X q0 q1 m)) (hm : Ag m0 m) : PsA m0 (f_X12_handsClapping_L4 N X s1_4 s2_4 m) := by
  unfold f_X12_handsClapping_L4
  refine ps_ite ?_ ?_
  · exact ps_ret hm
  · refine ps_ite ?_ ?_
    · refine ps_chk ?_
      refine ps_bd ((ps_f_X12_countsAs hm)) (fun r_39 m_39 hm_39 => ?_)
      refine ps_bnd (fun a1_48 => ?_)
      exact hX a1_48 (s2_4 + 1) m_39 hm_39
    · refine ps_bnd (fun a1_48 => ?_)
      exact hX a1_48 (s2_4 + 1) m hm
theorem ps_f_X12_handsClapping {m0 : Mem} {N : Nat} {m : Mem}  (hm : Ag m0 m) : PsA m0 (f_X12_handsClapping N m) := by
  unfold f_X12_handsClapping
  exact ps_it2 (fun Y hY y0 y1 m1 hm1 => (ps_f_X12_handsClapping_L4 hY hm1)) hm
theorem ps_f_X12_claps_L2 {m0 : Mem} {N : Nat} {a1 : Int32} {K53 : Mem → Ans} {X : Int32 → Mem → Ans} {s2_2 : Int32} {m : Mem} (hK53 : ∀ (m : Mem), Ag m0 m → PsA m0 (K53  m)) (hX : ∀ (q0 : Int32) (m : Mem), Ag m0 m → PsA m0 (X q0 m)) (hm : Ag m0 m) : PsA m0 (f_X12_claps_L2 N a1 K53 X s2_2 m) := by
  unfold f_X12_claps_L2
  refine ps_ite ?_ ?_
  · exact hK53  m hm
  · refine ps_bd ((ps_f_X12_isThere hm)) (fun r_15 m_15 hm_15 => ?_)
    refine ps_ite ?_ ?_
    · exact hX (s2_2 + 1) m_15 hm_15
    · refine ps_ite ?_ ?_
      · refine ps_chk ?_
        refine ps_set hm_15 (by decide) (fun m_46 hm_46 => ?_)
        exact hX (s2_2 + 1) m_46 hm_46
      · refine ps_bd ((ps_f_X12_draw hm_15)) (fun r_37 m_37 hm_37 => ?_)
        refine ps_chk ?_
        refine ps_set hm_37 (by decide) (fun m_46 hm_46 => ?_)
        exact hX (s2_2 + 1) m_46 hm_46
theorem ps_f_X12_claps_L63 {m0 : Mem} {N : Nat} {a1 : Int32} {K84 : Mem → Ans} {X : Mem → Ans} {m : Mem} (hK84 : ∀ (m : Mem), Ag m0 m → PsA m0 (K84  m)) (hX : ∀ (m : Mem), Ag m0 m → PsA m0 (X  m)) (hm : Ag m0 m) : PsA m0 (f_X12_claps_L63 N a1 K84 X m) := by
  unfold f_X12_claps_L63
  refine ps_bd ((ps_f_X12_aRound hm)) (fun r_65 m_65 hm_65 => ?_)
  refine ps_ite ?_ ?_
  · exact hK84  m_65 hm_65
  · refine ps_set hm_65 (by decide) (fun m_78 hm_78 => ?_)
    exact hX  m_78 hm_78
theorem ps_f_X12_claps_J204 {m0 : Mem} {N : Nat} {a1 : Int32} {t0_204 : Int32} {m : Mem}  (hm : Ag m0 m) : PsA m0 (f_X12_claps_J204 N a1 t0_204 m) := by
  unfold f_X12_claps_J204
  refine ps_chk ?_
  refine ps_set hm (by decide) (fun m_204 hm_204 => ?_)
  refine ps_ite ?_ ?_
  · refine ps_bd ((ps_f_X12_notes hm_204)) (fun _ m_227 hm_227 => ?_)
    exact ps_ret hm_227
  · refine ps_bd ((ps_f_X12_notes hm_204)) (fun _ m_227 hm_227 => ?_)
    exact ps_ret hm_227
theorem ps_f_X12_claps_J203 {m0 : Mem} {N : Nat} {a1 : Int32} {m : Mem}  (hm : Ag m0 m) : PsA m0 (f_X12_claps_J203 N a1 m) := by
  unfold f_X12_claps_J203
  exact (ps_f_X12_claps_J204 hm)
theorem ps_f_X12_claps_J154 {m0 : Mem} {N : Nat} {a1 : Int32} {s2_154 : Int32} {t0_154 : Int32} {m : Mem}  (hm : Ag m0 m) : PsA m0 (f_X12_claps_J154 N a1 s2_154 t0_154 m) := by
  unfold f_X12_claps_J154
  refine ps_set hm (by decide) (fun m_154 hm_154 => ?_)
  refine ps_ite ?_ ?_
  · refine ps_bd ((ps_f_X12_handsAsked hm_154)) (fun r_167 m_167 hm_167 => ?_)
    refine ps_ite ?_ ?_
    · exact (ps_f_X12_claps_J203 hm_167)
    · refine ps_bd ((ps_f_X12_mostAgains hm_167)) (fun r_180 m_180 hm_180 => ?_)
      refine ps_ite ?_ ?_
      · exact (ps_f_X12_claps_J203 hm_180)
      · refine ps_bd ((ps_f_X12_endsAt hm_180)) (fun r_193 m_193 hm_193 => ?_)
        refine ps_ite ?_ ?_
        · exact (ps_f_X12_claps_J203 hm_193)
        · exact (ps_f_X12_claps_J204 hm_193)
  · exact (ps_f_X12_claps_J203 hm_154)
theorem ps_f_X12_claps_J135 {m0 : Mem} {N : Nat} {a1 : Int32} {s2_135 : Int32} {m : Mem}  (hm : Ag m0 m) : PsA m0 (f_X12_claps_J135 N a1 s2_135 m) := by
  unfold f_X12_claps_J135
  refine ps_ite ?_ ?_
  · refine ps_bd ((ps_f_X12_loudOf hm)) (fun r_146 m_146 hm_146 => ?_)
    refine ps_bd ((ps_f_X12_handsClapping hm_146)) (fun r_150 m_150 hm_150 => ?_)
    exact (ps_f_X12_claps_J154 hm_150)
  · exact (ps_f_X12_claps_J154 hm)
theorem ps_f_X12_claps_J123 {m0 : Mem} {N : Nat} {a1 : Int32} {t0_123 : Int32} {m : Mem}  (hm : Ag m0 m) : PsA m0 (f_X12_claps_J123 N a1 t0_123 m) := by
  unfold f_X12_claps_J123
  refine ps_ite ?_ ?_
  · exact (ps_f_X12_claps_J135 hm)
  · refine ps_bd ((ps_f_X12_notes hm)) (fun _ m_132 hm_132 => ?_)
    exact (ps_f_X12_claps_J135 hm_132)
theorem ps_f_X12_claps_J122 {m0 : Mem} {N : Nat} {a1 : Int32} {m : Mem}  (hm : Ag m0 m) : PsA m0 (f_X12_claps_J122 N a1 m) := by
  unfold f_X12_claps_J122
  exact (ps_f_X12_claps_J123 hm)
theorem ps_f_X12_claps {m0 : Mem} {N : Nat} {a1 : Int32} {m : Mem}  (hm : Ag m0 m) : PsA m0 (f_X12_claps N a1 m) := by
  unfold f_X12_claps
  exact ps_it1 (fun Y hY y0 m1 hm1 => (ps_f_X12_claps_L2 (fun mk53 hmk53 => by
            refine ps_set hmk53 (by decide) (fun m_55 hm_55 => ?_)
            refine ps_set hm_55 (by decide) (fun m_60 hm_60 => ?_)
            exact ps_it0 (fun Y hY  m1 hm1 => (ps_f_X12_claps_L63 (fun mk84 hmk84 => by
            refine ps_ite ?_ ?_
            · exact (ps_f_X12_claps_J122 hmk84)
            · refine ps_ite ?_ ?_
              · exact (ps_f_X12_claps_J122 hmk84)
              · refine ps_bd ((ps_f_X12_draw hmk84)) (fun r_105 m_105 hm_105 => ?_)
                refine ps_ite ?_ ?_
                · exact (ps_f_X12_claps_J122 hm_105)
                · exact (ps_f_X12_claps_J123 hm_105)) hY hm1)) hm_60) hY hm1)) hm
theorem ps_f_X12_does_L7 {m0 : Mem} {N : Nat} {a1 : Int32} {X : Int32 → Mem → Ans} {s2_7 : Int32} {m : Mem} (hX : ∀ (q0 : Int32) (m : Mem), Ag m0 m → PsA m0 (X q0 m)) (hm : Ag m0 m) : PsA m0 (f_X12_does_L7 N a1 X s2_7 m) := by
  unfold f_X12_does_L7
  refine ps_ite ?_ ?_
  · exact ps_ret hm
  · refine ps_bd ((ps_f_X12_begins0 hm)) (fun _ m_16 hm_16 => ?_)
    refine ps_bd ((ps_f_X12_claps hm_16)) (fun _ m_21 hm_21 => ?_)
    exact hX (s2_7 + 1) m_21 hm_21
theorem ps_f_X12_does {m0 : Mem} {N : Nat} {a1 : Int32} {m : Mem}  (hm : Ag m0 m) : PsA m0 (f_X12_does N a1 m) := by
  unfold f_X12_does
  refine ps_set hm (by decide) (fun m_4 hm_4 => ?_)
  exact ps_it1 (fun Y hY y0 m1 hm1 => (ps_f_X12_does_L7 hY hm1)) hm_4
theorem ps_f_X12_perform {m0 : Mem} {N : Nat} {a1 : Int32} {m : Mem}  (hm : Ag m0 m) : PsA m0 (f_X12_perform N a1 m) := by
  unfold f_X12_perform
  refine ps_bd ((ps_f_X12_isDeed hm)) (fun r_2 m_2 hm_2 => ?_)
  refine ps_ite ?_ ?_
  · exact ps_ret hm_2
  · refine ps_chk ?_
    refine ps_ite ?_ ?_
    · refine ps_bd ((ps_f_X12_keeps hm_2)) (fun _ m_36 hm_36 => ?_)
      refine ps_bd ((ps_f_X12_does hm_36)) (fun r_41 m_41 hm_41 => ?_)
      exact ps_ret hm_41
    · exact ps_ret hm_2
theorem ps_f_X12_pay {m0 : Mem} {N : Nat} {a1 : Int32} {a2 : Int32} {m : Mem}  (hm : Ag m0 m) : PsA m0 (f_X12_pay N a1 a2 m) := by
  unfold f_X12_pay
  refine ps_bd ((ps_f_X12_isHearer hm)) (fun r_2 m_2 hm_2 => ?_)
  refine ps_ite ?_ ?_
  · exact ps_ret hm_2
  · refine ps_bd ((ps_f_X12_isIn hm_2)) (fun r_12 m_12 hm_12 => ?_)
    refine ps_ite ?_ ?_
    · exact ps_ret hm_12
    · refine ps_bd ((ps_f_X12_keeps hm_12)) (fun _ m_21 hm_21 => ?_)
      refine ps_chk ?_
      refine ps_bd ((ps_f_X12_lesser hm_21)) (fun r_45 m_45 hm_45 => ?_)
      refine ps_chk ?_
      refine ps_set hm_45 (by decide) (fun m_48 hm_48 => ?_)
      refine ps_set hm_48 (by decide) (fun m_58 hm_58 => ?_)
      refine ps_bd ((ps_f_X12_notes hm_58)) (fun _ m_63 hm_63 => ?_)
      exact ps_ret hm_63
theorem ps_f_X12_glove {m0 : Mem} {N : Nat} {a1 : Int32} {a2 : Int32} {m : Mem}  (hm : Ag m0 m) : PsA m0 (f_X12_glove N a1 a2 m) := by
  unfold f_X12_glove
  refine ps_bd ((ps_f_X12_isHearer hm)) (fun r_2 m_2 hm_2 => ?_)
  refine ps_ite ?_ ?_
  · exact ps_ret hm_2
  · refine ps_bd ((ps_f_X12_isGloved hm_2)) (fun r_10 m_10 hm_10 => ?_)
    refine ps_ite ?_ ?_
    · exact ps_ret hm_10
    · refine ps_bd ((ps_f_X12_keeps hm_10)) (fun _ m_20 hm_20 => ?_)
      refine ps_set hm_20 (by decide) (fun m_35 hm_35 => ?_)
      refine ps_ite ?_ ?_
      · refine ps_bd ((ps_f_X12_notes hm_35)) (fun _ m_48 hm_48 => ?_)
        exact ps_ret hm_48
      · refine ps_bd ((ps_f_X12_notes hm_35)) (fun _ m_48 hm_48 => ?_)
        exact ps_ret hm_48
theorem ps_f_X12_let {m0 : Mem} {N : Nat} {a1 : Int32} {a2 : Int32} {m : Mem}  (hm : Ag m0 m) : PsA m0 (f_X12_let N a1 a2 m) := by
  unfold f_X12_let
  refine ps_bd ((ps_f_X12_isHearer hm)) (fun r_2 m_2 hm_2 => ?_)
  refine ps_ite ?_ ?_
  · exact ps_ret hm_2
  · refine ps_bd ((ps_f_X12_isThere hm_2)) (fun r_10 m_10 hm_10 => ?_)
    refine ps_ite ?_ ?_
    · exact ps_ret hm_10
    · refine ps_bd ((ps_f_X12_keeps hm_10)) (fun _ m_20 hm_20 => ?_)
      refine ps_set hm_20 (by decide) (fun m_35 hm_35 => ?_)
      refine ps_ite ?_ ?_
      · refine ps_bd ((ps_f_X12_notes hm_35)) (fun _ m_48 hm_48 => ?_)
        exact ps_ret hm_48
      · refine ps_bd ((ps_f_X12_notes hm_35)) (fun _ m_48 hm_48 => ?_)
        exact ps_ret hm_48
theorem ps_f_X12_anEvening_L25 {m0 : Mem} {N : Nat} {X : Int32 → Int32 → Mem → Ans} {s1_25 : Int32} {s2_25 : Int32} {m : Mem} (hX : ∀ (q0 : Int32) (q1 : Int32) (m : Mem), Ag m0 m → PsA m0 (X q0 q1 m)) (hm : Ag m0 m) : PsA m0 (f_X12_anEvening_L25 N X s1_25 s2_25 m) := by
  unfold f_X12_anEvening_L25
  refine ps_ite ?_ ?_
  · refine ps_set hm (by decide) (fun m_112 hm_112 => ?_)
    exact ps_ret hm_112
  · refine ps_chk ?_
    refine ps_bd ((ps_f_X12_greater hm)) (fun r_59 m_59 hm_59 => ?_)
    refine ps_set hm_59 (by decide) (fun m_62 hm_62 => ?_)
    refine ps_bd ((ps_f_X12_endsAt hm_62)) (fun r_70 m_70 hm_70 => ?_)
    refine ps_ite ?_ ?_
    · exact hX s1_25 (s2_25 + 1) m_70 hm_70
    · refine ps_chk ?_
      refine ps_bd ((ps_f_X12_does hm_70)) (fun r_92 m_92 hm_92 => ?_)
      refine ps_bnd (fun a1_96 => ?_)
      exact hX a1_96 (s2_25 + 1) m_92 hm_92
theorem ps_f_X12_anEvening {m0 : Mem} {N : Nat} {m : Mem}  (hm : Ag m0 m) : PsA m0 (f_X12_anEvening N m) := by
  unfold f_X12_anEvening
  refine ps_set hm (by decide) (fun m_6 hm_6 => ?_)
  refine ps_set hm_6 (by decide) (fun m_13 hm_13 => ?_)
  refine ps_set hm_13 (by decide) (fun m_20 hm_20 => ?_)
  exact ps_it2 (fun Y hY y0 y1 m1 hm1 => (ps_f_X12_anEvening_L25 hY hm1)) hm_20
theorem ps_f_X12_evenings_L30 {m0 : Mem} {N : Nat} {a1 : Int32} {X : Int32 → Int32 → Mem → Ans} {s2_30 : Int32} {s3_30 : Int32} {m : Mem} (hX : ∀ (q0 : Int32) (q1 : Int32) (m : Mem), Ag m0 m → PsA m0 (X q0 q1 m)) (hm : Ag m0 m) : PsA m0 (f_X12_evenings_L30 N a1 X s2_30 s3_30 m) := by
  unfold f_X12_evenings_L30
  refine ps_ite ?_ ?_
  · exact ps_ret hm
  · refine ps_bd ((ps_f_X12_keeps hm)) (fun _ m_36 hm_36 => ?_)
    refine ps_bd ((ps_f_X12_anEvening hm_36)) (fun r_41 m_41 hm_41 => ?_)
    refine ps_bnd (fun a2_45 => ?_)
    exact hX a2_45 (s3_30 + 1) m_41 hm_41
theorem ps_f_X12_evenings {m0 : Mem} {N : Nat} {a1 : Int32} {m : Mem}  (hm : Ag m0 m) : PsA m0 (f_X12_evenings N a1 m) := by
  unfold f_X12_evenings
  refine ps_bd ((ps_f_X12_isIn hm)) (fun r_4 m_4 hm_4 => ?_)
  refine ps_ite ?_ ?_
  · exact ps_ret hm_4
  · refine ps_ite ?_ ?_
    · exact ps_it2 (fun Y hY y0 y1 m1 hm1 => (ps_f_X12_evenings_L30 hY hm1)) hm_4
    · exact ps_ret hm_4
theorem ps_f_X12_of {m0 : Mem} {N : Nat} {a1 : Int32} {a2 : Int32} {m : Mem}  (hm : Ag m0 m) : PsA m0 (f_X12_of N a1 a2 m) := by
  unfold f_X12_of
  refine ps_bd ((ps_f_X12_isHearer hm)) (fun r_2 m_2 hm_2 => ?_)
  refine ps_ite ?_ ?_
  · exact ps_ret hm_2
  · refine ps_swt ⟨?_, ?_, ?_, ?_, ?_, trivial⟩ ?_
    · refine ps_bd ((ps_f_X12_isThere hm_2)) (fun r_46 m_46 hm_46 => ?_)
      refine ps_ite ?_ ?_
      · exact ps_ret hm_46
      · exact ps_ret hm_46
    · refine ps_bd ((ps_f_X12_isGloved hm_2)) (fun r_60 m_60 hm_60 => ?_)
      refine ps_ite ?_ ?_
      · exact ps_ret hm_60
      · exact ps_ret hm_60
    · refine ps_chk ?_
      exact ps_ret hm_2
    · refine ps_chk ?_
      exact ps_ret hm_2
    · refine ps_bd ((ps_f_X12_countsAs hm_2)) (fun r_95 m_95 hm_95 => ?_)
      exact ps_ret hm_95
    · refine ps_bd ((ps_f_X12_isIn hm_2)) (fun r_102 m_102 hm_102 => ?_)
      refine ps_ite ?_ ?_
      · refine ps_bd ((ps_f_X12_isDeed hm_102)) (fun r_128 m_128 hm_128 => ?_)
        refine ps_ite ?_ ?_
        · exact ps_ret hm_128
        · refine ps_bd ((ps_f_X12_clapOf hm_128)) (fun r_141 m_141 hm_141 => ?_)
          exact ps_ret hm_141
      · refine ps_chk ?_
        exact ps_ret hm_102
theorem ps_f_X12_deedOf {m0 : Mem} {N : Nat} {a1 : Int32} {a2 : Int32} {m : Mem}  (hm : Ag m0 m) : PsA m0 (f_X12_deedOf N a1 a2 m) := by
  unfold f_X12_deedOf
  refine ps_bd ((ps_f_X12_isDeed hm)) (fun r_2 m_2 hm_2 => ?_)
  refine ps_ite ?_ ?_
  · exact ps_ret hm_2
  · refine ps_swt ⟨?_, ?_, ?_, ?_, ?_, ?_, ?_, trivial⟩ ?_
    · refine ps_chk ?_
      exact ps_ret hm_2
    · refine ps_chk ?_
      exact ps_ret hm_2
    · refine ps_chk ?_
      exact ps_ret hm_2
    · refine ps_chk ?_
      exact ps_ret hm_2
    · refine ps_chk ?_
      exact ps_ret hm_2
    · refine ps_bd ((ps_f_X12_loudOf hm_2)) (fun r_104 m_104 hm_104 => ?_)
      exact ps_ret hm_104
    · refine ps_bd ((ps_f_X12_wearsOf hm_2)) (fun r_110 m_110 hm_110 => ?_)
      exact ps_ret hm_110
    · exact ps_ret hm_2
theorem ps_f_X12_statute {m0 : Mem} {N : Nat} {a1 : Int32} {m : Mem}  (hm : Ag m0 m) : PsA m0 (f_X12_statute N a1 m) := by
  unfold f_X12_statute
  refine ps_ite ?_ ?_
  · refine ps_bd ((ps_f_X12_handsAsked hm)) (fun r_5 m_5 hm_5 => ?_)
    exact ps_ret hm_5
  · refine ps_ite ?_ ?_
    · refine ps_bd ((ps_f_X12_mostAgains hm)) (fun r_17 m_17 hm_17 => ?_)
      exact ps_ret hm_17
    · refine ps_ite ?_ ?_
      · refine ps_bd ((ps_f_X12_endsAt hm)) (fun r_29 m_29 hm_29 => ?_)
        exact ps_ret hm_29
      · exact ps_ret hm
theorem ps_f_X12_book {m0 : Mem} {N : Nat} {a1 : Int32} {a2 : Int32} {m : Mem}  (hm : Ag m0 m) : PsA m0 (f_X12_book N a1 a2 m) := by
  unfold f_X12_book
  refine ps_bd ((ps_f_X12_isIn hm)) (fun r_11 m_11 hm_11 => ?_)
  refine ps_ite ?_ ?_
  · exact ps_ret hm_11
  · refine ps_bd ((ps_f_X12_isIn hm_11)) (fun r_20 m_20 hm_20 => ?_)
    refine ps_ite ?_ ?_
    · exact ps_ret hm_20
    · refine ps_chk ?_
      exact ps_ret hm_20
theorem ps_f_X12_look {m0 : Mem} {N : Nat} {a1 : Int32} {m : Mem}  (hm : Ag m0 m) : PsA m0 (f_X12_look N a1 m) := by
  unfold f_X12_look
  refine ps_swt ⟨?_, ?_, ?_, ?_, ?_, ?_, ?_, ?_, ?_, ?_, ?_, ?_, ?_, ?_, ?_, ?_, ?_, trivial⟩ ?_
  · exact ps_ret hm
  · exact ps_ret hm
  · exact ps_ret hm
  · exact ps_ret hm
  · exact ps_ret hm
  · exact ps_ret hm
  · exact ps_ret hm
  · exact ps_ret hm
  · exact ps_ret hm
  · exact ps_ret hm
  · exact ps_ret hm
  · exact ps_ret hm
  · exact ps_ret hm
  · exact ps_ret hm
  · exact ps_ret hm
  · exact ps_ret hm
  · exact ps_ret hm
  · exact ps_ret hm
