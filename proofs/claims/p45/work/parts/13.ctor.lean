variable {SX : SXT}
theorem ok_bndME {Sh' Sh : List SE} {d : Nat} {M : MD} {pc : Nat} {L : List (Option Value)} {st : List Value} {e : Mem} {f : Mem → Ans} (k : ∀ μ, μ = e → Ok SX Sh' d M pc L st Sh μ (f μ)) : Ok SX Sh' d M pc L st Sh e (bnd e f) := k e rfl
theorem dv_0 : ∀ j, j < 7 → defaultValue (ty0 j) = if isR 0 j = true then .null else .int 0 := by
  intro j hj
  match j, hj with
  | 0, _ => rfl
  | 1, _ => rfl
  | 2, _ => rfl
  | 3, _ => rfl
  | 4, _ => rfl
  | 5, _ => rfl
  | 6, _ => rfl
  | j + 7, hj => exact absurd hj (by omega)
theorem dv_1 : ∀ j, j < 11 → defaultValue (ty1 j) = if isR 1 j = true then .null else .int 0 := by
  intro j hj
  match j, hj with
  | 0, _ => rfl
  | 1, _ => rfl
  | 2, _ => rfl
  | 3, _ => rfl
  | 4, _ => rfl
  | 5, _ => rfl
  | 6, _ => rfl
  | 7, _ => rfl
  | 8, _ => rfl
  | 9, _ => rfl
  | 10, _ => rfl
  | j + 11, hj => exact absurd hj (by omega)
theorem dv_2 : ∀ j, j < 3 → defaultValue (ty2 j) = if isR 2 j = true then .null else .int 0 := by
  intro j hj
  match j, hj with
  | 0, _ => rfl
  | 1, _ => rfl
  | 2, _ => rfl
  | j + 3, hj => exact absurd hj (by omega)
theorem dv_3 : ∀ j, j < 4 → defaultValue (ty3 j) = if isR 3 j = true then .null else .int 0 := by
  intro j hj
  match j, hj with
  | 0, _ => rfl
  | 1, _ => rfl
  | 2, _ => rfl
  | 3, _ => rfl
  | j + 4, hj => exact absurd hj (by omega)
theorem dv_4 : ∀ j, j < 3 → defaultValue (ty4 j) = if isR 4 j = true then .null else .int 0 := by
  intro j hj
  match j, hj with
  | 0, _ => rfl
  | 1, _ => rfl
  | 2, _ => rfl
  | j + 3, hj => exact absurd hj (by omega)
theorem dv_5 : ∀ j, j < 1 → defaultValue (ty5 j) = if isR 5 j = true then .null else .int 0 := by
  intro j hj
  match j, hj with
  | 0, _ => rfl
  | j + 1, hj => exact absurd hj (by omega)
theorem dv_6 : ∀ j, j < 12 → defaultValue (ty6 j) = if isR 6 j = true then .null else .int 0 := by
  intro j hj
  match j, hj with
  | 0, _ => rfl
  | 1, _ => rfl
  | 2, _ => rfl
  | 3, _ => rfl
  | 4, _ => rfl
  | 5, _ => rfl
  | 6, _ => rfl
  | 7, _ => rfl
  | 8, _ => rfl
  | 9, _ => rfl
  | 10, _ => rfl
  | 11, _ => rfl
  | j + 12, hj => exact absurd hj (by omega)
theorem dv_7 : ∀ j, j < 1 → defaultValue (ty7 j) = if isR 7 j = true then .null else .int 0 := by
  intro j hj
  match j, hj with
  | 0, _ => rfl
  | j + 1, hj => exact absurd hj (by omega)
theorem dv_8 : ∀ j, j < 7 → defaultValue (ty8 j) = if isR 8 j = true then .null else .int 0 := by
  intro j hj
  match j, hj with
  | 0, _ => rfl
  | 1, _ => rfl
  | 2, _ => rfl
  | 3, _ => rfl
  | 4, _ => rfl
  | 5, _ => rfl
  | 6, _ => rfl
  | j + 7, hj => exact absurd hj (by omega)
theorem dv_9 : ∀ j, j < 4 → defaultValue (ty9 j) = if isR 9 j = true then .null else .int 0 := by
  intro j hj
  match j, hj with
  | 0, _ => rfl
  | 1, _ => rfl
  | 2, _ => rfl
  | 3, _ => rfl
  | j + 4, hj => exact absurd hj (by omega)
theorem dv_10 : ∀ j, j < 7 → defaultValue (ty10 j) = if isR 10 j = true then .null else .int 0 := by
  intro j hj
  match j, hj with
  | 0, _ => rfl
  | 1, _ => rfl
  | 2, _ => rfl
  | 3, _ => rfl
  | 4, _ => rfl
  | 5, _ => rfl
  | 6, _ => rfl
  | j + 7, hj => exact absurd hj (by omega)
theorem dv_11 : ∀ j, j < 13 → defaultValue (ty11 j) = if isR 11 j = true then .null else .int 0 := by
  intro j hj
  match j, hj with
  | 0, _ => rfl
  | 1, _ => rfl
  | 2, _ => rfl
  | 3, _ => rfl
  | 4, _ => rfl
  | 5, _ => rfl
  | 6, _ => rfl
  | 7, _ => rfl
  | 8, _ => rfl
  | 9, _ => rfl
  | 10, _ => rfl
  | 11, _ => rfl
  | 12, _ => rfl
  | j + 13, hj => exact absurd hj (by omega)
theorem dv_12 : ∀ j, j < 25 → defaultValue (ty12 j) = if isR 12 j = true then .null else .int 0 := by
  intro j hj
  match j, hj with
  | 0, _ => rfl
  | 1, _ => rfl
  | 2, _ => rfl
  | 3, _ => rfl
  | 4, _ => rfl
  | 5, _ => rfl
  | 6, _ => rfl
  | 7, _ => rfl
  | 8, _ => rfl
  | 9, _ => rfl
  | 10, _ => rfl
  | 11, _ => rfl
  | 12, _ => rfl
  | 13, _ => rfl
  | 14, _ => rfl
  | 15, _ => rfl
  | 16, _ => rfl
  | 17, _ => rfl
  | 18, _ => rfl
  | 19, _ => rfl
  | 20, _ => rfl
  | 21, _ => rfl
  | 22, _ => rfl
  | 23, _ => rfl
  | 24, _ => rfl
  | j + 25, hj => exact absurd hj (by omega)
theorem dv_13 : ∀ j, j < 4 → defaultValue (ty13 j) = if isR 13 j = true then .null else .int 0 := by
  intro j hj
  match j, hj with
  | 0, _ => rfl
  | 1, _ => rfl
  | 2, _ => rfl
  | 3, _ => rfl
  | j + 4, hj => exact absurd hj (by omega)
theorem dv_14 : ∀ j, j < 4 → defaultValue (ty14 j) = if isR 14 j = true then .null else .int 0 := by
  intro j hj
  match j, hj with
  | 0, _ => rfl
  | 1, _ => rfl
  | 2, _ => rfl
  | 3, _ => rfl
  | j + 4, hj => exact absurd hj (by omega)
def S_0 : List SE := []
def S_1 : List SE := [(11, 13, [none, none, none, none, none, none, none, none, none, none, none, none, none])]
def S_2 : List SE := [(11, 13, [none, none, none, none, none, none, none, none, none, none, none, none, none]), (100, 12, [])]
def S_3 : List SE := [(11, 13, [none, none, none, none, none, none, none, none, none, none, none, none, some 1]), (100, 12, [])]
def S_4 : List SE := [(11, 13, [none, none, none, none, none, none, none, none, none, none, none, none, some 1]), (100, 12, []), (1, 11, [none, none, none, none, none, none, none, none, none, none, none])]
def S_5 : List SE := [(11, 13, [none, none, none, none, none, none, none, none, none, none, none, none, some 1]), (100, 12, []), (1, 11, [none, none, none, none, none, none, none, none, none, none, none]), (9, 4, [none, none, none, none])]
def S_6 : List SE := [(11, 13, [none, none, none, none, none, none, none, none, none, none, none, none, some 1]), (100, 12, []), (1, 11, [none, none, none, none, none, none, none, none, none, none, none]), (9, 4, [none, none, none, none]), (100, 96, [])]
def S_7 : List SE := [(11, 13, [none, none, none, none, none, none, none, none, none, none, none, none, some 1]), (100, 12, []), (1, 11, [none, none, none, none, none, none, none, none, none, none, none]), (9, 4, [some 4, none, none, none]), (100, 96, [])]
def S_8 : List SE := [(11, 13, [none, none, none, none, none, none, none, none, none, none, none, none, some 1]), (100, 12, []), (1, 11, [some 3, none, none, none, none, none, none, none, none, none, none]), (9, 4, [some 4, none, none, none]), (100, 96, [])]
def S_9 : List SE := [(11, 13, [none, none, none, none, none, none, none, none, none, none, none, none, some 1]), (100, 12, []), (1, 11, [some 3, none, none, none, none, none, none, none, none, none, none]), (9, 4, [some 4, none, none, none]), (100, 96, []), (9, 4, [none, none, none, none])]
def S_10 : List SE := [(11, 13, [none, none, none, none, none, none, none, none, none, none, none, none, some 1]), (100, 12, []), (1, 11, [some 3, none, none, none, none, none, none, none, none, none, none]), (9, 4, [some 4, none, none, none]), (100, 96, []), (9, 4, [none, none, none, none]), (100, 40, [])]
def S_11 : List SE := [(11, 13, [none, none, none, none, none, none, none, none, none, none, none, none, some 1]), (100, 12, []), (1, 11, [some 3, none, none, none, none, none, none, none, none, none, none]), (9, 4, [some 4, none, none, none]), (100, 96, []), (9, 4, [some 6, none, none, none]), (100, 40, [])]
def S_12 : List SE := [(11, 13, [none, none, none, none, none, none, none, none, none, none, none, none, some 1]), (100, 12, []), (1, 11, [some 3, some 5, none, none, none, none, none, none, none, none, none]), (9, 4, [some 4, none, none, none]), (100, 96, []), (9, 4, [some 6, none, none, none]), (100, 40, [])]
def S_13 : List SE := [(11, 13, [none, none, none, none, none, none, none, none, none, none, none, none, some 1]), (100, 12, []), (1, 11, [some 3, some 5, none, none, none, none, none, none, none, none, none]), (9, 4, [some 4, none, none, none]), (100, 96, []), (9, 4, [some 6, none, none, none]), (100, 40, []), (9, 4, [none, none, none, none])]
def S_14 : List SE := [(11, 13, [none, none, none, none, none, none, none, none, none, none, none, none, some 1]), (100, 12, []), (1, 11, [some 3, some 5, none, none, none, none, none, none, none, none, none]), (9, 4, [some 4, none, none, none]), (100, 96, []), (9, 4, [some 6, none, none, none]), (100, 40, []), (9, 4, [none, none, none, none]), (100, 7, [])]
def S_15 : List SE := [(11, 13, [none, none, none, none, none, none, none, none, none, none, none, none, some 1]), (100, 12, []), (1, 11, [some 3, some 5, none, none, none, none, none, none, none, none, none]), (9, 4, [some 4, none, none, none]), (100, 96, []), (9, 4, [some 6, none, none, none]), (100, 40, []), (9, 4, [some 8, none, none, none]), (100, 7, [])]
def S_16 : List SE := [(11, 13, [none, none, none, none, none, none, none, none, none, none, none, none, some 1]), (100, 12, []), (1, 11, [some 3, some 5, some 7, none, none, none, none, none, none, none, none]), (9, 4, [some 4, none, none, none]), (100, 96, []), (9, 4, [some 6, none, none, none]), (100, 40, []), (9, 4, [some 8, none, none, none]), (100, 7, [])]
def S_17 : List SE := [(11, 13, [none, none, none, none, none, none, none, none, none, none, none, none, some 1]), (100, 12, []), (1, 11, [some 3, some 5, some 7, none, none, none, none, none, none, none, none]), (9, 4, [some 4, none, none, none]), (100, 96, []), (9, 4, [some 6, none, none, none]), (100, 40, []), (9, 4, [some 8, none, none, none]), (100, 7, []), (9, 4, [none, none, none, none])]
def S_18 : List SE := [(11, 13, [none, none, none, none, none, none, none, none, none, none, none, none, some 1]), (100, 12, []), (1, 11, [some 3, some 5, some 7, none, none, none, none, none, none, none, none]), (9, 4, [some 4, none, none, none]), (100, 96, []), (9, 4, [some 6, none, none, none]), (100, 40, []), (9, 4, [some 8, none, none, none]), (100, 7, []), (9, 4, [none, none, none, none]), (100, 600, [])]
def S_19 : List SE := [(11, 13, [none, none, none, none, none, none, none, none, none, none, none, none, some 1]), (100, 12, []), (1, 11, [some 3, some 5, some 7, none, none, none, none, none, none, none, none]), (9, 4, [some 4, none, none, none]), (100, 96, []), (9, 4, [some 6, none, none, none]), (100, 40, []), (9, 4, [some 8, none, none, none]), (100, 7, []), (9, 4, [some 10, none, none, none]), (100, 600, [])]
def S_20 : List SE := [(11, 13, [none, none, none, none, none, none, none, none, none, none, none, none, some 1]), (100, 12, []), (1, 11, [some 3, some 5, some 7, some 9, none, none, none, none, none, none, none]), (9, 4, [some 4, none, none, none]), (100, 96, []), (9, 4, [some 6, none, none, none]), (100, 40, []), (9, 4, [some 8, none, none, none]), (100, 7, []), (9, 4, [some 10, none, none, none]), (100, 600, [])]
def S_21 : List SE := [(11, 13, [none, none, none, none, none, none, none, none, none, none, none, none, some 1]), (100, 12, []), (1, 11, [some 3, some 5, some 7, some 9, none, none, none, none, none, none, none]), (9, 4, [some 4, none, none, none]), (100, 96, []), (9, 4, [some 6, none, none, none]), (100, 40, []), (9, 4, [some 8, none, none, none]), (100, 7, []), (9, 4, [some 10, none, none, none]), (100, 600, []), (9, 4, [none, none, none, none])]
def S_22 : List SE := [(11, 13, [none, none, none, none, none, none, none, none, none, none, none, none, some 1]), (100, 12, []), (1, 11, [some 3, some 5, some 7, some 9, none, none, none, none, none, none, none]), (9, 4, [some 4, none, none, none]), (100, 96, []), (9, 4, [some 6, none, none, none]), (100, 40, []), (9, 4, [some 8, none, none, none]), (100, 7, []), (9, 4, [some 10, none, none, none]), (100, 600, []), (9, 4, [none, none, none, none]), (100, 64, [])]
def S_23 : List SE := [(11, 13, [none, none, none, none, none, none, none, none, none, none, none, none, some 1]), (100, 12, []), (1, 11, [some 3, some 5, some 7, some 9, none, none, none, none, none, none, none]), (9, 4, [some 4, none, none, none]), (100, 96, []), (9, 4, [some 6, none, none, none]), (100, 40, []), (9, 4, [some 8, none, none, none]), (100, 7, []), (9, 4, [some 10, none, none, none]), (100, 600, []), (9, 4, [some 12, none, none, none]), (100, 64, [])]
def S_24 : List SE := [(11, 13, [none, none, none, none, none, none, none, none, none, none, none, none, some 1]), (100, 12, []), (1, 11, [some 3, some 5, some 7, some 9, some 11, none, none, none, none, none, none]), (9, 4, [some 4, none, none, none]), (100, 96, []), (9, 4, [some 6, none, none, none]), (100, 40, []), (9, 4, [some 8, none, none, none]), (100, 7, []), (9, 4, [some 10, none, none, none]), (100, 600, []), (9, 4, [some 12, none, none, none]), (100, 64, [])]
def S_25 : List SE := [(11, 13, [none, none, none, none, none, none, none, none, none, none, none, none, some 1]), (100, 12, []), (1, 11, [some 3, some 5, some 7, some 9, some 11, none, none, none, none, none, none]), (9, 4, [some 4, none, none, none]), (100, 96, []), (9, 4, [some 6, none, none, none]), (100, 40, []), (9, 4, [some 8, none, none, none]), (100, 7, []), (9, 4, [some 10, none, none, none]), (100, 600, []), (9, 4, [some 12, none, none, none]), (100, 64, []), (9, 4, [none, none, none, none])]
def S_26 : List SE := [(11, 13, [none, none, none, none, none, none, none, none, none, none, none, none, some 1]), (100, 12, []), (1, 11, [some 3, some 5, some 7, some 9, some 11, none, none, none, none, none, none]), (9, 4, [some 4, none, none, none]), (100, 96, []), (9, 4, [some 6, none, none, none]), (100, 40, []), (9, 4, [some 8, none, none, none]), (100, 7, []), (9, 4, [some 10, none, none, none]), (100, 600, []), (9, 4, [some 12, none, none, none]), (100, 64, []), (9, 4, [none, none, none, none]), (100, 800, [])]
def S_27 : List SE := [(11, 13, [none, none, none, none, none, none, none, none, none, none, none, none, some 1]), (100, 12, []), (1, 11, [some 3, some 5, some 7, some 9, some 11, none, none, none, none, none, none]), (9, 4, [some 4, none, none, none]), (100, 96, []), (9, 4, [some 6, none, none, none]), (100, 40, []), (9, 4, [some 8, none, none, none]), (100, 7, []), (9, 4, [some 10, none, none, none]), (100, 600, []), (9, 4, [some 12, none, none, none]), (100, 64, []), (9, 4, [some 14, none, none, none]), (100, 800, [])]
def S_28 : List SE := [(11, 13, [none, none, none, none, none, none, none, none, none, none, none, none, some 1]), (100, 12, []), (1, 11, [some 3, some 5, some 7, some 9, some 11, some 13, none, none, none, none, none]), (9, 4, [some 4, none, none, none]), (100, 96, []), (9, 4, [some 6, none, none, none]), (100, 40, []), (9, 4, [some 8, none, none, none]), (100, 7, []), (9, 4, [some 10, none, none, none]), (100, 600, []), (9, 4, [some 12, none, none, none]), (100, 64, []), (9, 4, [some 14, none, none, none]), (100, 800, [])]
def S_29 : List SE := [(11, 13, [none, none, none, none, none, none, none, none, none, none, none, none, some 1]), (100, 12, []), (1, 11, [some 3, some 5, some 7, some 9, some 11, some 13, none, none, none, none, none]), (9, 4, [some 4, none, none, none]), (100, 96, []), (9, 4, [some 6, none, none, none]), (100, 40, []), (9, 4, [some 8, none, none, none]), (100, 7, []), (9, 4, [some 10, none, none, none]), (100, 600, []), (9, 4, [some 12, none, none, none]), (100, 64, []), (9, 4, [some 14, none, none, none]), (100, 800, []), (9, 4, [none, none, none, none])]
def S_30 : List SE := [(11, 13, [none, none, none, none, none, none, none, none, none, none, none, none, some 1]), (100, 12, []), (1, 11, [some 3, some 5, some 7, some 9, some 11, some 13, none, none, none, none, none]), (9, 4, [some 4, none, none, none]), (100, 96, []), (9, 4, [some 6, none, none, none]), (100, 40, []), (9, 4, [some 8, none, none, none]), (100, 7, []), (9, 4, [some 10, none, none, none]), (100, 600, []), (9, 4, [some 12, none, none, none]), (100, 64, []), (9, 4, [some 14, none, none, none]), (100, 800, []), (9, 4, [none, none, none, none]), (100, 64, [])]
def S_31 : List SE := [(11, 13, [none, none, none, none, none, none, none, none, none, none, none, none, some 1]), (100, 12, []), (1, 11, [some 3, some 5, some 7, some 9, some 11, some 13, none, none, none, none, none]), (9, 4, [some 4, none, none, none]), (100, 96, []), (9, 4, [some 6, none, none, none]), (100, 40, []), (9, 4, [some 8, none, none, none]), (100, 7, []), (9, 4, [some 10, none, none, none]), (100, 600, []), (9, 4, [some 12, none, none, none]), (100, 64, []), (9, 4, [some 14, none, none, none]), (100, 800, []), (9, 4, [some 16, none, none, none]), (100, 64, [])]
def S_32 : List SE := [(11, 13, [none, none, none, none, none, none, none, none, none, none, none, none, some 1]), (100, 12, []), (1, 11, [some 3, some 5, some 7, some 9, some 11, some 13, some 15, none, none, none, none]), (9, 4, [some 4, none, none, none]), (100, 96, []), (9, 4, [some 6, none, none, none]), (100, 40, []), (9, 4, [some 8, none, none, none]), (100, 7, []), (9, 4, [some 10, none, none, none]), (100, 600, []), (9, 4, [some 12, none, none, none]), (100, 64, []), (9, 4, [some 14, none, none, none]), (100, 800, []), (9, 4, [some 16, none, none, none]), (100, 64, [])]
def S_33 : List SE := [(11, 13, [none, none, none, none, none, none, none, none, none, none, none, none, some 1]), (100, 12, []), (1, 11, [some 3, some 5, some 7, some 9, some 11, some 13, some 15, none, none, none, none]), (9, 4, [some 4, none, none, none]), (100, 96, []), (9, 4, [some 6, none, none, none]), (100, 40, []), (9, 4, [some 8, none, none, none]), (100, 7, []), (9, 4, [some 10, none, none, none]), (100, 600, []), (9, 4, [some 12, none, none, none]), (100, 64, []), (9, 4, [some 14, none, none, none]), (100, 800, []), (9, 4, [some 16, none, none, none]), (100, 64, []), (9, 4, [none, none, none, none])]
def S_34 : List SE := [(11, 13, [none, none, none, none, none, none, none, none, none, none, none, none, some 1]), (100, 12, []), (1, 11, [some 3, some 5, some 7, some 9, some 11, some 13, some 15, none, none, none, none]), (9, 4, [some 4, none, none, none]), (100, 96, []), (9, 4, [some 6, none, none, none]), (100, 40, []), (9, 4, [some 8, none, none, none]), (100, 7, []), (9, 4, [some 10, none, none, none]), (100, 600, []), (9, 4, [some 12, none, none, none]), (100, 64, []), (9, 4, [some 14, none, none, none]), (100, 800, []), (9, 4, [some 16, none, none, none]), (100, 64, []), (9, 4, [none, none, none, none]), (100, 64, [])]
def S_35 : List SE := [(11, 13, [none, none, none, none, none, none, none, none, none, none, none, none, some 1]), (100, 12, []), (1, 11, [some 3, some 5, some 7, some 9, some 11, some 13, some 15, none, none, none, none]), (9, 4, [some 4, none, none, none]), (100, 96, []), (9, 4, [some 6, none, none, none]), (100, 40, []), (9, 4, [some 8, none, none, none]), (100, 7, []), (9, 4, [some 10, none, none, none]), (100, 600, []), (9, 4, [some 12, none, none, none]), (100, 64, []), (9, 4, [some 14, none, none, none]), (100, 800, []), (9, 4, [some 16, none, none, none]), (100, 64, []), (9, 4, [some 18, none, none, none]), (100, 64, [])]
def S_36 : List SE := [(11, 13, [none, none, none, none, none, none, none, none, none, none, none, none, some 1]), (100, 12, []), (1, 11, [some 3, some 5, some 7, some 9, some 11, some 13, some 15, some 17, none, none, none]), (9, 4, [some 4, none, none, none]), (100, 96, []), (9, 4, [some 6, none, none, none]), (100, 40, []), (9, 4, [some 8, none, none, none]), (100, 7, []), (9, 4, [some 10, none, none, none]), (100, 600, []), (9, 4, [some 12, none, none, none]), (100, 64, []), (9, 4, [some 14, none, none, none]), (100, 800, []), (9, 4, [some 16, none, none, none]), (100, 64, []), (9, 4, [some 18, none, none, none]), (100, 64, [])]
def S_37 : List SE := [(11, 13, [none, none, none, none, none, none, none, none, none, none, none, none, some 1]), (100, 12, []), (1, 11, [some 3, some 5, some 7, some 9, some 11, some 13, some 15, some 17, none, none, none]), (9, 4, [some 4, none, none, none]), (100, 96, []), (9, 4, [some 6, none, none, none]), (100, 40, []), (9, 4, [some 8, none, none, none]), (100, 7, []), (9, 4, [some 10, none, none, none]), (100, 600, []), (9, 4, [some 12, none, none, none]), (100, 64, []), (9, 4, [some 14, none, none, none]), (100, 800, []), (9, 4, [some 16, none, none, none]), (100, 64, []), (9, 4, [some 18, none, none, none]), (100, 64, []), (9, 4, [none, none, none, none])]
def S_38 : List SE := [(11, 13, [none, none, none, none, none, none, none, none, none, none, none, none, some 1]), (100, 12, []), (1, 11, [some 3, some 5, some 7, some 9, some 11, some 13, some 15, some 17, none, none, none]), (9, 4, [some 4, none, none, none]), (100, 96, []), (9, 4, [some 6, none, none, none]), (100, 40, []), (9, 4, [some 8, none, none, none]), (100, 7, []), (9, 4, [some 10, none, none, none]), (100, 600, []), (9, 4, [some 12, none, none, none]), (100, 64, []), (9, 4, [some 14, none, none, none]), (100, 800, []), (9, 4, [some 16, none, none, none]), (100, 64, []), (9, 4, [some 18, none, none, none]), (100, 64, []), (9, 4, [none, none, none, none]), (100, 64, [])]
def S_39 : List SE := [(11, 13, [none, none, none, none, none, none, none, none, none, none, none, none, some 1]), (100, 12, []), (1, 11, [some 3, some 5, some 7, some 9, some 11, some 13, some 15, some 17, none, none, none]), (9, 4, [some 4, none, none, none]), (100, 96, []), (9, 4, [some 6, none, none, none]), (100, 40, []), (9, 4, [some 8, none, none, none]), (100, 7, []), (9, 4, [some 10, none, none, none]), (100, 600, []), (9, 4, [some 12, none, none, none]), (100, 64, []), (9, 4, [some 14, none, none, none]), (100, 800, []), (9, 4, [some 16, none, none, none]), (100, 64, []), (9, 4, [some 18, none, none, none]), (100, 64, []), (9, 4, [some 20, none, none, none]), (100, 64, [])]
def S_40 : List SE := [(11, 13, [none, none, none, none, none, none, none, none, none, none, none, none, some 1]), (100, 12, []), (1, 11, [some 3, some 5, some 7, some 9, some 11, some 13, some 15, some 17, some 19, none, none]), (9, 4, [some 4, none, none, none]), (100, 96, []), (9, 4, [some 6, none, none, none]), (100, 40, []), (9, 4, [some 8, none, none, none]), (100, 7, []), (9, 4, [some 10, none, none, none]), (100, 600, []), (9, 4, [some 12, none, none, none]), (100, 64, []), (9, 4, [some 14, none, none, none]), (100, 800, []), (9, 4, [some 16, none, none, none]), (100, 64, []), (9, 4, [some 18, none, none, none]), (100, 64, []), (9, 4, [some 20, none, none, none]), (100, 64, [])]
def S_41 : List SE := [(11, 13, [none, none, none, none, none, none, none, none, none, none, none, none, some 1]), (100, 12, []), (1, 11, [some 3, some 5, some 7, some 9, some 11, some 13, some 15, some 17, some 19, none, none]), (9, 4, [some 4, none, none, none]), (100, 96, []), (9, 4, [some 6, none, none, none]), (100, 40, []), (9, 4, [some 8, none, none, none]), (100, 7, []), (9, 4, [some 10, none, none, none]), (100, 600, []), (9, 4, [some 12, none, none, none]), (100, 64, []), (9, 4, [some 14, none, none, none]), (100, 800, []), (9, 4, [some 16, none, none, none]), (100, 64, []), (9, 4, [some 18, none, none, none]), (100, 64, []), (9, 4, [some 20, none, none, none]), (100, 64, []), (9, 4, [none, none, none, none])]
def S_42 : List SE := [(11, 13, [none, none, none, none, none, none, none, none, none, none, none, none, some 1]), (100, 12, []), (1, 11, [some 3, some 5, some 7, some 9, some 11, some 13, some 15, some 17, some 19, none, none]), (9, 4, [some 4, none, none, none]), (100, 96, []), (9, 4, [some 6, none, none, none]), (100, 40, []), (9, 4, [some 8, none, none, none]), (100, 7, []), (9, 4, [some 10, none, none, none]), (100, 600, []), (9, 4, [some 12, none, none, none]), (100, 64, []), (9, 4, [some 14, none, none, none]), (100, 800, []), (9, 4, [some 16, none, none, none]), (100, 64, []), (9, 4, [some 18, none, none, none]), (100, 64, []), (9, 4, [some 20, none, none, none]), (100, 64, []), (9, 4, [none, none, none, none]), (100, 16, [])]
def S_43 : List SE := [(11, 13, [none, none, none, none, none, none, none, none, none, none, none, none, some 1]), (100, 12, []), (1, 11, [some 3, some 5, some 7, some 9, some 11, some 13, some 15, some 17, some 19, none, none]), (9, 4, [some 4, none, none, none]), (100, 96, []), (9, 4, [some 6, none, none, none]), (100, 40, []), (9, 4, [some 8, none, none, none]), (100, 7, []), (9, 4, [some 10, none, none, none]), (100, 600, []), (9, 4, [some 12, none, none, none]), (100, 64, []), (9, 4, [some 14, none, none, none]), (100, 800, []), (9, 4, [some 16, none, none, none]), (100, 64, []), (9, 4, [some 18, none, none, none]), (100, 64, []), (9, 4, [some 20, none, none, none]), (100, 64, []), (9, 4, [some 22, none, none, none]), (100, 16, [])]
def S_44 : List SE := [(11, 13, [none, none, none, none, none, none, none, none, none, none, none, none, some 1]), (100, 12, []), (1, 11, [some 3, some 5, some 7, some 9, some 11, some 13, some 15, some 17, some 19, some 21, none]), (9, 4, [some 4, none, none, none]), (100, 96, []), (9, 4, [some 6, none, none, none]), (100, 40, []), (9, 4, [some 8, none, none, none]), (100, 7, []), (9, 4, [some 10, none, none, none]), (100, 600, []), (9, 4, [some 12, none, none, none]), (100, 64, []), (9, 4, [some 14, none, none, none]), (100, 800, []), (9, 4, [some 16, none, none, none]), (100, 64, []), (9, 4, [some 18, none, none, none]), (100, 64, []), (9, 4, [some 20, none, none, none]), (100, 64, []), (9, 4, [some 22, none, none, none]), (100, 16, [])]
def S_45 : List SE := [(11, 13, [none, none, none, none, none, none, none, none, none, none, none, none, some 1]), (100, 12, []), (1, 11, [some 3, some 5, some 7, some 9, some 11, some 13, some 15, some 17, some 19, some 21, none]), (9, 4, [some 4, none, none, none]), (100, 96, []), (9, 4, [some 6, none, none, none]), (100, 40, []), (9, 4, [some 8, none, none, none]), (100, 7, []), (9, 4, [some 10, none, none, none]), (100, 600, []), (9, 4, [some 12, none, none, none]), (100, 64, []), (9, 4, [some 14, none, none, none]), (100, 800, []), (9, 4, [some 16, none, none, none]), (100, 64, []), (9, 4, [some 18, none, none, none]), (100, 64, []), (9, 4, [some 20, none, none, none]), (100, 64, []), (9, 4, [some 22, none, none, none]), (100, 16, []), (9, 4, [none, none, none, none])]
def S_46 : List SE := [(11, 13, [none, none, none, none, none, none, none, none, none, none, none, none, some 1]), (100, 12, []), (1, 11, [some 3, some 5, some 7, some 9, some 11, some 13, some 15, some 17, some 19, some 21, none]), (9, 4, [some 4, none, none, none]), (100, 96, []), (9, 4, [some 6, none, none, none]), (100, 40, []), (9, 4, [some 8, none, none, none]), (100, 7, []), (9, 4, [some 10, none, none, none]), (100, 600, []), (9, 4, [some 12, none, none, none]), (100, 64, []), (9, 4, [some 14, none, none, none]), (100, 800, []), (9, 4, [some 16, none, none, none]), (100, 64, []), (9, 4, [some 18, none, none, none]), (100, 64, []), (9, 4, [some 20, none, none, none]), (100, 64, []), (9, 4, [some 22, none, none, none]), (100, 16, []), (9, 4, [none, none, none, none]), (100, 10, [])]
def S_47 : List SE := [(11, 13, [none, none, none, none, none, none, none, none, none, none, none, none, some 1]), (100, 12, []), (1, 11, [some 3, some 5, some 7, some 9, some 11, some 13, some 15, some 17, some 19, some 21, none]), (9, 4, [some 4, none, none, none]), (100, 96, []), (9, 4, [some 6, none, none, none]), (100, 40, []), (9, 4, [some 8, none, none, none]), (100, 7, []), (9, 4, [some 10, none, none, none]), (100, 600, []), (9, 4, [some 12, none, none, none]), (100, 64, []), (9, 4, [some 14, none, none, none]), (100, 800, []), (9, 4, [some 16, none, none, none]), (100, 64, []), (9, 4, [some 18, none, none, none]), (100, 64, []), (9, 4, [some 20, none, none, none]), (100, 64, []), (9, 4, [some 22, none, none, none]), (100, 16, []), (9, 4, [some 24, none, none, none]), (100, 10, [])]
def S_48 : List SE := [(11, 13, [none, none, none, none, none, none, none, none, none, none, none, none, some 1]), (100, 12, []), (1, 11, [some 3, some 5, some 7, some 9, some 11, some 13, some 15, some 17, some 19, some 21, some 23]), (9, 4, [some 4, none, none, none]), (100, 96, []), (9, 4, [some 6, none, none, none]), (100, 40, []), (9, 4, [some 8, none, none, none]), (100, 7, []), (9, 4, [some 10, none, none, none]), (100, 600, []), (9, 4, [some 12, none, none, none]), (100, 64, []), (9, 4, [some 14, none, none, none]), (100, 800, []), (9, 4, [some 16, none, none, none]), (100, 64, []), (9, 4, [some 18, none, none, none]), (100, 64, []), (9, 4, [some 20, none, none, none]), (100, 64, []), (9, 4, [some 22, none, none, none]), (100, 16, []), (9, 4, [some 24, none, none, none]), (100, 10, [])]
def S_49 : List SE := [(11, 13, [some 2, none, none, none, none, none, none, none, none, none, none, none, some 1]), (100, 12, []), (1, 11, [some 3, some 5, some 7, some 9, some 11, some 13, some 15, some 17, some 19, some 21, some 23]), (9, 4, [some 4, none, none, none]), (100, 96, []), (9, 4, [some 6, none, none, none]), (100, 40, []), (9, 4, [some 8, none, none, none]), (100, 7, []), (9, 4, [some 10, none, none, none]), (100, 600, []), (9, 4, [some 12, none, none, none]), (100, 64, []), (9, 4, [some 14, none, none, none]), (100, 800, []), (9, 4, [some 16, none, none, none]), (100, 64, []), (9, 4, [some 18, none, none, none]), (100, 64, []), (9, 4, [some 20, none, none, none]), (100, 64, []), (9, 4, [some 22, none, none, none]), (100, 16, []), (9, 4, [some 24, none, none, none]), (100, 10, [])]
def S_50 : List SE := [(11, 13, [some 2, none, none, none, none, none, none, none, none, none, none, none, some 1]), (100, 12, []), (1, 11, [some 3, some 5, some 7, some 9, some 11, some 13, some 15, some 17, some 19, some 21, some 23]), (9, 4, [some 4, none, none, none]), (100, 96, []), (9, 4, [some 6, none, none, none]), (100, 40, []), (9, 4, [some 8, none, none, none]), (100, 7, []), (9, 4, [some 10, none, none, none]), (100, 600, []), (9, 4, [some 12, none, none, none]), (100, 64, []), (9, 4, [some 14, none, none, none]), (100, 800, []), (9, 4, [some 16, none, none, none]), (100, 64, []), (9, 4, [some 18, none, none, none]), (100, 64, []), (9, 4, [some 20, none, none, none]), (100, 64, []), (9, 4, [some 22, none, none, none]), (100, 16, []), (9, 4, [some 24, none, none, none]), (100, 10, []), (1, 11, [none, none, none, none, none, none, none, none, none, none, none])]
def S_51 : List SE := [(11, 13, [some 2, none, none, none, none, none, none, none, none, none, none, none, some 1]), (100, 12, []), (1, 11, [some 3, some 5, some 7, some 9, some 11, some 13, some 15, some 17, some 19, some 21, some 23]), (9, 4, [some 4, none, none, none]), (100, 96, []), (9, 4, [some 6, none, none, none]), (100, 40, []), (9, 4, [some 8, none, none, none]), (100, 7, []), (9, 4, [some 10, none, none, none]), (100, 600, []), (9, 4, [some 12, none, none, none]), (100, 64, []), (9, 4, [some 14, none, none, none]), (100, 800, []), (9, 4, [some 16, none, none, none]), (100, 64, []), (9, 4, [some 18, none, none, none]), (100, 64, []), (9, 4, [some 20, none, none, none]), (100, 64, []), (9, 4, [some 22, none, none, none]), (100, 16, []), (9, 4, [some 24, none, none, none]), (100, 10, []), (1, 11, [none, none, none, none, none, none, none, none, none, none, none]), (9, 4, [none, none, none, none])]
def S_52 : List SE := [(11, 13, [some 2, none, none, none, none, none, none, none, none, none, none, none, some 1]), (100, 12, []), (1, 11, [some 3, some 5, some 7, some 9, some 11, some 13, some 15, some 17, some 19, some 21, some 23]), (9, 4, [some 4, none, none, none]), (100, 96, []), (9, 4, [some 6, none, none, none]), (100, 40, []), (9, 4, [some 8, none, none, none]), (100, 7, []), (9, 4, [some 10, none, none, none]), (100, 600, []), (9, 4, [some 12, none, none, none]), (100, 64, []), (9, 4, [some 14, none, none, none]), (100, 800, []), (9, 4, [some 16, none, none, none]), (100, 64, []), (9, 4, [some 18, none, none, none]), (100, 64, []), (9, 4, [some 20, none, none, none]), (100, 64, []), (9, 4, [some 22, none, none, none]), (100, 16, []), (9, 4, [some 24, none, none, none]), (100, 10, []), (1, 11, [none, none, none, none, none, none, none, none, none, none, none]), (9, 4, [none, none, none, none]), (100, 96, [])]
def S_53 : List SE := [(11, 13, [some 2, none, none, none, none, none, none, none, none, none, none, none, some 1]), (100, 12, []), (1, 11, [some 3, some 5, some 7, some 9, some 11, some 13, some 15, some 17, some 19, some 21, some 23]), (9, 4, [some 4, none, none, none]), (100, 96, []), (9, 4, [some 6, none, none, none]), (100, 40, []), (9, 4, [some 8, none, none, none]), (100, 7, []), (9, 4, [some 10, none, none, none]), (100, 600, []), (9, 4, [some 12, none, none, none]), (100, 64, []), (9, 4, [some 14, none, none, none]), (100, 800, []), (9, 4, [some 16, none, none, none]), (100, 64, []), (9, 4, [some 18, none, none, none]), (100, 64, []), (9, 4, [some 20, none, none, none]), (100, 64, []), (9, 4, [some 22, none, none, none]), (100, 16, []), (9, 4, [some 24, none, none, none]), (100, 10, []), (1, 11, [none, none, none, none, none, none, none, none, none, none, none]), (9, 4, [some 27, none, none, none]), (100, 96, [])]
def S_54 : List SE := [(11, 13, [some 2, none, none, none, none, none, none, none, none, none, none, none, some 1]), (100, 12, []), (1, 11, [some 3, some 5, some 7, some 9, some 11, some 13, some 15, some 17, some 19, some 21, some 23]), (9, 4, [some 4, none, none, none]), (100, 96, []), (9, 4, [some 6, none, none, none]), (100, 40, []), (9, 4, [some 8, none, none, none]), (100, 7, []), (9, 4, [some 10, none, none, none]), (100, 600, []), (9, 4, [some 12, none, none, none]), (100, 64, []), (9, 4, [some 14, none, none, none]), (100, 800, []), (9, 4, [some 16, none, none, none]), (100, 64, []), (9, 4, [some 18, none, none, none]), (100, 64, []), (9, 4, [some 20, none, none, none]), (100, 64, []), (9, 4, [some 22, none, none, none]), (100, 16, []), (9, 4, [some 24, none, none, none]), (100, 10, []), (1, 11, [some 26, none, none, none, none, none, none, none, none, none, none]), (9, 4, [some 27, none, none, none]), (100, 96, [])]
def S_55 : List SE := [(11, 13, [some 2, none, none, none, none, none, none, none, none, none, none, none, some 1]), (100, 12, []), (1, 11, [some 3, some 5, some 7, some 9, some 11, some 13, some 15, some 17, some 19, some 21, some 23]), (9, 4, [some 4, none, none, none]), (100, 96, []), (9, 4, [some 6, none, none, none]), (100, 40, []), (9, 4, [some 8, none, none, none]), (100, 7, []), (9, 4, [some 10, none, none, none]), (100, 600, []), (9, 4, [some 12, none, none, none]), (100, 64, []), (9, 4, [some 14, none, none, none]), (100, 800, []), (9, 4, [some 16, none, none, none]), (100, 64, []), (9, 4, [some 18, none, none, none]), (100, 64, []), (9, 4, [some 20, none, none, none]), (100, 64, []), (9, 4, [some 22, none, none, none]), (100, 16, []), (9, 4, [some 24, none, none, none]), (100, 10, []), (1, 11, [some 26, none, none, none, none, none, none, none, none, none, none]), (9, 4, [some 27, none, none, none]), (100, 96, []), (9, 4, [none, none, none, none])]
def S_56 : List SE := [(11, 13, [some 2, none, none, none, none, none, none, none, none, none, none, none, some 1]), (100, 12, []), (1, 11, [some 3, some 5, some 7, some 9, some 11, some 13, some 15, some 17, some 19, some 21, some 23]), (9, 4, [some 4, none, none, none]), (100, 96, []), (9, 4, [some 6, none, none, none]), (100, 40, []), (9, 4, [some 8, none, none, none]), (100, 7, []), (9, 4, [some 10, none, none, none]), (100, 600, []), (9, 4, [some 12, none, none, none]), (100, 64, []), (9, 4, [some 14, none, none, none]), (100, 800, []), (9, 4, [some 16, none, none, none]), (100, 64, []), (9, 4, [some 18, none, none, none]), (100, 64, []), (9, 4, [some 20, none, none, none]), (100, 64, []), (9, 4, [some 22, none, none, none]), (100, 16, []), (9, 4, [some 24, none, none, none]), (100, 10, []), (1, 11, [some 26, none, none, none, none, none, none, none, none, none, none]), (9, 4, [some 27, none, none, none]), (100, 96, []), (9, 4, [none, none, none, none]), (100, 40, [])]
def S_57 : List SE := [(11, 13, [some 2, none, none, none, none, none, none, none, none, none, none, none, some 1]), (100, 12, []), (1, 11, [some 3, some 5, some 7, some 9, some 11, some 13, some 15, some 17, some 19, some 21, some 23]), (9, 4, [some 4, none, none, none]), (100, 96, []), (9, 4, [some 6, none, none, none]), (100, 40, []), (9, 4, [some 8, none, none, none]), (100, 7, []), (9, 4, [some 10, none, none, none]), (100, 600, []), (9, 4, [some 12, none, none, none]), (100, 64, []), (9, 4, [some 14, none, none, none]), (100, 800, []), (9, 4, [some 16, none, none, none]), (100, 64, []), (9, 4, [some 18, none, none, none]), (100, 64, []), (9, 4, [some 20, none, none, none]), (100, 64, []), (9, 4, [some 22, none, none, none]), (100, 16, []), (9, 4, [some 24, none, none, none]), (100, 10, []), (1, 11, [some 26, none, none, none, none, none, none, none, none, none, none]), (9, 4, [some 27, none, none, none]), (100, 96, []), (9, 4, [some 29, none, none, none]), (100, 40, [])]
def S_58 : List SE := [(11, 13, [some 2, none, none, none, none, none, none, none, none, none, none, none, some 1]), (100, 12, []), (1, 11, [some 3, some 5, some 7, some 9, some 11, some 13, some 15, some 17, some 19, some 21, some 23]), (9, 4, [some 4, none, none, none]), (100, 96, []), (9, 4, [some 6, none, none, none]), (100, 40, []), (9, 4, [some 8, none, none, none]), (100, 7, []), (9, 4, [some 10, none, none, none]), (100, 600, []), (9, 4, [some 12, none, none, none]), (100, 64, []), (9, 4, [some 14, none, none, none]), (100, 800, []), (9, 4, [some 16, none, none, none]), (100, 64, []), (9, 4, [some 18, none, none, none]), (100, 64, []), (9, 4, [some 20, none, none, none]), (100, 64, []), (9, 4, [some 22, none, none, none]), (100, 16, []), (9, 4, [some 24, none, none, none]), (100, 10, []), (1, 11, [some 26, some 28, none, none, none, none, none, none, none, none, none]), (9, 4, [some 27, none, none, none]), (100, 96, []), (9, 4, [some 29, none, none, none]), (100, 40, [])]
def S_59 : List SE := [(11, 13, [some 2, none, none, none, none, none, none, none, none, none, none, none, some 1]), (100, 12, []), (1, 11, [some 3, some 5, some 7, some 9, some 11, some 13, some 15, some 17, some 19, some 21, some 23]), (9, 4, [some 4, none, none, none]), (100, 96, []), (9, 4, [some 6, none, none, none]), (100, 40, []), (9, 4, [some 8, none, none, none]), (100, 7, []), (9, 4, [some 10, none, none, none]), (100, 600, []), (9, 4, [some 12, none, none, none]), (100, 64, []), (9, 4, [some 14, none, none, none]), (100, 800, []), (9, 4, [some 16, none, none, none]), (100, 64, []), (9, 4, [some 18, none, none, none]), (100, 64, []), (9, 4, [some 20, none, none, none]), (100, 64, []), (9, 4, [some 22, none, none, none]), (100, 16, []), (9, 4, [some 24, none, none, none]), (100, 10, []), (1, 11, [some 26, some 28, none, none, none, none, none, none, none, none, none]), (9, 4, [some 27, none, none, none]), (100, 96, []), (9, 4, [some 29, none, none, none]), (100, 40, []), (9, 4, [none, none, none, none])]
def S_60 : List SE := [(11, 13, [some 2, none, none, none, none, none, none, none, none, none, none, none, some 1]), (100, 12, []), (1, 11, [some 3, some 5, some 7, some 9, some 11, some 13, some 15, some 17, some 19, some 21, some 23]), (9, 4, [some 4, none, none, none]), (100, 96, []), (9, 4, [some 6, none, none, none]), (100, 40, []), (9, 4, [some 8, none, none, none]), (100, 7, []), (9, 4, [some 10, none, none, none]), (100, 600, []), (9, 4, [some 12, none, none, none]), (100, 64, []), (9, 4, [some 14, none, none, none]), (100, 800, []), (9, 4, [some 16, none, none, none]), (100, 64, []), (9, 4, [some 18, none, none, none]), (100, 64, []), (9, 4, [some 20, none, none, none]), (100, 64, []), (9, 4, [some 22, none, none, none]), (100, 16, []), (9, 4, [some 24, none, none, none]), (100, 10, []), (1, 11, [some 26, some 28, none, none, none, none, none, none, none, none, none]), (9, 4, [some 27, none, none, none]), (100, 96, []), (9, 4, [some 29, none, none, none]), (100, 40, []), (9, 4, [none, none, none, none]), (100, 7, [])]
def S_61 : List SE := [(11, 13, [some 2, none, none, none, none, none, none, none, none, none, none, none, some 1]), (100, 12, []), (1, 11, [some 3, some 5, some 7, some 9, some 11, some 13, some 15, some 17, some 19, some 21, some 23]), (9, 4, [some 4, none, none, none]), (100, 96, []), (9, 4, [some 6, none, none, none]), (100, 40, []), (9, 4, [some 8, none, none, none]), (100, 7, []), (9, 4, [some 10, none, none, none]), (100, 600, []), (9, 4, [some 12, none, none, none]), (100, 64, []), (9, 4, [some 14, none, none, none]), (100, 800, []), (9, 4, [some 16, none, none, none]), (100, 64, []), (9, 4, [some 18, none, none, none]), (100, 64, []), (9, 4, [some 20, none, none, none]), (100, 64, []), (9, 4, [some 22, none, none, none]), (100, 16, []), (9, 4, [some 24, none, none, none]), (100, 10, []), (1, 11, [some 26, some 28, none, none, none, none, none, none, none, none, none]), (9, 4, [some 27, none, none, none]), (100, 96, []), (9, 4, [some 29, none, none, none]), (100, 40, []), (9, 4, [some 31, none, none, none]), (100, 7, [])]
def S_62 : List SE := [(11, 13, [some 2, none, none, none, none, none, none, none, none, none, none, none, some 1]), (100, 12, []), (1, 11, [some 3, some 5, some 7, some 9, some 11, some 13, some 15, some 17, some 19, some 21, some 23]), (9, 4, [some 4, none, none, none]), (100, 96, []), (9, 4, [some 6, none, none, none]), (100, 40, []), (9, 4, [some 8, none, none, none]), (100, 7, []), (9, 4, [some 10, none, none, none]), (100, 600, []), (9, 4, [some 12, none, none, none]), (100, 64, []), (9, 4, [some 14, none, none, none]), (100, 800, []), (9, 4, [some 16, none, none, none]), (100, 64, []), (9, 4, [some 18, none, none, none]), (100, 64, []), (9, 4, [some 20, none, none, none]), (100, 64, []), (9, 4, [some 22, none, none, none]), (100, 16, []), (9, 4, [some 24, none, none, none]), (100, 10, []), (1, 11, [some 26, some 28, some 30, none, none, none, none, none, none, none, none]), (9, 4, [some 27, none, none, none]), (100, 96, []), (9, 4, [some 29, none, none, none]), (100, 40, []), (9, 4, [some 31, none, none, none]), (100, 7, [])]
def S_63 : List SE := [(11, 13, [some 2, none, none, none, none, none, none, none, none, none, none, none, some 1]), (100, 12, []), (1, 11, [some 3, some 5, some 7, some 9, some 11, some 13, some 15, some 17, some 19, some 21, some 23]), (9, 4, [some 4, none, none, none]), (100, 96, []), (9, 4, [some 6, none, none, none]), (100, 40, []), (9, 4, [some 8, none, none, none]), (100, 7, []), (9, 4, [some 10, none, none, none]), (100, 600, []), (9, 4, [some 12, none, none, none]), (100, 64, []), (9, 4, [some 14, none, none, none]), (100, 800, []), (9, 4, [some 16, none, none, none]), (100, 64, []), (9, 4, [some 18, none, none, none]), (100, 64, []), (9, 4, [some 20, none, none, none]), (100, 64, []), (9, 4, [some 22, none, none, none]), (100, 16, []), (9, 4, [some 24, none, none, none]), (100, 10, []), (1, 11, [some 26, some 28, some 30, none, none, none, none, none, none, none, none]), (9, 4, [some 27, none, none, none]), (100, 96, []), (9, 4, [some 29, none, none, none]), (100, 40, []), (9, 4, [some 31, none, none, none]), (100, 7, []), (9, 4, [none, none, none, none])]
def S_64 : List SE := [(11, 13, [some 2, none, none, none, none, none, none, none, none, none, none, none, some 1]), (100, 12, []), (1, 11, [some 3, some 5, some 7, some 9, some 11, some 13, some 15, some 17, some 19, some 21, some 23]), (9, 4, [some 4, none, none, none]), (100, 96, []), (9, 4, [some 6, none, none, none]), (100, 40, []), (9, 4, [some 8, none, none, none]), (100, 7, []), (9, 4, [some 10, none, none, none]), (100, 600, []), (9, 4, [some 12, none, none, none]), (100, 64, []), (9, 4, [some 14, none, none, none]), (100, 800, []), (9, 4, [some 16, none, none, none]), (100, 64, []), (9, 4, [some 18, none, none, none]), (100, 64, []), (9, 4, [some 20, none, none, none]), (100, 64, []), (9, 4, [some 22, none, none, none]), (100, 16, []), (9, 4, [some 24, none, none, none]), (100, 10, []), (1, 11, [some 26, some 28, some 30, none, none, none, none, none, none, none, none]), (9, 4, [some 27, none, none, none]), (100, 96, []), (9, 4, [some 29, none, none, none]), (100, 40, []), (9, 4, [some 31, none, none, none]), (100, 7, []), (9, 4, [none, none, none, none]), (100, 600, [])]
def S_65 : List SE := [(11, 13, [some 2, none, none, none, none, none, none, none, none, none, none, none, some 1]), (100, 12, []), (1, 11, [some 3, some 5, some 7, some 9, some 11, some 13, some 15, some 17, some 19, some 21, some 23]), (9, 4, [some 4, none, none, none]), (100, 96, []), (9, 4, [some 6, none, none, none]), (100, 40, []), (9, 4, [some 8, none, none, none]), (100, 7, []), (9, 4, [some 10, none, none, none]), (100, 600, []), (9, 4, [some 12, none, none, none]), (100, 64, []), (9, 4, [some 14, none, none, none]), (100, 800, []), (9, 4, [some 16, none, none, none]), (100, 64, []), (9, 4, [some 18, none, none, none]), (100, 64, []), (9, 4, [some 20, none, none, none]), (100, 64, []), (9, 4, [some 22, none, none, none]), (100, 16, []), (9, 4, [some 24, none, none, none]), (100, 10, []), (1, 11, [some 26, some 28, some 30, none, none, none, none, none, none, none, none]), (9, 4, [some 27, none, none, none]), (100, 96, []), (9, 4, [some 29, none, none, none]), (100, 40, []), (9, 4, [some 31, none, none, none]), (100, 7, []), (9, 4, [some 33, none, none, none]), (100, 600, [])]
def S_66 : List SE := [(11, 13, [some 2, none, none, none, none, none, none, none, none, none, none, none, some 1]), (100, 12, []), (1, 11, [some 3, some 5, some 7, some 9, some 11, some 13, some 15, some 17, some 19, some 21, some 23]), (9, 4, [some 4, none, none, none]), (100, 96, []), (9, 4, [some 6, none, none, none]), (100, 40, []), (9, 4, [some 8, none, none, none]), (100, 7, []), (9, 4, [some 10, none, none, none]), (100, 600, []), (9, 4, [some 12, none, none, none]), (100, 64, []), (9, 4, [some 14, none, none, none]), (100, 800, []), (9, 4, [some 16, none, none, none]), (100, 64, []), (9, 4, [some 18, none, none, none]), (100, 64, []), (9, 4, [some 20, none, none, none]), (100, 64, []), (9, 4, [some 22, none, none, none]), (100, 16, []), (9, 4, [some 24, none, none, none]), (100, 10, []), (1, 11, [some 26, some 28, some 30, some 32, none, none, none, none, none, none, none]), (9, 4, [some 27, none, none, none]), (100, 96, []), (9, 4, [some 29, none, none, none]), (100, 40, []), (9, 4, [some 31, none, none, none]), (100, 7, []), (9, 4, [some 33, none, none, none]), (100, 600, [])]
def S_67 : List SE := [(11, 13, [some 2, none, none, none, none, none, none, none, none, none, none, none, some 1]), (100, 12, []), (1, 11, [some 3, some 5, some 7, some 9, some 11, some 13, some 15, some 17, some 19, some 21, some 23]), (9, 4, [some 4, none, none, none]), (100, 96, []), (9, 4, [some 6, none, none, none]), (100, 40, []), (9, 4, [some 8, none, none, none]), (100, 7, []), (9, 4, [some 10, none, none, none]), (100, 600, []), (9, 4, [some 12, none, none, none]), (100, 64, []), (9, 4, [some 14, none, none, none]), (100, 800, []), (9, 4, [some 16, none, none, none]), (100, 64, []), (9, 4, [some 18, none, none, none]), (100, 64, []), (9, 4, [some 20, none, none, none]), (100, 64, []), (9, 4, [some 22, none, none, none]), (100, 16, []), (9, 4, [some 24, none, none, none]), (100, 10, []), (1, 11, [some 26, some 28, some 30, some 32, none, none, none, none, none, none, none]), (9, 4, [some 27, none, none, none]), (100, 96, []), (9, 4, [some 29, none, none, none]), (100, 40, []), (9, 4, [some 31, none, none, none]), (100, 7, []), (9, 4, [some 33, none, none, none]), (100, 600, []), (9, 4, [none, none, none, none])]
def S_68 : List SE := [(11, 13, [some 2, none, none, none, none, none, none, none, none, none, none, none, some 1]), (100, 12, []), (1, 11, [some 3, some 5, some 7, some 9, some 11, some 13, some 15, some 17, some 19, some 21, some 23]), (9, 4, [some 4, none, none, none]), (100, 96, []), (9, 4, [some 6, none, none, none]), (100, 40, []), (9, 4, [some 8, none, none, none]), (100, 7, []), (9, 4, [some 10, none, none, none]), (100, 600, []), (9, 4, [some 12, none, none, none]), (100, 64, []), (9, 4, [some 14, none, none, none]), (100, 800, []), (9, 4, [some 16, none, none, none]), (100, 64, []), (9, 4, [some 18, none, none, none]), (100, 64, []), (9, 4, [some 20, none, none, none]), (100, 64, []), (9, 4, [some 22, none, none, none]), (100, 16, []), (9, 4, [some 24, none, none, none]), (100, 10, []), (1, 11, [some 26, some 28, some 30, some 32, none, none, none, none, none, none, none]), (9, 4, [some 27, none, none, none]), (100, 96, []), (9, 4, [some 29, none, none, none]), (100, 40, []), (9, 4, [some 31, none, none, none]), (100, 7, []), (9, 4, [some 33, none, none, none]), (100, 600, []), (9, 4, [none, none, none, none]), (100, 64, [])]
def S_69 : List SE := [(11, 13, [some 2, none, none, none, none, none, none, none, none, none, none, none, some 1]), (100, 12, []), (1, 11, [some 3, some 5, some 7, some 9, some 11, some 13, some 15, some 17, some 19, some 21, some 23]), (9, 4, [some 4, none, none, none]), (100, 96, []), (9, 4, [some 6, none, none, none]), (100, 40, []), (9, 4, [some 8, none, none, none]), (100, 7, []), (9, 4, [some 10, none, none, none]), (100, 600, []), (9, 4, [some 12, none, none, none]), (100, 64, []), (9, 4, [some 14, none, none, none]), (100, 800, []), (9, 4, [some 16, none, none, none]), (100, 64, []), (9, 4, [some 18, none, none, none]), (100, 64, []), (9, 4, [some 20, none, none, none]), (100, 64, []), (9, 4, [some 22, none, none, none]), (100, 16, []), (9, 4, [some 24, none, none, none]), (100, 10, []), (1, 11, [some 26, some 28, some 30, some 32, none, none, none, none, none, none, none]), (9, 4, [some 27, none, none, none]), (100, 96, []), (9, 4, [some 29, none, none, none]), (100, 40, []), (9, 4, [some 31, none, none, none]), (100, 7, []), (9, 4, [some 33, none, none, none]), (100, 600, []), (9, 4, [some 35, none, none, none]), (100, 64, [])]
def S_70 : List SE := [(11, 13, [some 2, none, none, none, none, none, none, none, none, none, none, none, some 1]), (100, 12, []), (1, 11, [some 3, some 5, some 7, some 9, some 11, some 13, some 15, some 17, some 19, some 21, some 23]), (9, 4, [some 4, none, none, none]), (100, 96, []), (9, 4, [some 6, none, none, none]), (100, 40, []), (9, 4, [some 8, none, none, none]), (100, 7, []), (9, 4, [some 10, none, none, none]), (100, 600, []), (9, 4, [some 12, none, none, none]), (100, 64, []), (9, 4, [some 14, none, none, none]), (100, 800, []), (9, 4, [some 16, none, none, none]), (100, 64, []), (9, 4, [some 18, none, none, none]), (100, 64, []), (9, 4, [some 20, none, none, none]), (100, 64, []), (9, 4, [some 22, none, none, none]), (100, 16, []), (9, 4, [some 24, none, none, none]), (100, 10, []), (1, 11, [some 26, some 28, some 30, some 32, some 34, none, none, none, none, none, none]), (9, 4, [some 27, none, none, none]), (100, 96, []), (9, 4, [some 29, none, none, none]), (100, 40, []), (9, 4, [some 31, none, none, none]), (100, 7, []), (9, 4, [some 33, none, none, none]), (100, 600, []), (9, 4, [some 35, none, none, none]), (100, 64, [])]
def S_71 : List SE := [(11, 13, [some 2, none, none, none, none, none, none, none, none, none, none, none, some 1]), (100, 12, []), (1, 11, [some 3, some 5, some 7, some 9, some 11, some 13, some 15, some 17, some 19, some 21, some 23]), (9, 4, [some 4, none, none, none]), (100, 96, []), (9, 4, [some 6, none, none, none]), (100, 40, []), (9, 4, [some 8, none, none, none]), (100, 7, []), (9, 4, [some 10, none, none, none]), (100, 600, []), (9, 4, [some 12, none, none, none]), (100, 64, []), (9, 4, [some 14, none, none, none]), (100, 800, []), (9, 4, [some 16, none, none, none]), (100, 64, []), (9, 4, [some 18, none, none, none]), (100, 64, []), (9, 4, [some 20, none, none, none]), (100, 64, []), (9, 4, [some 22, none, none, none]), (100, 16, []), (9, 4, [some 24, none, none, none]), (100, 10, []), (1, 11, [some 26, some 28, some 30, some 32, some 34, none, none, none, none, none, none]), (9, 4, [some 27, none, none, none]), (100, 96, []), (9, 4, [some 29, none, none, none]), (100, 40, []), (9, 4, [some 31, none, none, none]), (100, 7, []), (9, 4, [some 33, none, none, none]), (100, 600, []), (9, 4, [some 35, none, none, none]), (100, 64, []), (9, 4, [none, none, none, none])]
def S_72 : List SE := [(11, 13, [some 2, none, none, none, none, none, none, none, none, none, none, none, some 1]), (100, 12, []), (1, 11, [some 3, some 5, some 7, some 9, some 11, some 13, some 15, some 17, some 19, some 21, some 23]), (9, 4, [some 4, none, none, none]), (100, 96, []), (9, 4, [some 6, none, none, none]), (100, 40, []), (9, 4, [some 8, none, none, none]), (100, 7, []), (9, 4, [some 10, none, none, none]), (100, 600, []), (9, 4, [some 12, none, none, none]), (100, 64, []), (9, 4, [some 14, none, none, none]), (100, 800, []), (9, 4, [some 16, none, none, none]), (100, 64, []), (9, 4, [some 18, none, none, none]), (100, 64, []), (9, 4, [some 20, none, none, none]), (100, 64, []), (9, 4, [some 22, none, none, none]), (100, 16, []), (9, 4, [some 24, none, none, none]), (100, 10, []), (1, 11, [some 26, some 28, some 30, some 32, some 34, none, none, none, none, none, none]), (9, 4, [some 27, none, none, none]), (100, 96, []), (9, 4, [some 29, none, none, none]), (100, 40, []), (9, 4, [some 31, none, none, none]), (100, 7, []), (9, 4, [some 33, none, none, none]), (100, 600, []), (9, 4, [some 35, none, none, none]), (100, 64, []), (9, 4, [none, none, none, none]), (100, 800, [])]
def S_73 : List SE := [(11, 13, [some 2, none, none, none, none, none, none, none, none, none, none, none, some 1]), (100, 12, []), (1, 11, [some 3, some 5, some 7, some 9, some 11, some 13, some 15, some 17, some 19, some 21, some 23]), (9, 4, [some 4, none, none, none]), (100, 96, []), (9, 4, [some 6, none, none, none]), (100, 40, []), (9, 4, [some 8, none, none, none]), (100, 7, []), (9, 4, [some 10, none, none, none]), (100, 600, []), (9, 4, [some 12, none, none, none]), (100, 64, []), (9, 4, [some 14, none, none, none]), (100, 800, []), (9, 4, [some 16, none, none, none]), (100, 64, []), (9, 4, [some 18, none, none, none]), (100, 64, []), (9, 4, [some 20, none, none, none]), (100, 64, []), (9, 4, [some 22, none, none, none]), (100, 16, []), (9, 4, [some 24, none, none, none]), (100, 10, []), (1, 11, [some 26, some 28, some 30, some 32, some 34, none, none, none, none, none, none]), (9, 4, [some 27, none, none, none]), (100, 96, []), (9, 4, [some 29, none, none, none]), (100, 40, []), (9, 4, [some 31, none, none, none]), (100, 7, []), (9, 4, [some 33, none, none, none]), (100, 600, []), (9, 4, [some 35, none, none, none]), (100, 64, []), (9, 4, [some 37, none, none, none]), (100, 800, [])]
def S_74 : List SE := [(11, 13, [some 2, none, none, none, none, none, none, none, none, none, none, none, some 1]), (100, 12, []), (1, 11, [some 3, some 5, some 7, some 9, some 11, some 13, some 15, some 17, some 19, some 21, some 23]), (9, 4, [some 4, none, none, none]), (100, 96, []), (9, 4, [some 6, none, none, none]), (100, 40, []), (9, 4, [some 8, none, none, none]), (100, 7, []), (9, 4, [some 10, none, none, none]), (100, 600, []), (9, 4, [some 12, none, none, none]), (100, 64, []), (9, 4, [some 14, none, none, none]), (100, 800, []), (9, 4, [some 16, none, none, none]), (100, 64, []), (9, 4, [some 18, none, none, none]), (100, 64, []), (9, 4, [some 20, none, none, none]), (100, 64, []), (9, 4, [some 22, none, none, none]), (100, 16, []), (9, 4, [some 24, none, none, none]), (100, 10, []), (1, 11, [some 26, some 28, some 30, some 32, some 34, some 36, none, none, none, none, none]), (9, 4, [some 27, none, none, none]), (100, 96, []), (9, 4, [some 29, none, none, none]), (100, 40, []), (9, 4, [some 31, none, none, none]), (100, 7, []), (9, 4, [some 33, none, none, none]), (100, 600, []), (9, 4, [some 35, none, none, none]), (100, 64, []), (9, 4, [some 37, none, none, none]), (100, 800, [])]
def S_75 : List SE := [(11, 13, [some 2, none, none, none, none, none, none, none, none, none, none, none, some 1]), (100, 12, []), (1, 11, [some 3, some 5, some 7, some 9, some 11, some 13, some 15, some 17, some 19, some 21, some 23]), (9, 4, [some 4, none, none, none]), (100, 96, []), (9, 4, [some 6, none, none, none]), (100, 40, []), (9, 4, [some 8, none, none, none]), (100, 7, []), (9, 4, [some 10, none, none, none]), (100, 600, []), (9, 4, [some 12, none, none, none]), (100, 64, []), (9, 4, [some 14, none, none, none]), (100, 800, []), (9, 4, [some 16, none, none, none]), (100, 64, []), (9, 4, [some 18, none, none, none]), (100, 64, []), (9, 4, [some 20, none, none, none]), (100, 64, []), (9, 4, [some 22, none, none, none]), (100, 16, []), (9, 4, [some 24, none, none, none]), (100, 10, []), (1, 11, [some 26, some 28, some 30, some 32, some 34, some 36, none, none, none, none, none]), (9, 4, [some 27, none, none, none]), (100, 96, []), (9, 4, [some 29, none, none, none]), (100, 40, []), (9, 4, [some 31, none, none, none]), (100, 7, []), (9, 4, [some 33, none, none, none]), (100, 600, []), (9, 4, [some 35, none, none, none]), (100, 64, []), (9, 4, [some 37, none, none, none]), (100, 800, []), (9, 4, [none, none, none, none])]
def S_76 : List SE := [(11, 13, [some 2, none, none, none, none, none, none, none, none, none, none, none, some 1]), (100, 12, []), (1, 11, [some 3, some 5, some 7, some 9, some 11, some 13, some 15, some 17, some 19, some 21, some 23]), (9, 4, [some 4, none, none, none]), (100, 96, []), (9, 4, [some 6, none, none, none]), (100, 40, []), (9, 4, [some 8, none, none, none]), (100, 7, []), (9, 4, [some 10, none, none, none]), (100, 600, []), (9, 4, [some 12, none, none, none]), (100, 64, []), (9, 4, [some 14, none, none, none]), (100, 800, []), (9, 4, [some 16, none, none, none]), (100, 64, []), (9, 4, [some 18, none, none, none]), (100, 64, []), (9, 4, [some 20, none, none, none]), (100, 64, []), (9, 4, [some 22, none, none, none]), (100, 16, []), (9, 4, [some 24, none, none, none]), (100, 10, []), (1, 11, [some 26, some 28, some 30, some 32, some 34, some 36, none, none, none, none, none]), (9, 4, [some 27, none, none, none]), (100, 96, []), (9, 4, [some 29, none, none, none]), (100, 40, []), (9, 4, [some 31, none, none, none]), (100, 7, []), (9, 4, [some 33, none, none, none]), (100, 600, []), (9, 4, [some 35, none, none, none]), (100, 64, []), (9, 4, [some 37, none, none, none]), (100, 800, []), (9, 4, [none, none, none, none]), (100, 64, [])]
def S_77 : List SE := [(11, 13, [some 2, none, none, none, none, none, none, none, none, none, none, none, some 1]), (100, 12, []), (1, 11, [some 3, some 5, some 7, some 9, some 11, some 13, some 15, some 17, some 19, some 21, some 23]), (9, 4, [some 4, none, none, none]), (100, 96, []), (9, 4, [some 6, none, none, none]), (100, 40, []), (9, 4, [some 8, none, none, none]), (100, 7, []), (9, 4, [some 10, none, none, none]), (100, 600, []), (9, 4, [some 12, none, none, none]), (100, 64, []), (9, 4, [some 14, none, none, none]), (100, 800, []), (9, 4, [some 16, none, none, none]), (100, 64, []), (9, 4, [some 18, none, none, none]), (100, 64, []), (9, 4, [some 20, none, none, none]), (100, 64, []), (9, 4, [some 22, none, none, none]), (100, 16, []), (9, 4, [some 24, none, none, none]), (100, 10, []), (1, 11, [some 26, some 28, some 30, some 32, some 34, some 36, none, none, none, none, none]), (9, 4, [some 27, none, none, none]), (100, 96, []), (9, 4, [some 29, none, none, none]), (100, 40, []), (9, 4, [some 31, none, none, none]), (100, 7, []), (9, 4, [some 33, none, none, none]), (100, 600, []), (9, 4, [some 35, none, none, none]), (100, 64, []), (9, 4, [some 37, none, none, none]), (100, 800, []), (9, 4, [some 39, none, none, none]), (100, 64, [])]
def S_78 : List SE := [(11, 13, [some 2, none, none, none, none, none, none, none, none, none, none, none, some 1]), (100, 12, []), (1, 11, [some 3, some 5, some 7, some 9, some 11, some 13, some 15, some 17, some 19, some 21, some 23]), (9, 4, [some 4, none, none, none]), (100, 96, []), (9, 4, [some 6, none, none, none]), (100, 40, []), (9, 4, [some 8, none, none, none]), (100, 7, []), (9, 4, [some 10, none, none, none]), (100, 600, []), (9, 4, [some 12, none, none, none]), (100, 64, []), (9, 4, [some 14, none, none, none]), (100, 800, []), (9, 4, [some 16, none, none, none]), (100, 64, []), (9, 4, [some 18, none, none, none]), (100, 64, []), (9, 4, [some 20, none, none, none]), (100, 64, []), (9, 4, [some 22, none, none, none]), (100, 16, []), (9, 4, [some 24, none, none, none]), (100, 10, []), (1, 11, [some 26, some 28, some 30, some 32, some 34, some 36, some 38, none, none, none, none]), (9, 4, [some 27, none, none, none]), (100, 96, []), (9, 4, [some 29, none, none, none]), (100, 40, []), (9, 4, [some 31, none, none, none]), (100, 7, []), (9, 4, [some 33, none, none, none]), (100, 600, []), (9, 4, [some 35, none, none, none]), (100, 64, []), (9, 4, [some 37, none, none, none]), (100, 800, []), (9, 4, [some 39, none, none, none]), (100, 64, [])]
def S_79 : List SE := [(11, 13, [some 2, none, none, none, none, none, none, none, none, none, none, none, some 1]), (100, 12, []), (1, 11, [some 3, some 5, some 7, some 9, some 11, some 13, some 15, some 17, some 19, some 21, some 23]), (9, 4, [some 4, none, none, none]), (100, 96, []), (9, 4, [some 6, none, none, none]), (100, 40, []), (9, 4, [some 8, none, none, none]), (100, 7, []), (9, 4, [some 10, none, none, none]), (100, 600, []), (9, 4, [some 12, none, none, none]), (100, 64, []), (9, 4, [some 14, none, none, none]), (100, 800, []), (9, 4, [some 16, none, none, none]), (100, 64, []), (9, 4, [some 18, none, none, none]), (100, 64, []), (9, 4, [some 20, none, none, none]), (100, 64, []), (9, 4, [some 22, none, none, none]), (100, 16, []), (9, 4, [some 24, none, none, none]), (100, 10, []), (1, 11, [some 26, some 28, some 30, some 32, some 34, some 36, some 38, none, none, none, none]), (9, 4, [some 27, none, none, none]), (100, 96, []), (9, 4, [some 29, none, none, none]), (100, 40, []), (9, 4, [some 31, none, none, none]), (100, 7, []), (9, 4, [some 33, none, none, none]), (100, 600, []), (9, 4, [some 35, none, none, none]), (100, 64, []), (9, 4, [some 37, none, none, none]), (100, 800, []), (9, 4, [some 39, none, none, none]), (100, 64, []), (9, 4, [none, none, none, none])]
def S_80 : List SE := [(11, 13, [some 2, none, none, none, none, none, none, none, none, none, none, none, some 1]), (100, 12, []), (1, 11, [some 3, some 5, some 7, some 9, some 11, some 13, some 15, some 17, some 19, some 21, some 23]), (9, 4, [some 4, none, none, none]), (100, 96, []), (9, 4, [some 6, none, none, none]), (100, 40, []), (9, 4, [some 8, none, none, none]), (100, 7, []), (9, 4, [some 10, none, none, none]), (100, 600, []), (9, 4, [some 12, none, none, none]), (100, 64, []), (9, 4, [some 14, none, none, none]), (100, 800, []), (9, 4, [some 16, none, none, none]), (100, 64, []), (9, 4, [some 18, none, none, none]), (100, 64, []), (9, 4, [some 20, none, none, none]), (100, 64, []), (9, 4, [some 22, none, none, none]), (100, 16, []), (9, 4, [some 24, none, none, none]), (100, 10, []), (1, 11, [some 26, some 28, some 30, some 32, some 34, some 36, some 38, none, none, none, none]), (9, 4, [some 27, none, none, none]), (100, 96, []), (9, 4, [some 29, none, none, none]), (100, 40, []), (9, 4, [some 31, none, none, none]), (100, 7, []), (9, 4, [some 33, none, none, none]), (100, 600, []), (9, 4, [some 35, none, none, none]), (100, 64, []), (9, 4, [some 37, none, none, none]), (100, 800, []), (9, 4, [some 39, none, none, none]), (100, 64, []), (9, 4, [none, none, none, none]), (100, 64, [])]
def S_81 : List SE := [(11, 13, [some 2, none, none, none, none, none, none, none, none, none, none, none, some 1]), (100, 12, []), (1, 11, [some 3, some 5, some 7, some 9, some 11, some 13, some 15, some 17, some 19, some 21, some 23]), (9, 4, [some 4, none, none, none]), (100, 96, []), (9, 4, [some 6, none, none, none]), (100, 40, []), (9, 4, [some 8, none, none, none]), (100, 7, []), (9, 4, [some 10, none, none, none]), (100, 600, []), (9, 4, [some 12, none, none, none]), (100, 64, []), (9, 4, [some 14, none, none, none]), (100, 800, []), (9, 4, [some 16, none, none, none]), (100, 64, []), (9, 4, [some 18, none, none, none]), (100, 64, []), (9, 4, [some 20, none, none, none]), (100, 64, []), (9, 4, [some 22, none, none, none]), (100, 16, []), (9, 4, [some 24, none, none, none]), (100, 10, []), (1, 11, [some 26, some 28, some 30, some 32, some 34, some 36, some 38, none, none, none, none]), (9, 4, [some 27, none, none, none]), (100, 96, []), (9, 4, [some 29, none, none, none]), (100, 40, []), (9, 4, [some 31, none, none, none]), (100, 7, []), (9, 4, [some 33, none, none, none]), (100, 600, []), (9, 4, [some 35, none, none, none]), (100, 64, []), (9, 4, [some 37, none, none, none]), (100, 800, []), (9, 4, [some 39, none, none, none]), (100, 64, []), (9, 4, [some 41, none, none, none]), (100, 64, [])]
def S_82 : List SE := [(11, 13, [some 2, none, none, none, none, none, none, none, none, none, none, none, some 1]), (100, 12, []), (1, 11, [some 3, some 5, some 7, some 9, some 11, some 13, some 15, some 17, some 19, some 21, some 23]), (9, 4, [some 4, none, none, none]), (100, 96, []), (9, 4, [some 6, none, none, none]), (100, 40, []), (9, 4, [some 8, none, none, none]), (100, 7, []), (9, 4, [some 10, none, none, none]), (100, 600, []), (9, 4, [some 12, none, none, none]), (100, 64, []), (9, 4, [some 14, none, none, none]), (100, 800, []), (9, 4, [some 16, none, none, none]), (100, 64, []), (9, 4, [some 18, none, none, none]), (100, 64, []), (9, 4, [some 20, none, none, none]), (100, 64, []), (9, 4, [some 22, none, none, none]), (100, 16, []), (9, 4, [some 24, none, none, none]), (100, 10, []), (1, 11, [some 26, some 28, some 30, some 32, some 34, some 36, some 38, some 40, none, none, none]), (9, 4, [some 27, none, none, none]), (100, 96, []), (9, 4, [some 29, none, none, none]), (100, 40, []), (9, 4, [some 31, none, none, none]), (100, 7, []), (9, 4, [some 33, none, none, none]), (100, 600, []), (9, 4, [some 35, none, none, none]), (100, 64, []), (9, 4, [some 37, none, none, none]), (100, 800, []), (9, 4, [some 39, none, none, none]), (100, 64, []), (9, 4, [some 41, none, none, none]), (100, 64, [])]
def S_83 : List SE := [(11, 13, [some 2, none, none, none, none, none, none, none, none, none, none, none, some 1]), (100, 12, []), (1, 11, [some 3, some 5, some 7, some 9, some 11, some 13, some 15, some 17, some 19, some 21, some 23]), (9, 4, [some 4, none, none, none]), (100, 96, []), (9, 4, [some 6, none, none, none]), (100, 40, []), (9, 4, [some 8, none, none, none]), (100, 7, []), (9, 4, [some 10, none, none, none]), (100, 600, []), (9, 4, [some 12, none, none, none]), (100, 64, []), (9, 4, [some 14, none, none, none]), (100, 800, []), (9, 4, [some 16, none, none, none]), (100, 64, []), (9, 4, [some 18, none, none, none]), (100, 64, []), (9, 4, [some 20, none, none, none]), (100, 64, []), (9, 4, [some 22, none, none, none]), (100, 16, []), (9, 4, [some 24, none, none, none]), (100, 10, []), (1, 11, [some 26, some 28, some 30, some 32, some 34, some 36, some 38, some 40, none, none, none]), (9, 4, [some 27, none, none, none]), (100, 96, []), (9, 4, [some 29, none, none, none]), (100, 40, []), (9, 4, [some 31, none, none, none]), (100, 7, []), (9, 4, [some 33, none, none, none]), (100, 600, []), (9, 4, [some 35, none, none, none]), (100, 64, []), (9, 4, [some 37, none, none, none]), (100, 800, []), (9, 4, [some 39, none, none, none]), (100, 64, []), (9, 4, [some 41, none, none, none]), (100, 64, []), (9, 4, [none, none, none, none])]
def S_84 : List SE := [(11, 13, [some 2, none, none, none, none, none, none, none, none, none, none, none, some 1]), (100, 12, []), (1, 11, [some 3, some 5, some 7, some 9, some 11, some 13, some 15, some 17, some 19, some 21, some 23]), (9, 4, [some 4, none, none, none]), (100, 96, []), (9, 4, [some 6, none, none, none]), (100, 40, []), (9, 4, [some 8, none, none, none]), (100, 7, []), (9, 4, [some 10, none, none, none]), (100, 600, []), (9, 4, [some 12, none, none, none]), (100, 64, []), (9, 4, [some 14, none, none, none]), (100, 800, []), (9, 4, [some 16, none, none, none]), (100, 64, []), (9, 4, [some 18, none, none, none]), (100, 64, []), (9, 4, [some 20, none, none, none]), (100, 64, []), (9, 4, [some 22, none, none, none]), (100, 16, []), (9, 4, [some 24, none, none, none]), (100, 10, []), (1, 11, [some 26, some 28, some 30, some 32, some 34, some 36, some 38, some 40, none, none, none]), (9, 4, [some 27, none, none, none]), (100, 96, []), (9, 4, [some 29, none, none, none]), (100, 40, []), (9, 4, [some 31, none, none, none]), (100, 7, []), (9, 4, [some 33, none, none, none]), (100, 600, []), (9, 4, [some 35, none, none, none]), (100, 64, []), (9, 4, [some 37, none, none, none]), (100, 800, []), (9, 4, [some 39, none, none, none]), (100, 64, []), (9, 4, [some 41, none, none, none]), (100, 64, []), (9, 4, [none, none, none, none]), (100, 64, [])]
def S_85 : List SE := [(11, 13, [some 2, none, none, none, none, none, none, none, none, none, none, none, some 1]), (100, 12, []), (1, 11, [some 3, some 5, some 7, some 9, some 11, some 13, some 15, some 17, some 19, some 21, some 23]), (9, 4, [some 4, none, none, none]), (100, 96, []), (9, 4, [some 6, none, none, none]), (100, 40, []), (9, 4, [some 8, none, none, none]), (100, 7, []), (9, 4, [some 10, none, none, none]), (100, 600, []), (9, 4, [some 12, none, none, none]), (100, 64, []), (9, 4, [some 14, none, none, none]), (100, 800, []), (9, 4, [some 16, none, none, none]), (100, 64, []), (9, 4, [some 18, none, none, none]), (100, 64, []), (9, 4, [some 20, none, none, none]), (100, 64, []), (9, 4, [some 22, none, none, none]), (100, 16, []), (9, 4, [some 24, none, none, none]), (100, 10, []), (1, 11, [some 26, some 28, some 30, some 32, some 34, some 36, some 38, some 40, none, none, none]), (9, 4, [some 27, none, none, none]), (100, 96, []), (9, 4, [some 29, none, none, none]), (100, 40, []), (9, 4, [some 31, none, none, none]), (100, 7, []), (9, 4, [some 33, none, none, none]), (100, 600, []), (9, 4, [some 35, none, none, none]), (100, 64, []), (9, 4, [some 37, none, none, none]), (100, 800, []), (9, 4, [some 39, none, none, none]), (100, 64, []), (9, 4, [some 41, none, none, none]), (100, 64, []), (9, 4, [some 43, none, none, none]), (100, 64, [])]
def S_86 : List SE := [(11, 13, [some 2, none, none, none, none, none, none, none, none, none, none, none, some 1]), (100, 12, []), (1, 11, [some 3, some 5, some 7, some 9, some 11, some 13, some 15, some 17, some 19, some 21, some 23]), (9, 4, [some 4, none, none, none]), (100, 96, []), (9, 4, [some 6, none, none, none]), (100, 40, []), (9, 4, [some 8, none, none, none]), (100, 7, []), (9, 4, [some 10, none, none, none]), (100, 600, []), (9, 4, [some 12, none, none, none]), (100, 64, []), (9, 4, [some 14, none, none, none]), (100, 800, []), (9, 4, [some 16, none, none, none]), (100, 64, []), (9, 4, [some 18, none, none, none]), (100, 64, []), (9, 4, [some 20, none, none, none]), (100, 64, []), (9, 4, [some 22, none, none, none]), (100, 16, []), (9, 4, [some 24, none, none, none]), (100, 10, []), (1, 11, [some 26, some 28, some 30, some 32, some 34, some 36, some 38, some 40, some 42, none, none]), (9, 4, [some 27, none, none, none]), (100, 96, []), (9, 4, [some 29, none, none, none]), (100, 40, []), (9, 4, [some 31, none, none, none]), (100, 7, []), (9, 4, [some 33, none, none, none]), (100, 600, []), (9, 4, [some 35, none, none, none]), (100, 64, []), (9, 4, [some 37, none, none, none]), (100, 800, []), (9, 4, [some 39, none, none, none]), (100, 64, []), (9, 4, [some 41, none, none, none]), (100, 64, []), (9, 4, [some 43, none, none, none]), (100, 64, [])]
def S_87 : List SE := [(11, 13, [some 2, none, none, none, none, none, none, none, none, none, none, none, some 1]), (100, 12, []), (1, 11, [some 3, some 5, some 7, some 9, some 11, some 13, some 15, some 17, some 19, some 21, some 23]), (9, 4, [some 4, none, none, none]), (100, 96, []), (9, 4, [some 6, none, none, none]), (100, 40, []), (9, 4, [some 8, none, none, none]), (100, 7, []), (9, 4, [some 10, none, none, none]), (100, 600, []), (9, 4, [some 12, none, none, none]), (100, 64, []), (9, 4, [some 14, none, none, none]), (100, 800, []), (9, 4, [some 16, none, none, none]), (100, 64, []), (9, 4, [some 18, none, none, none]), (100, 64, []), (9, 4, [some 20, none, none, none]), (100, 64, []), (9, 4, [some 22, none, none, none]), (100, 16, []), (9, 4, [some 24, none, none, none]), (100, 10, []), (1, 11, [some 26, some 28, some 30, some 32, some 34, some 36, some 38, some 40, some 42, none, none]), (9, 4, [some 27, none, none, none]), (100, 96, []), (9, 4, [some 29, none, none, none]), (100, 40, []), (9, 4, [some 31, none, none, none]), (100, 7, []), (9, 4, [some 33, none, none, none]), (100, 600, []), (9, 4, [some 35, none, none, none]), (100, 64, []), (9, 4, [some 37, none, none, none]), (100, 800, []), (9, 4, [some 39, none, none, none]), (100, 64, []), (9, 4, [some 41, none, none, none]), (100, 64, []), (9, 4, [some 43, none, none, none]), (100, 64, []), (9, 4, [none, none, none, none])]
def S_88 : List SE := [(11, 13, [some 2, none, none, none, none, none, none, none, none, none, none, none, some 1]), (100, 12, []), (1, 11, [some 3, some 5, some 7, some 9, some 11, some 13, some 15, some 17, some 19, some 21, some 23]), (9, 4, [some 4, none, none, none]), (100, 96, []), (9, 4, [some 6, none, none, none]), (100, 40, []), (9, 4, [some 8, none, none, none]), (100, 7, []), (9, 4, [some 10, none, none, none]), (100, 600, []), (9, 4, [some 12, none, none, none]), (100, 64, []), (9, 4, [some 14, none, none, none]), (100, 800, []), (9, 4, [some 16, none, none, none]), (100, 64, []), (9, 4, [some 18, none, none, none]), (100, 64, []), (9, 4, [some 20, none, none, none]), (100, 64, []), (9, 4, [some 22, none, none, none]), (100, 16, []), (9, 4, [some 24, none, none, none]), (100, 10, []), (1, 11, [some 26, some 28, some 30, some 32, some 34, some 36, some 38, some 40, some 42, none, none]), (9, 4, [some 27, none, none, none]), (100, 96, []), (9, 4, [some 29, none, none, none]), (100, 40, []), (9, 4, [some 31, none, none, none]), (100, 7, []), (9, 4, [some 33, none, none, none]), (100, 600, []), (9, 4, [some 35, none, none, none]), (100, 64, []), (9, 4, [some 37, none, none, none]), (100, 800, []), (9, 4, [some 39, none, none, none]), (100, 64, []), (9, 4, [some 41, none, none, none]), (100, 64, []), (9, 4, [some 43, none, none, none]), (100, 64, []), (9, 4, [none, none, none, none]), (100, 16, [])]
def S_89 : List SE := [(11, 13, [some 2, none, none, none, none, none, none, none, none, none, none, none, some 1]), (100, 12, []), (1, 11, [some 3, some 5, some 7, some 9, some 11, some 13, some 15, some 17, some 19, some 21, some 23]), (9, 4, [some 4, none, none, none]), (100, 96, []), (9, 4, [some 6, none, none, none]), (100, 40, []), (9, 4, [some 8, none, none, none]), (100, 7, []), (9, 4, [some 10, none, none, none]), (100, 600, []), (9, 4, [some 12, none, none, none]), (100, 64, []), (9, 4, [some 14, none, none, none]), (100, 800, []), (9, 4, [some 16, none, none, none]), (100, 64, []), (9, 4, [some 18, none, none, none]), (100, 64, []), (9, 4, [some 20, none, none, none]), (100, 64, []), (9, 4, [some 22, none, none, none]), (100, 16, []), (9, 4, [some 24, none, none, none]), (100, 10, []), (1, 11, [some 26, some 28, some 30, some 32, some 34, some 36, some 38, some 40, some 42, none, none]), (9, 4, [some 27, none, none, none]), (100, 96, []), (9, 4, [some 29, none, none, none]), (100, 40, []), (9, 4, [some 31, none, none, none]), (100, 7, []), (9, 4, [some 33, none, none, none]), (100, 600, []), (9, 4, [some 35, none, none, none]), (100, 64, []), (9, 4, [some 37, none, none, none]), (100, 800, []), (9, 4, [some 39, none, none, none]), (100, 64, []), (9, 4, [some 41, none, none, none]), (100, 64, []), (9, 4, [some 43, none, none, none]), (100, 64, []), (9, 4, [some 45, none, none, none]), (100, 16, [])]
def S_90 : List SE := [(11, 13, [some 2, none, none, none, none, none, none, none, none, none, none, none, some 1]), (100, 12, []), (1, 11, [some 3, some 5, some 7, some 9, some 11, some 13, some 15, some 17, some 19, some 21, some 23]), (9, 4, [some 4, none, none, none]), (100, 96, []), (9, 4, [some 6, none, none, none]), (100, 40, []), (9, 4, [some 8, none, none, none]), (100, 7, []), (9, 4, [some 10, none, none, none]), (100, 600, []), (9, 4, [some 12, none, none, none]), (100, 64, []), (9, 4, [some 14, none, none, none]), (100, 800, []), (9, 4, [some 16, none, none, none]), (100, 64, []), (9, 4, [some 18, none, none, none]), (100, 64, []), (9, 4, [some 20, none, none, none]), (100, 64, []), (9, 4, [some 22, none, none, none]), (100, 16, []), (9, 4, [some 24, none, none, none]), (100, 10, []), (1, 11, [some 26, some 28, some 30, some 32, some 34, some 36, some 38, some 40, some 42, some 44, none]), (9, 4, [some 27, none, none, none]), (100, 96, []), (9, 4, [some 29, none, none, none]), (100, 40, []), (9, 4, [some 31, none, none, none]), (100, 7, []), (9, 4, [some 33, none, none, none]), (100, 600, []), (9, 4, [some 35, none, none, none]), (100, 64, []), (9, 4, [some 37, none, none, none]), (100, 800, []), (9, 4, [some 39, none, none, none]), (100, 64, []), (9, 4, [some 41, none, none, none]), (100, 64, []), (9, 4, [some 43, none, none, none]), (100, 64, []), (9, 4, [some 45, none, none, none]), (100, 16, [])]
def S_91 : List SE := [(11, 13, [some 2, none, none, none, none, none, none, none, none, none, none, none, some 1]), (100, 12, []), (1, 11, [some 3, some 5, some 7, some 9, some 11, some 13, some 15, some 17, some 19, some 21, some 23]), (9, 4, [some 4, none, none, none]), (100, 96, []), (9, 4, [some 6, none, none, none]), (100, 40, []), (9, 4, [some 8, none, none, none]), (100, 7, []), (9, 4, [some 10, none, none, none]), (100, 600, []), (9, 4, [some 12, none, none, none]), (100, 64, []), (9, 4, [some 14, none, none, none]), (100, 800, []), (9, 4, [some 16, none, none, none]), (100, 64, []), (9, 4, [some 18, none, none, none]), (100, 64, []), (9, 4, [some 20, none, none, none]), (100, 64, []), (9, 4, [some 22, none, none, none]), (100, 16, []), (9, 4, [some 24, none, none, none]), (100, 10, []), (1, 11, [some 26, some 28, some 30, some 32, some 34, some 36, some 38, some 40, some 42, some 44, none]), (9, 4, [some 27, none, none, none]), (100, 96, []), (9, 4, [some 29, none, none, none]), (100, 40, []), (9, 4, [some 31, none, none, none]), (100, 7, []), (9, 4, [some 33, none, none, none]), (100, 600, []), (9, 4, [some 35, none, none, none]), (100, 64, []), (9, 4, [some 37, none, none, none]), (100, 800, []), (9, 4, [some 39, none, none, none]), (100, 64, []), (9, 4, [some 41, none, none, none]), (100, 64, []), (9, 4, [some 43, none, none, none]), (100, 64, []), (9, 4, [some 45, none, none, none]), (100, 16, []), (9, 4, [none, none, none, none])]
def S_92 : List SE := [(11, 13, [some 2, none, none, none, none, none, none, none, none, none, none, none, some 1]), (100, 12, []), (1, 11, [some 3, some 5, some 7, some 9, some 11, some 13, some 15, some 17, some 19, some 21, some 23]), (9, 4, [some 4, none, none, none]), (100, 96, []), (9, 4, [some 6, none, none, none]), (100, 40, []), (9, 4, [some 8, none, none, none]), (100, 7, []), (9, 4, [some 10, none, none, none]), (100, 600, []), (9, 4, [some 12, none, none, none]), (100, 64, []), (9, 4, [some 14, none, none, none]), (100, 800, []), (9, 4, [some 16, none, none, none]), (100, 64, []), (9, 4, [some 18, none, none, none]), (100, 64, []), (9, 4, [some 20, none, none, none]), (100, 64, []), (9, 4, [some 22, none, none, none]), (100, 16, []), (9, 4, [some 24, none, none, none]), (100, 10, []), (1, 11, [some 26, some 28, some 30, some 32, some 34, some 36, some 38, some 40, some 42, some 44, none]), (9, 4, [some 27, none, none, none]), (100, 96, []), (9, 4, [some 29, none, none, none]), (100, 40, []), (9, 4, [some 31, none, none, none]), (100, 7, []), (9, 4, [some 33, none, none, none]), (100, 600, []), (9, 4, [some 35, none, none, none]), (100, 64, []), (9, 4, [some 37, none, none, none]), (100, 800, []), (9, 4, [some 39, none, none, none]), (100, 64, []), (9, 4, [some 41, none, none, none]), (100, 64, []), (9, 4, [some 43, none, none, none]), (100, 64, []), (9, 4, [some 45, none, none, none]), (100, 16, []), (9, 4, [none, none, none, none]), (100, 10, [])]
def S_93 : List SE := [(11, 13, [some 2, none, none, none, none, none, none, none, none, none, none, none, some 1]), (100, 12, []), (1, 11, [some 3, some 5, some 7, some 9, some 11, some 13, some 15, some 17, some 19, some 21, some 23]), (9, 4, [some 4, none, none, none]), (100, 96, []), (9, 4, [some 6, none, none, none]), (100, 40, []), (9, 4, [some 8, none, none, none]), (100, 7, []), (9, 4, [some 10, none, none, none]), (100, 600, []), (9, 4, [some 12, none, none, none]), (100, 64, []), (9, 4, [some 14, none, none, none]), (100, 800, []), (9, 4, [some 16, none, none, none]), (100, 64, []), (9, 4, [some 18, none, none, none]), (100, 64, []), (9, 4, [some 20, none, none, none]), (100, 64, []), (9, 4, [some 22, none, none, none]), (100, 16, []), (9, 4, [some 24, none, none, none]), (100, 10, []), (1, 11, [some 26, some 28, some 30, some 32, some 34, some 36, some 38, some 40, some 42, some 44, none]), (9, 4, [some 27, none, none, none]), (100, 96, []), (9, 4, [some 29, none, none, none]), (100, 40, []), (9, 4, [some 31, none, none, none]), (100, 7, []), (9, 4, [some 33, none, none, none]), (100, 600, []), (9, 4, [some 35, none, none, none]), (100, 64, []), (9, 4, [some 37, none, none, none]), (100, 800, []), (9, 4, [some 39, none, none, none]), (100, 64, []), (9, 4, [some 41, none, none, none]), (100, 64, []), (9, 4, [some 43, none, none, none]), (100, 64, []), (9, 4, [some 45, none, none, none]), (100, 16, []), (9, 4, [some 47, none, none, none]), (100, 10, [])]
def S_94 : List SE := [(11, 13, [some 2, none, none, none, none, none, none, none, none, none, none, none, some 1]), (100, 12, []), (1, 11, [some 3, some 5, some 7, some 9, some 11, some 13, some 15, some 17, some 19, some 21, some 23]), (9, 4, [some 4, none, none, none]), (100, 96, []), (9, 4, [some 6, none, none, none]), (100, 40, []), (9, 4, [some 8, none, none, none]), (100, 7, []), (9, 4, [some 10, none, none, none]), (100, 600, []), (9, 4, [some 12, none, none, none]), (100, 64, []), (9, 4, [some 14, none, none, none]), (100, 800, []), (9, 4, [some 16, none, none, none]), (100, 64, []), (9, 4, [some 18, none, none, none]), (100, 64, []), (9, 4, [some 20, none, none, none]), (100, 64, []), (9, 4, [some 22, none, none, none]), (100, 16, []), (9, 4, [some 24, none, none, none]), (100, 10, []), (1, 11, [some 26, some 28, some 30, some 32, some 34, some 36, some 38, some 40, some 42, some 44, some 46]), (9, 4, [some 27, none, none, none]), (100, 96, []), (9, 4, [some 29, none, none, none]), (100, 40, []), (9, 4, [some 31, none, none, none]), (100, 7, []), (9, 4, [some 33, none, none, none]), (100, 600, []), (9, 4, [some 35, none, none, none]), (100, 64, []), (9, 4, [some 37, none, none, none]), (100, 800, []), (9, 4, [some 39, none, none, none]), (100, 64, []), (9, 4, [some 41, none, none, none]), (100, 64, []), (9, 4, [some 43, none, none, none]), (100, 64, []), (9, 4, [some 45, none, none, none]), (100, 16, []), (9, 4, [some 47, none, none, none]), (100, 10, [])]
def S_95 : List SE := [(11, 13, [some 2, some 25, none, none, none, none, none, none, none, none, none, none, some 1]), (100, 12, []), (1, 11, [some 3, some 5, some 7, some 9, some 11, some 13, some 15, some 17, some 19, some 21, some 23]), (9, 4, [some 4, none, none, none]), (100, 96, []), (9, 4, [some 6, none, none, none]), (100, 40, []), (9, 4, [some 8, none, none, none]), (100, 7, []), (9, 4, [some 10, none, none, none]), (100, 600, []), (9, 4, [some 12, none, none, none]), (100, 64, []), (9, 4, [some 14, none, none, none]), (100, 800, []), (9, 4, [some 16, none, none, none]), (100, 64, []), (9, 4, [some 18, none, none, none]), (100, 64, []), (9, 4, [some 20, none, none, none]), (100, 64, []), (9, 4, [some 22, none, none, none]), (100, 16, []), (9, 4, [some 24, none, none, none]), (100, 10, []), (1, 11, [some 26, some 28, some 30, some 32, some 34, some 36, some 38, some 40, some 42, some 44, some 46]), (9, 4, [some 27, none, none, none]), (100, 96, []), (9, 4, [some 29, none, none, none]), (100, 40, []), (9, 4, [some 31, none, none, none]), (100, 7, []), (9, 4, [some 33, none, none, none]), (100, 600, []), (9, 4, [some 35, none, none, none]), (100, 64, []), (9, 4, [some 37, none, none, none]), (100, 800, []), (9, 4, [some 39, none, none, none]), (100, 64, []), (9, 4, [some 41, none, none, none]), (100, 64, []), (9, 4, [some 43, none, none, none]), (100, 64, []), (9, 4, [some 45, none, none, none]), (100, 16, []), (9, 4, [some 47, none, none, none]), (100, 10, [])]
def S_96 : List SE := [(11, 13, [some 2, some 25, none, none, none, none, none, none, none, none, none, none, some 1]), (100, 12, []), (1, 11, [some 3, some 5, some 7, some 9, some 11, some 13, some 15, some 17, some 19, some 21, some 23]), (9, 4, [some 4, none, none, none]), (100, 96, []), (9, 4, [some 6, none, none, none]), (100, 40, []), (9, 4, [some 8, none, none, none]), (100, 7, []), (9, 4, [some 10, none, none, none]), (100, 600, []), (9, 4, [some 12, none, none, none]), (100, 64, []), (9, 4, [some 14, none, none, none]), (100, 800, []), (9, 4, [some 16, none, none, none]), (100, 64, []), (9, 4, [some 18, none, none, none]), (100, 64, []), (9, 4, [some 20, none, none, none]), (100, 64, []), (9, 4, [some 22, none, none, none]), (100, 16, []), (9, 4, [some 24, none, none, none]), (100, 10, []), (1, 11, [some 26, some 28, some 30, some 32, some 34, some 36, some 38, some 40, some 42, some 44, some 46]), (9, 4, [some 27, none, none, none]), (100, 96, []), (9, 4, [some 29, none, none, none]), (100, 40, []), (9, 4, [some 31, none, none, none]), (100, 7, []), (9, 4, [some 33, none, none, none]), (100, 600, []), (9, 4, [some 35, none, none, none]), (100, 64, []), (9, 4, [some 37, none, none, none]), (100, 800, []), (9, 4, [some 39, none, none, none]), (100, 64, []), (9, 4, [some 41, none, none, none]), (100, 64, []), (9, 4, [some 43, none, none, none]), (100, 64, []), (9, 4, [some 45, none, none, none]), (100, 16, []), (9, 4, [some 47, none, none, none]), (100, 10, []), (4, 3, [none, none, none])]
def S_97 : List SE := [(11, 13, [some 2, some 25, none, none, none, none, none, none, none, none, none, none, some 1]), (100, 12, []), (1, 11, [some 3, some 5, some 7, some 9, some 11, some 13, some 15, some 17, some 19, some 21, some 23]), (9, 4, [some 4, none, none, none]), (100, 96, []), (9, 4, [some 6, none, none, none]), (100, 40, []), (9, 4, [some 8, none, none, none]), (100, 7, []), (9, 4, [some 10, none, none, none]), (100, 600, []), (9, 4, [some 12, none, none, none]), (100, 64, []), (9, 4, [some 14, none, none, none]), (100, 800, []), (9, 4, [some 16, none, none, none]), (100, 64, []), (9, 4, [some 18, none, none, none]), (100, 64, []), (9, 4, [some 20, none, none, none]), (100, 64, []), (9, 4, [some 22, none, none, none]), (100, 16, []), (9, 4, [some 24, none, none, none]), (100, 10, []), (1, 11, [some 26, some 28, some 30, some 32, some 34, some 36, some 38, some 40, some 42, some 44, some 46]), (9, 4, [some 27, none, none, none]), (100, 96, []), (9, 4, [some 29, none, none, none]), (100, 40, []), (9, 4, [some 31, none, none, none]), (100, 7, []), (9, 4, [some 33, none, none, none]), (100, 600, []), (9, 4, [some 35, none, none, none]), (100, 64, []), (9, 4, [some 37, none, none, none]), (100, 800, []), (9, 4, [some 39, none, none, none]), (100, 64, []), (9, 4, [some 41, none, none, none]), (100, 64, []), (9, 4, [some 43, none, none, none]), (100, 64, []), (9, 4, [some 45, none, none, none]), (100, 16, []), (9, 4, [some 47, none, none, none]), (100, 10, []), (4, 3, [none, none, none]), (101, 6, [none, none, none, none, none, none])]
def S_98 : List SE := [(11, 13, [some 2, some 25, none, none, none, none, none, none, none, none, none, none, some 1]), (100, 12, []), (1, 11, [some 3, some 5, some 7, some 9, some 11, some 13, some 15, some 17, some 19, some 21, some 23]), (9, 4, [some 4, none, none, none]), (100, 96, []), (9, 4, [some 6, none, none, none]), (100, 40, []), (9, 4, [some 8, none, none, none]), (100, 7, []), (9, 4, [some 10, none, none, none]), (100, 600, []), (9, 4, [some 12, none, none, none]), (100, 64, []), (9, 4, [some 14, none, none, none]), (100, 800, []), (9, 4, [some 16, none, none, none]), (100, 64, []), (9, 4, [some 18, none, none, none]), (100, 64, []), (9, 4, [some 20, none, none, none]), (100, 64, []), (9, 4, [some 22, none, none, none]), (100, 16, []), (9, 4, [some 24, none, none, none]), (100, 10, []), (1, 11, [some 26, some 28, some 30, some 32, some 34, some 36, some 38, some 40, some 42, some 44, some 46]), (9, 4, [some 27, none, none, none]), (100, 96, []), (9, 4, [some 29, none, none, none]), (100, 40, []), (9, 4, [some 31, none, none, none]), (100, 7, []), (9, 4, [some 33, none, none, none]), (100, 600, []), (9, 4, [some 35, none, none, none]), (100, 64, []), (9, 4, [some 37, none, none, none]), (100, 800, []), (9, 4, [some 39, none, none, none]), (100, 64, []), (9, 4, [some 41, none, none, none]), (100, 64, []), (9, 4, [some 43, none, none, none]), (100, 64, []), (9, 4, [some 45, none, none, none]), (100, 16, []), (9, 4, [some 47, none, none, none]), (100, 10, []), (4, 3, [some 49, none, none]), (101, 6, [none, none, none, none, none, none])]
def S_99 : List SE := [(11, 13, [some 2, some 25, none, none, none, none, none, none, none, none, none, none, some 1]), (100, 12, []), (1, 11, [some 3, some 5, some 7, some 9, some 11, some 13, some 15, some 17, some 19, some 21, some 23]), (9, 4, [some 4, none, none, none]), (100, 96, []), (9, 4, [some 6, none, none, none]), (100, 40, []), (9, 4, [some 8, none, none, none]), (100, 7, []), (9, 4, [some 10, none, none, none]), (100, 600, []), (9, 4, [some 12, none, none, none]), (100, 64, []), (9, 4, [some 14, none, none, none]), (100, 800, []), (9, 4, [some 16, none, none, none]), (100, 64, []), (9, 4, [some 18, none, none, none]), (100, 64, []), (9, 4, [some 20, none, none, none]), (100, 64, []), (9, 4, [some 22, none, none, none]), (100, 16, []), (9, 4, [some 24, none, none, none]), (100, 10, []), (1, 11, [some 26, some 28, some 30, some 32, some 34, some 36, some 38, some 40, some 42, some 44, some 46]), (9, 4, [some 27, none, none, none]), (100, 96, []), (9, 4, [some 29, none, none, none]), (100, 40, []), (9, 4, [some 31, none, none, none]), (100, 7, []), (9, 4, [some 33, none, none, none]), (100, 600, []), (9, 4, [some 35, none, none, none]), (100, 64, []), (9, 4, [some 37, none, none, none]), (100, 800, []), (9, 4, [some 39, none, none, none]), (100, 64, []), (9, 4, [some 41, none, none, none]), (100, 64, []), (9, 4, [some 43, none, none, none]), (100, 64, []), (9, 4, [some 45, none, none, none]), (100, 16, []), (9, 4, [some 47, none, none, none]), (100, 10, []), (4, 3, [some 49, none, none]), (101, 6, [none, none, none, none, none, none]), (3, 4, [none, none, none, none])]
def S_100 : List SE := [(11, 13, [some 2, some 25, none, none, none, none, none, none, none, none, none, none, some 1]), (100, 12, []), (1, 11, [some 3, some 5, some 7, some 9, some 11, some 13, some 15, some 17, some 19, some 21, some 23]), (9, 4, [some 4, none, none, none]), (100, 96, []), (9, 4, [some 6, none, none, none]), (100, 40, []), (9, 4, [some 8, none, none, none]), (100, 7, []), (9, 4, [some 10, none, none, none]), (100, 600, []), (9, 4, [some 12, none, none, none]), (100, 64, []), (9, 4, [some 14, none, none, none]), (100, 800, []), (9, 4, [some 16, none, none, none]), (100, 64, []), (9, 4, [some 18, none, none, none]), (100, 64, []), (9, 4, [some 20, none, none, none]), (100, 64, []), (9, 4, [some 22, none, none, none]), (100, 16, []), (9, 4, [some 24, none, none, none]), (100, 10, []), (1, 11, [some 26, some 28, some 30, some 32, some 34, some 36, some 38, some 40, some 42, some 44, some 46]), (9, 4, [some 27, none, none, none]), (100, 96, []), (9, 4, [some 29, none, none, none]), (100, 40, []), (9, 4, [some 31, none, none, none]), (100, 7, []), (9, 4, [some 33, none, none, none]), (100, 600, []), (9, 4, [some 35, none, none, none]), (100, 64, []), (9, 4, [some 37, none, none, none]), (100, 800, []), (9, 4, [some 39, none, none, none]), (100, 64, []), (9, 4, [some 41, none, none, none]), (100, 64, []), (9, 4, [some 43, none, none, none]), (100, 64, []), (9, 4, [some 45, none, none, none]), (100, 16, []), (9, 4, [some 47, none, none, none]), (100, 10, []), (4, 3, [some 49, none, none]), (101, 6, [none, none, none, none, none, none]), (3, 4, [none, none, none, none]), (9, 4, [none, none, none, none])]
def S_101 : List SE := [(11, 13, [some 2, some 25, none, none, none, none, none, none, none, none, none, none, some 1]), (100, 12, []), (1, 11, [some 3, some 5, some 7, some 9, some 11, some 13, some 15, some 17, some 19, some 21, some 23]), (9, 4, [some 4, none, none, none]), (100, 96, []), (9, 4, [some 6, none, none, none]), (100, 40, []), (9, 4, [some 8, none, none, none]), (100, 7, []), (9, 4, [some 10, none, none, none]), (100, 600, []), (9, 4, [some 12, none, none, none]), (100, 64, []), (9, 4, [some 14, none, none, none]), (100, 800, []), (9, 4, [some 16, none, none, none]), (100, 64, []), (9, 4, [some 18, none, none, none]), (100, 64, []), (9, 4, [some 20, none, none, none]), (100, 64, []), (9, 4, [some 22, none, none, none]), (100, 16, []), (9, 4, [some 24, none, none, none]), (100, 10, []), (1, 11, [some 26, some 28, some 30, some 32, some 34, some 36, some 38, some 40, some 42, some 44, some 46]), (9, 4, [some 27, none, none, none]), (100, 96, []), (9, 4, [some 29, none, none, none]), (100, 40, []), (9, 4, [some 31, none, none, none]), (100, 7, []), (9, 4, [some 33, none, none, none]), (100, 600, []), (9, 4, [some 35, none, none, none]), (100, 64, []), (9, 4, [some 37, none, none, none]), (100, 800, []), (9, 4, [some 39, none, none, none]), (100, 64, []), (9, 4, [some 41, none, none, none]), (100, 64, []), (9, 4, [some 43, none, none, none]), (100, 64, []), (9, 4, [some 45, none, none, none]), (100, 16, []), (9, 4, [some 47, none, none, none]), (100, 10, []), (4, 3, [some 49, none, none]), (101, 6, [none, none, none, none, none, none]), (3, 4, [none, none, none, none]), (9, 4, [none, none, none, none]), (100, 96, [])]
def S_102 : List SE := [(11, 13, [some 2, some 25, none, none, none, none, none, none, none, none, none, none, some 1]), (100, 12, []), (1, 11, [some 3, some 5, some 7, some 9, some 11, some 13, some 15, some 17, some 19, some 21, some 23]), (9, 4, [some 4, none, none, none]), (100, 96, []), (9, 4, [some 6, none, none, none]), (100, 40, []), (9, 4, [some 8, none, none, none]), (100, 7, []), (9, 4, [some 10, none, none, none]), (100, 600, []), (9, 4, [some 12, none, none, none]), (100, 64, []), (9, 4, [some 14, none, none, none]), (100, 800, []), (9, 4, [some 16, none, none, none]), (100, 64, []), (9, 4, [some 18, none, none, none]), (100, 64, []), (9, 4, [some 20, none, none, none]), (100, 64, []), (9, 4, [some 22, none, none, none]), (100, 16, []), (9, 4, [some 24, none, none, none]), (100, 10, []), (1, 11, [some 26, some 28, some 30, some 32, some 34, some 36, some 38, some 40, some 42, some 44, some 46]), (9, 4, [some 27, none, none, none]), (100, 96, []), (9, 4, [some 29, none, none, none]), (100, 40, []), (9, 4, [some 31, none, none, none]), (100, 7, []), (9, 4, [some 33, none, none, none]), (100, 600, []), (9, 4, [some 35, none, none, none]), (100, 64, []), (9, 4, [some 37, none, none, none]), (100, 800, []), (9, 4, [some 39, none, none, none]), (100, 64, []), (9, 4, [some 41, none, none, none]), (100, 64, []), (9, 4, [some 43, none, none, none]), (100, 64, []), (9, 4, [some 45, none, none, none]), (100, 16, []), (9, 4, [some 47, none, none, none]), (100, 10, []), (4, 3, [some 49, none, none]), (101, 6, [none, none, none, none, none, none]), (3, 4, [none, none, none, none]), (9, 4, [some 52, none, none, none]), (100, 96, [])]
def S_103 : List SE := [(11, 13, [some 2, some 25, none, none, none, none, none, none, none, none, none, none, some 1]), (100, 12, []), (1, 11, [some 3, some 5, some 7, some 9, some 11, some 13, some 15, some 17, some 19, some 21, some 23]), (9, 4, [some 4, none, none, none]), (100, 96, []), (9, 4, [some 6, none, none, none]), (100, 40, []), (9, 4, [some 8, none, none, none]), (100, 7, []), (9, 4, [some 10, none, none, none]), (100, 600, []), (9, 4, [some 12, none, none, none]), (100, 64, []), (9, 4, [some 14, none, none, none]), (100, 800, []), (9, 4, [some 16, none, none, none]), (100, 64, []), (9, 4, [some 18, none, none, none]), (100, 64, []), (9, 4, [some 20, none, none, none]), (100, 64, []), (9, 4, [some 22, none, none, none]), (100, 16, []), (9, 4, [some 24, none, none, none]), (100, 10, []), (1, 11, [some 26, some 28, some 30, some 32, some 34, some 36, some 38, some 40, some 42, some 44, some 46]), (9, 4, [some 27, none, none, none]), (100, 96, []), (9, 4, [some 29, none, none, none]), (100, 40, []), (9, 4, [some 31, none, none, none]), (100, 7, []), (9, 4, [some 33, none, none, none]), (100, 600, []), (9, 4, [some 35, none, none, none]), (100, 64, []), (9, 4, [some 37, none, none, none]), (100, 800, []), (9, 4, [some 39, none, none, none]), (100, 64, []), (9, 4, [some 41, none, none, none]), (100, 64, []), (9, 4, [some 43, none, none, none]), (100, 64, []), (9, 4, [some 45, none, none, none]), (100, 16, []), (9, 4, [some 47, none, none, none]), (100, 10, []), (4, 3, [some 49, none, none]), (101, 6, [none, none, none, none, none, none]), (3, 4, [some 51, none, none, none]), (9, 4, [some 52, none, none, none]), (100, 96, [])]
def S_104 : List SE := [(11, 13, [some 2, some 25, none, none, none, none, none, none, none, none, none, none, some 1]), (100, 12, []), (1, 11, [some 3, some 5, some 7, some 9, some 11, some 13, some 15, some 17, some 19, some 21, some 23]), (9, 4, [some 4, none, none, none]), (100, 96, []), (9, 4, [some 6, none, none, none]), (100, 40, []), (9, 4, [some 8, none, none, none]), (100, 7, []), (9, 4, [some 10, none, none, none]), (100, 600, []), (9, 4, [some 12, none, none, none]), (100, 64, []), (9, 4, [some 14, none, none, none]), (100, 800, []), (9, 4, [some 16, none, none, none]), (100, 64, []), (9, 4, [some 18, none, none, none]), (100, 64, []), (9, 4, [some 20, none, none, none]), (100, 64, []), (9, 4, [some 22, none, none, none]), (100, 16, []), (9, 4, [some 24, none, none, none]), (100, 10, []), (1, 11, [some 26, some 28, some 30, some 32, some 34, some 36, some 38, some 40, some 42, some 44, some 46]), (9, 4, [some 27, none, none, none]), (100, 96, []), (9, 4, [some 29, none, none, none]), (100, 40, []), (9, 4, [some 31, none, none, none]), (100, 7, []), (9, 4, [some 33, none, none, none]), (100, 600, []), (9, 4, [some 35, none, none, none]), (100, 64, []), (9, 4, [some 37, none, none, none]), (100, 800, []), (9, 4, [some 39, none, none, none]), (100, 64, []), (9, 4, [some 41, none, none, none]), (100, 64, []), (9, 4, [some 43, none, none, none]), (100, 64, []), (9, 4, [some 45, none, none, none]), (100, 16, []), (9, 4, [some 47, none, none, none]), (100, 10, []), (4, 3, [some 49, none, none]), (101, 6, [none, none, none, none, none, none]), (3, 4, [some 51, none, none, none]), (9, 4, [some 52, none, none, none]), (100, 96, []), (9, 4, [none, none, none, none])]
def S_105 : List SE := [(11, 13, [some 2, some 25, none, none, none, none, none, none, none, none, none, none, some 1]), (100, 12, []), (1, 11, [some 3, some 5, some 7, some 9, some 11, some 13, some 15, some 17, some 19, some 21, some 23]), (9, 4, [some 4, none, none, none]), (100, 96, []), (9, 4, [some 6, none, none, none]), (100, 40, []), (9, 4, [some 8, none, none, none]), (100, 7, []), (9, 4, [some 10, none, none, none]), (100, 600, []), (9, 4, [some 12, none, none, none]), (100, 64, []), (9, 4, [some 14, none, none, none]), (100, 800, []), (9, 4, [some 16, none, none, none]), (100, 64, []), (9, 4, [some 18, none, none, none]), (100, 64, []), (9, 4, [some 20, none, none, none]), (100, 64, []), (9, 4, [some 22, none, none, none]), (100, 16, []), (9, 4, [some 24, none, none, none]), (100, 10, []), (1, 11, [some 26, some 28, some 30, some 32, some 34, some 36, some 38, some 40, some 42, some 44, some 46]), (9, 4, [some 27, none, none, none]), (100, 96, []), (9, 4, [some 29, none, none, none]), (100, 40, []), (9, 4, [some 31, none, none, none]), (100, 7, []), (9, 4, [some 33, none, none, none]), (100, 600, []), (9, 4, [some 35, none, none, none]), (100, 64, []), (9, 4, [some 37, none, none, none]), (100, 800, []), (9, 4, [some 39, none, none, none]), (100, 64, []), (9, 4, [some 41, none, none, none]), (100, 64, []), (9, 4, [some 43, none, none, none]), (100, 64, []), (9, 4, [some 45, none, none, none]), (100, 16, []), (9, 4, [some 47, none, none, none]), (100, 10, []), (4, 3, [some 49, none, none]), (101, 6, [none, none, none, none, none, none]), (3, 4, [some 51, none, none, none]), (9, 4, [some 52, none, none, none]), (100, 96, []), (9, 4, [none, none, none, none]), (100, 40, [])]
def S_106 : List SE := [(11, 13, [some 2, some 25, none, none, none, none, none, none, none, none, none, none, some 1]), (100, 12, []), (1, 11, [some 3, some 5, some 7, some 9, some 11, some 13, some 15, some 17, some 19, some 21, some 23]), (9, 4, [some 4, none, none, none]), (100, 96, []), (9, 4, [some 6, none, none, none]), (100, 40, []), (9, 4, [some 8, none, none, none]), (100, 7, []), (9, 4, [some 10, none, none, none]), (100, 600, []), (9, 4, [some 12, none, none, none]), (100, 64, []), (9, 4, [some 14, none, none, none]), (100, 800, []), (9, 4, [some 16, none, none, none]), (100, 64, []), (9, 4, [some 18, none, none, none]), (100, 64, []), (9, 4, [some 20, none, none, none]), (100, 64, []), (9, 4, [some 22, none, none, none]), (100, 16, []), (9, 4, [some 24, none, none, none]), (100, 10, []), (1, 11, [some 26, some 28, some 30, some 32, some 34, some 36, some 38, some 40, some 42, some 44, some 46]), (9, 4, [some 27, none, none, none]), (100, 96, []), (9, 4, [some 29, none, none, none]), (100, 40, []), (9, 4, [some 31, none, none, none]), (100, 7, []), (9, 4, [some 33, none, none, none]), (100, 600, []), (9, 4, [some 35, none, none, none]), (100, 64, []), (9, 4, [some 37, none, none, none]), (100, 800, []), (9, 4, [some 39, none, none, none]), (100, 64, []), (9, 4, [some 41, none, none, none]), (100, 64, []), (9, 4, [some 43, none, none, none]), (100, 64, []), (9, 4, [some 45, none, none, none]), (100, 16, []), (9, 4, [some 47, none, none, none]), (100, 10, []), (4, 3, [some 49, none, none]), (101, 6, [none, none, none, none, none, none]), (3, 4, [some 51, none, none, none]), (9, 4, [some 52, none, none, none]), (100, 96, []), (9, 4, [some 54, none, none, none]), (100, 40, [])]
def S_107 : List SE := [(11, 13, [some 2, some 25, none, none, none, none, none, none, none, none, none, none, some 1]), (100, 12, []), (1, 11, [some 3, some 5, some 7, some 9, some 11, some 13, some 15, some 17, some 19, some 21, some 23]), (9, 4, [some 4, none, none, none]), (100, 96, []), (9, 4, [some 6, none, none, none]), (100, 40, []), (9, 4, [some 8, none, none, none]), (100, 7, []), (9, 4, [some 10, none, none, none]), (100, 600, []), (9, 4, [some 12, none, none, none]), (100, 64, []), (9, 4, [some 14, none, none, none]), (100, 800, []), (9, 4, [some 16, none, none, none]), (100, 64, []), (9, 4, [some 18, none, none, none]), (100, 64, []), (9, 4, [some 20, none, none, none]), (100, 64, []), (9, 4, [some 22, none, none, none]), (100, 16, []), (9, 4, [some 24, none, none, none]), (100, 10, []), (1, 11, [some 26, some 28, some 30, some 32, some 34, some 36, some 38, some 40, some 42, some 44, some 46]), (9, 4, [some 27, none, none, none]), (100, 96, []), (9, 4, [some 29, none, none, none]), (100, 40, []), (9, 4, [some 31, none, none, none]), (100, 7, []), (9, 4, [some 33, none, none, none]), (100, 600, []), (9, 4, [some 35, none, none, none]), (100, 64, []), (9, 4, [some 37, none, none, none]), (100, 800, []), (9, 4, [some 39, none, none, none]), (100, 64, []), (9, 4, [some 41, none, none, none]), (100, 64, []), (9, 4, [some 43, none, none, none]), (100, 64, []), (9, 4, [some 45, none, none, none]), (100, 16, []), (9, 4, [some 47, none, none, none]), (100, 10, []), (4, 3, [some 49, none, none]), (101, 6, [none, none, none, none, none, none]), (3, 4, [some 51, some 53, none, none]), (9, 4, [some 52, none, none, none]), (100, 96, []), (9, 4, [some 54, none, none, none]), (100, 40, [])]
def S_108 : List SE := [(11, 13, [some 2, some 25, none, none, none, none, none, none, none, none, none, none, some 1]), (100, 12, []), (1, 11, [some 3, some 5, some 7, some 9, some 11, some 13, some 15, some 17, some 19, some 21, some 23]), (9, 4, [some 4, none, none, none]), (100, 96, []), (9, 4, [some 6, none, none, none]), (100, 40, []), (9, 4, [some 8, none, none, none]), (100, 7, []), (9, 4, [some 10, none, none, none]), (100, 600, []), (9, 4, [some 12, none, none, none]), (100, 64, []), (9, 4, [some 14, none, none, none]), (100, 800, []), (9, 4, [some 16, none, none, none]), (100, 64, []), (9, 4, [some 18, none, none, none]), (100, 64, []), (9, 4, [some 20, none, none, none]), (100, 64, []), (9, 4, [some 22, none, none, none]), (100, 16, []), (9, 4, [some 24, none, none, none]), (100, 10, []), (1, 11, [some 26, some 28, some 30, some 32, some 34, some 36, some 38, some 40, some 42, some 44, some 46]), (9, 4, [some 27, none, none, none]), (100, 96, []), (9, 4, [some 29, none, none, none]), (100, 40, []), (9, 4, [some 31, none, none, none]), (100, 7, []), (9, 4, [some 33, none, none, none]), (100, 600, []), (9, 4, [some 35, none, none, none]), (100, 64, []), (9, 4, [some 37, none, none, none]), (100, 800, []), (9, 4, [some 39, none, none, none]), (100, 64, []), (9, 4, [some 41, none, none, none]), (100, 64, []), (9, 4, [some 43, none, none, none]), (100, 64, []), (9, 4, [some 45, none, none, none]), (100, 16, []), (9, 4, [some 47, none, none, none]), (100, 10, []), (4, 3, [some 49, none, none]), (101, 6, [none, none, none, none, none, none]), (3, 4, [some 51, some 53, none, none]), (9, 4, [some 52, none, none, none]), (100, 96, []), (9, 4, [some 54, none, none, none]), (100, 40, []), (9, 4, [none, none, none, none])]
def S_109 : List SE := [(11, 13, [some 2, some 25, none, none, none, none, none, none, none, none, none, none, some 1]), (100, 12, []), (1, 11, [some 3, some 5, some 7, some 9, some 11, some 13, some 15, some 17, some 19, some 21, some 23]), (9, 4, [some 4, none, none, none]), (100, 96, []), (9, 4, [some 6, none, none, none]), (100, 40, []), (9, 4, [some 8, none, none, none]), (100, 7, []), (9, 4, [some 10, none, none, none]), (100, 600, []), (9, 4, [some 12, none, none, none]), (100, 64, []), (9, 4, [some 14, none, none, none]), (100, 800, []), (9, 4, [some 16, none, none, none]), (100, 64, []), (9, 4, [some 18, none, none, none]), (100, 64, []), (9, 4, [some 20, none, none, none]), (100, 64, []), (9, 4, [some 22, none, none, none]), (100, 16, []), (9, 4, [some 24, none, none, none]), (100, 10, []), (1, 11, [some 26, some 28, some 30, some 32, some 34, some 36, some 38, some 40, some 42, some 44, some 46]), (9, 4, [some 27, none, none, none]), (100, 96, []), (9, 4, [some 29, none, none, none]), (100, 40, []), (9, 4, [some 31, none, none, none]), (100, 7, []), (9, 4, [some 33, none, none, none]), (100, 600, []), (9, 4, [some 35, none, none, none]), (100, 64, []), (9, 4, [some 37, none, none, none]), (100, 800, []), (9, 4, [some 39, none, none, none]), (100, 64, []), (9, 4, [some 41, none, none, none]), (100, 64, []), (9, 4, [some 43, none, none, none]), (100, 64, []), (9, 4, [some 45, none, none, none]), (100, 16, []), (9, 4, [some 47, none, none, none]), (100, 10, []), (4, 3, [some 49, none, none]), (101, 6, [none, none, none, none, none, none]), (3, 4, [some 51, some 53, none, none]), (9, 4, [some 52, none, none, none]), (100, 96, []), (9, 4, [some 54, none, none, none]), (100, 40, []), (9, 4, [none, none, none, none]), (100, 7, [])]
def S_110 : List SE := [(11, 13, [some 2, some 25, none, none, none, none, none, none, none, none, none, none, some 1]), (100, 12, []), (1, 11, [some 3, some 5, some 7, some 9, some 11, some 13, some 15, some 17, some 19, some 21, some 23]), (9, 4, [some 4, none, none, none]), (100, 96, []), (9, 4, [some 6, none, none, none]), (100, 40, []), (9, 4, [some 8, none, none, none]), (100, 7, []), (9, 4, [some 10, none, none, none]), (100, 600, []), (9, 4, [some 12, none, none, none]), (100, 64, []), (9, 4, [some 14, none, none, none]), (100, 800, []), (9, 4, [some 16, none, none, none]), (100, 64, []), (9, 4, [some 18, none, none, none]), (100, 64, []), (9, 4, [some 20, none, none, none]), (100, 64, []), (9, 4, [some 22, none, none, none]), (100, 16, []), (9, 4, [some 24, none, none, none]), (100, 10, []), (1, 11, [some 26, some 28, some 30, some 32, some 34, some 36, some 38, some 40, some 42, some 44, some 46]), (9, 4, [some 27, none, none, none]), (100, 96, []), (9, 4, [some 29, none, none, none]), (100, 40, []), (9, 4, [some 31, none, none, none]), (100, 7, []), (9, 4, [some 33, none, none, none]), (100, 600, []), (9, 4, [some 35, none, none, none]), (100, 64, []), (9, 4, [some 37, none, none, none]), (100, 800, []), (9, 4, [some 39, none, none, none]), (100, 64, []), (9, 4, [some 41, none, none, none]), (100, 64, []), (9, 4, [some 43, none, none, none]), (100, 64, []), (9, 4, [some 45, none, none, none]), (100, 16, []), (9, 4, [some 47, none, none, none]), (100, 10, []), (4, 3, [some 49, none, none]), (101, 6, [none, none, none, none, none, none]), (3, 4, [some 51, some 53, none, none]), (9, 4, [some 52, none, none, none]), (100, 96, []), (9, 4, [some 54, none, none, none]), (100, 40, []), (9, 4, [some 56, none, none, none]), (100, 7, [])]
def S_111 : List SE := [(11, 13, [some 2, some 25, none, none, none, none, none, none, none, none, none, none, some 1]), (100, 12, []), (1, 11, [some 3, some 5, some 7, some 9, some 11, some 13, some 15, some 17, some 19, some 21, some 23]), (9, 4, [some 4, none, none, none]), (100, 96, []), (9, 4, [some 6, none, none, none]), (100, 40, []), (9, 4, [some 8, none, none, none]), (100, 7, []), (9, 4, [some 10, none, none, none]), (100, 600, []), (9, 4, [some 12, none, none, none]), (100, 64, []), (9, 4, [some 14, none, none, none]), (100, 800, []), (9, 4, [some 16, none, none, none]), (100, 64, []), (9, 4, [some 18, none, none, none]), (100, 64, []), (9, 4, [some 20, none, none, none]), (100, 64, []), (9, 4, [some 22, none, none, none]), (100, 16, []), (9, 4, [some 24, none, none, none]), (100, 10, []), (1, 11, [some 26, some 28, some 30, some 32, some 34, some 36, some 38, some 40, some 42, some 44, some 46]), (9, 4, [some 27, none, none, none]), (100, 96, []), (9, 4, [some 29, none, none, none]), (100, 40, []), (9, 4, [some 31, none, none, none]), (100, 7, []), (9, 4, [some 33, none, none, none]), (100, 600, []), (9, 4, [some 35, none, none, none]), (100, 64, []), (9, 4, [some 37, none, none, none]), (100, 800, []), (9, 4, [some 39, none, none, none]), (100, 64, []), (9, 4, [some 41, none, none, none]), (100, 64, []), (9, 4, [some 43, none, none, none]), (100, 64, []), (9, 4, [some 45, none, none, none]), (100, 16, []), (9, 4, [some 47, none, none, none]), (100, 10, []), (4, 3, [some 49, none, none]), (101, 6, [none, none, none, none, none, none]), (3, 4, [some 51, some 53, some 55, none]), (9, 4, [some 52, none, none, none]), (100, 96, []), (9, 4, [some 54, none, none, none]), (100, 40, []), (9, 4, [some 56, none, none, none]), (100, 7, [])]
def S_112 : List SE := [(11, 13, [some 2, some 25, none, none, none, none, none, none, none, none, none, none, some 1]), (100, 12, []), (1, 11, [some 3, some 5, some 7, some 9, some 11, some 13, some 15, some 17, some 19, some 21, some 23]), (9, 4, [some 4, none, none, none]), (100, 96, []), (9, 4, [some 6, none, none, none]), (100, 40, []), (9, 4, [some 8, none, none, none]), (100, 7, []), (9, 4, [some 10, none, none, none]), (100, 600, []), (9, 4, [some 12, none, none, none]), (100, 64, []), (9, 4, [some 14, none, none, none]), (100, 800, []), (9, 4, [some 16, none, none, none]), (100, 64, []), (9, 4, [some 18, none, none, none]), (100, 64, []), (9, 4, [some 20, none, none, none]), (100, 64, []), (9, 4, [some 22, none, none, none]), (100, 16, []), (9, 4, [some 24, none, none, none]), (100, 10, []), (1, 11, [some 26, some 28, some 30, some 32, some 34, some 36, some 38, some 40, some 42, some 44, some 46]), (9, 4, [some 27, none, none, none]), (100, 96, []), (9, 4, [some 29, none, none, none]), (100, 40, []), (9, 4, [some 31, none, none, none]), (100, 7, []), (9, 4, [some 33, none, none, none]), (100, 600, []), (9, 4, [some 35, none, none, none]), (100, 64, []), (9, 4, [some 37, none, none, none]), (100, 800, []), (9, 4, [some 39, none, none, none]), (100, 64, []), (9, 4, [some 41, none, none, none]), (100, 64, []), (9, 4, [some 43, none, none, none]), (100, 64, []), (9, 4, [some 45, none, none, none]), (100, 16, []), (9, 4, [some 47, none, none, none]), (100, 10, []), (4, 3, [some 49, none, none]), (101, 6, [some 50, none, none, none, none, none]), (3, 4, [some 51, some 53, some 55, none]), (9, 4, [some 52, none, none, none]), (100, 96, []), (9, 4, [some 54, none, none, none]), (100, 40, []), (9, 4, [some 56, none, none, none]), (100, 7, [])]
def S_113 : List SE := [(11, 13, [some 2, some 25, none, none, none, none, none, none, none, none, none, none, some 1]), (100, 12, []), (1, 11, [some 3, some 5, some 7, some 9, some 11, some 13, some 15, some 17, some 19, some 21, some 23]), (9, 4, [some 4, none, none, none]), (100, 96, []), (9, 4, [some 6, none, none, none]), (100, 40, []), (9, 4, [some 8, none, none, none]), (100, 7, []), (9, 4, [some 10, none, none, none]), (100, 600, []), (9, 4, [some 12, none, none, none]), (100, 64, []), (9, 4, [some 14, none, none, none]), (100, 800, []), (9, 4, [some 16, none, none, none]), (100, 64, []), (9, 4, [some 18, none, none, none]), (100, 64, []), (9, 4, [some 20, none, none, none]), (100, 64, []), (9, 4, [some 22, none, none, none]), (100, 16, []), (9, 4, [some 24, none, none, none]), (100, 10, []), (1, 11, [some 26, some 28, some 30, some 32, some 34, some 36, some 38, some 40, some 42, some 44, some 46]), (9, 4, [some 27, none, none, none]), (100, 96, []), (9, 4, [some 29, none, none, none]), (100, 40, []), (9, 4, [some 31, none, none, none]), (100, 7, []), (9, 4, [some 33, none, none, none]), (100, 600, []), (9, 4, [some 35, none, none, none]), (100, 64, []), (9, 4, [some 37, none, none, none]), (100, 800, []), (9, 4, [some 39, none, none, none]), (100, 64, []), (9, 4, [some 41, none, none, none]), (100, 64, []), (9, 4, [some 43, none, none, none]), (100, 64, []), (9, 4, [some 45, none, none, none]), (100, 16, []), (9, 4, [some 47, none, none, none]), (100, 10, []), (4, 3, [some 49, none, none]), (101, 6, [some 50, none, none, none, none, none]), (3, 4, [some 51, some 53, some 55, none]), (9, 4, [some 52, none, none, none]), (100, 96, []), (9, 4, [some 54, none, none, none]), (100, 40, []), (9, 4, [some 56, none, none, none]), (100, 7, []), (3, 4, [none, none, none, none])]
def S_114 : List SE := [(11, 13, [some 2, some 25, none, none, none, none, none, none, none, none, none, none, some 1]), (100, 12, []), (1, 11, [some 3, some 5, some 7, some 9, some 11, some 13, some 15, some 17, some 19, some 21, some 23]), (9, 4, [some 4, none, none, none]), (100, 96, []), (9, 4, [some 6, none, none, none]), (100, 40, []), (9, 4, [some 8, none, none, none]), (100, 7, []), (9, 4, [some 10, none, none, none]), (100, 600, []), (9, 4, [some 12, none, none, none]), (100, 64, []), (9, 4, [some 14, none, none, none]), (100, 800, []), (9, 4, [some 16, none, none, none]), (100, 64, []), (9, 4, [some 18, none, none, none]), (100, 64, []), (9, 4, [some 20, none, none, none]), (100, 64, []), (9, 4, [some 22, none, none, none]), (100, 16, []), (9, 4, [some 24, none, none, none]), (100, 10, []), (1, 11, [some 26, some 28, some 30, some 32, some 34, some 36, some 38, some 40, some 42, some 44, some 46]), (9, 4, [some 27, none, none, none]), (100, 96, []), (9, 4, [some 29, none, none, none]), (100, 40, []), (9, 4, [some 31, none, none, none]), (100, 7, []), (9, 4, [some 33, none, none, none]), (100, 600, []), (9, 4, [some 35, none, none, none]), (100, 64, []), (9, 4, [some 37, none, none, none]), (100, 800, []), (9, 4, [some 39, none, none, none]), (100, 64, []), (9, 4, [some 41, none, none, none]), (100, 64, []), (9, 4, [some 43, none, none, none]), (100, 64, []), (9, 4, [some 45, none, none, none]), (100, 16, []), (9, 4, [some 47, none, none, none]), (100, 10, []), (4, 3, [some 49, none, none]), (101, 6, [some 50, none, none, none, none, none]), (3, 4, [some 51, some 53, some 55, none]), (9, 4, [some 52, none, none, none]), (100, 96, []), (9, 4, [some 54, none, none, none]), (100, 40, []), (9, 4, [some 56, none, none, none]), (100, 7, []), (3, 4, [none, none, none, none]), (9, 4, [none, none, none, none])]
def S_115 : List SE := [(11, 13, [some 2, some 25, none, none, none, none, none, none, none, none, none, none, some 1]), (100, 12, []), (1, 11, [some 3, some 5, some 7, some 9, some 11, some 13, some 15, some 17, some 19, some 21, some 23]), (9, 4, [some 4, none, none, none]), (100, 96, []), (9, 4, [some 6, none, none, none]), (100, 40, []), (9, 4, [some 8, none, none, none]), (100, 7, []), (9, 4, [some 10, none, none, none]), (100, 600, []), (9, 4, [some 12, none, none, none]), (100, 64, []), (9, 4, [some 14, none, none, none]), (100, 800, []), (9, 4, [some 16, none, none, none]), (100, 64, []), (9, 4, [some 18, none, none, none]), (100, 64, []), (9, 4, [some 20, none, none, none]), (100, 64, []), (9, 4, [some 22, none, none, none]), (100, 16, []), (9, 4, [some 24, none, none, none]), (100, 10, []), (1, 11, [some 26, some 28, some 30, some 32, some 34, some 36, some 38, some 40, some 42, some 44, some 46]), (9, 4, [some 27, none, none, none]), (100, 96, []), (9, 4, [some 29, none, none, none]), (100, 40, []), (9, 4, [some 31, none, none, none]), (100, 7, []), (9, 4, [some 33, none, none, none]), (100, 600, []), (9, 4, [some 35, none, none, none]), (100, 64, []), (9, 4, [some 37, none, none, none]), (100, 800, []), (9, 4, [some 39, none, none, none]), (100, 64, []), (9, 4, [some 41, none, none, none]), (100, 64, []), (9, 4, [some 43, none, none, none]), (100, 64, []), (9, 4, [some 45, none, none, none]), (100, 16, []), (9, 4, [some 47, none, none, none]), (100, 10, []), (4, 3, [some 49, none, none]), (101, 6, [some 50, none, none, none, none, none]), (3, 4, [some 51, some 53, some 55, none]), (9, 4, [some 52, none, none, none]), (100, 96, []), (9, 4, [some 54, none, none, none]), (100, 40, []), (9, 4, [some 56, none, none, none]), (100, 7, []), (3, 4, [none, none, none, none]), (9, 4, [none, none, none, none]), (100, 96, [])]
def S_116 : List SE := [(11, 13, [some 2, some 25, none, none, none, none, none, none, none, none, none, none, some 1]), (100, 12, []), (1, 11, [some 3, some 5, some 7, some 9, some 11, some 13, some 15, some 17, some 19, some 21, some 23]), (9, 4, [some 4, none, none, none]), (100, 96, []), (9, 4, [some 6, none, none, none]), (100, 40, []), (9, 4, [some 8, none, none, none]), (100, 7, []), (9, 4, [some 10, none, none, none]), (100, 600, []), (9, 4, [some 12, none, none, none]), (100, 64, []), (9, 4, [some 14, none, none, none]), (100, 800, []), (9, 4, [some 16, none, none, none]), (100, 64, []), (9, 4, [some 18, none, none, none]), (100, 64, []), (9, 4, [some 20, none, none, none]), (100, 64, []), (9, 4, [some 22, none, none, none]), (100, 16, []), (9, 4, [some 24, none, none, none]), (100, 10, []), (1, 11, [some 26, some 28, some 30, some 32, some 34, some 36, some 38, some 40, some 42, some 44, some 46]), (9, 4, [some 27, none, none, none]), (100, 96, []), (9, 4, [some 29, none, none, none]), (100, 40, []), (9, 4, [some 31, none, none, none]), (100, 7, []), (9, 4, [some 33, none, none, none]), (100, 600, []), (9, 4, [some 35, none, none, none]), (100, 64, []), (9, 4, [some 37, none, none, none]), (100, 800, []), (9, 4, [some 39, none, none, none]), (100, 64, []), (9, 4, [some 41, none, none, none]), (100, 64, []), (9, 4, [some 43, none, none, none]), (100, 64, []), (9, 4, [some 45, none, none, none]), (100, 16, []), (9, 4, [some 47, none, none, none]), (100, 10, []), (4, 3, [some 49, none, none]), (101, 6, [some 50, none, none, none, none, none]), (3, 4, [some 51, some 53, some 55, none]), (9, 4, [some 52, none, none, none]), (100, 96, []), (9, 4, [some 54, none, none, none]), (100, 40, []), (9, 4, [some 56, none, none, none]), (100, 7, []), (3, 4, [none, none, none, none]), (9, 4, [some 59, none, none, none]), (100, 96, [])]
def S_117 : List SE := [(11, 13, [some 2, some 25, none, none, none, none, none, none, none, none, none, none, some 1]), (100, 12, []), (1, 11, [some 3, some 5, some 7, some 9, some 11, some 13, some 15, some 17, some 19, some 21, some 23]), (9, 4, [some 4, none, none, none]), (100, 96, []), (9, 4, [some 6, none, none, none]), (100, 40, []), (9, 4, [some 8, none, none, none]), (100, 7, []), (9, 4, [some 10, none, none, none]), (100, 600, []), (9, 4, [some 12, none, none, none]), (100, 64, []), (9, 4, [some 14, none, none, none]), (100, 800, []), (9, 4, [some 16, none, none, none]), (100, 64, []), (9, 4, [some 18, none, none, none]), (100, 64, []), (9, 4, [some 20, none, none, none]), (100, 64, []), (9, 4, [some 22, none, none, none]), (100, 16, []), (9, 4, [some 24, none, none, none]), (100, 10, []), (1, 11, [some 26, some 28, some 30, some 32, some 34, some 36, some 38, some 40, some 42, some 44, some 46]), (9, 4, [some 27, none, none, none]), (100, 96, []), (9, 4, [some 29, none, none, none]), (100, 40, []), (9, 4, [some 31, none, none, none]), (100, 7, []), (9, 4, [some 33, none, none, none]), (100, 600, []), (9, 4, [some 35, none, none, none]), (100, 64, []), (9, 4, [some 37, none, none, none]), (100, 800, []), (9, 4, [some 39, none, none, none]), (100, 64, []), (9, 4, [some 41, none, none, none]), (100, 64, []), (9, 4, [some 43, none, none, none]), (100, 64, []), (9, 4, [some 45, none, none, none]), (100, 16, []), (9, 4, [some 47, none, none, none]), (100, 10, []), (4, 3, [some 49, none, none]), (101, 6, [some 50, none, none, none, none, none]), (3, 4, [some 51, some 53, some 55, none]), (9, 4, [some 52, none, none, none]), (100, 96, []), (9, 4, [some 54, none, none, none]), (100, 40, []), (9, 4, [some 56, none, none, none]), (100, 7, []), (3, 4, [some 58, none, none, none]), (9, 4, [some 59, none, none, none]), (100, 96, [])]
def S_118 : List SE := [(11, 13, [some 2, some 25, none, none, none, none, none, none, none, none, none, none, some 1]), (100, 12, []), (1, 11, [some 3, some 5, some 7, some 9, some 11, some 13, some 15, some 17, some 19, some 21, some 23]), (9, 4, [some 4, none, none, none]), (100, 96, []), (9, 4, [some 6, none, none, none]), (100, 40, []), (9, 4, [some 8, none, none, none]), (100, 7, []), (9, 4, [some 10, none, none, none]), (100, 600, []), (9, 4, [some 12, none, none, none]), (100, 64, []), (9, 4, [some 14, none, none, none]), (100, 800, []), (9, 4, [some 16, none, none, none]), (100, 64, []), (9, 4, [some 18, none, none, none]), (100, 64, []), (9, 4, [some 20, none, none, none]), (100, 64, []), (9, 4, [some 22, none, none, none]), (100, 16, []), (9, 4, [some 24, none, none, none]), (100, 10, []), (1, 11, [some 26, some 28, some 30, some 32, some 34, some 36, some 38, some 40, some 42, some 44, some 46]), (9, 4, [some 27, none, none, none]), (100, 96, []), (9, 4, [some 29, none, none, none]), (100, 40, []), (9, 4, [some 31, none, none, none]), (100, 7, []), (9, 4, [some 33, none, none, none]), (100, 600, []), (9, 4, [some 35, none, none, none]), (100, 64, []), (9, 4, [some 37, none, none, none]), (100, 800, []), (9, 4, [some 39, none, none, none]), (100, 64, []), (9, 4, [some 41, none, none, none]), (100, 64, []), (9, 4, [some 43, none, none, none]), (100, 64, []), (9, 4, [some 45, none, none, none]), (100, 16, []), (9, 4, [some 47, none, none, none]), (100, 10, []), (4, 3, [some 49, none, none]), (101, 6, [some 50, none, none, none, none, none]), (3, 4, [some 51, some 53, some 55, none]), (9, 4, [some 52, none, none, none]), (100, 96, []), (9, 4, [some 54, none, none, none]), (100, 40, []), (9, 4, [some 56, none, none, none]), (100, 7, []), (3, 4, [some 58, none, none, none]), (9, 4, [some 59, none, none, none]), (100, 96, []), (9, 4, [none, none, none, none])]
def S_119 : List SE := [(11, 13, [some 2, some 25, none, none, none, none, none, none, none, none, none, none, some 1]), (100, 12, []), (1, 11, [some 3, some 5, some 7, some 9, some 11, some 13, some 15, some 17, some 19, some 21, some 23]), (9, 4, [some 4, none, none, none]), (100, 96, []), (9, 4, [some 6, none, none, none]), (100, 40, []), (9, 4, [some 8, none, none, none]), (100, 7, []), (9, 4, [some 10, none, none, none]), (100, 600, []), (9, 4, [some 12, none, none, none]), (100, 64, []), (9, 4, [some 14, none, none, none]), (100, 800, []), (9, 4, [some 16, none, none, none]), (100, 64, []), (9, 4, [some 18, none, none, none]), (100, 64, []), (9, 4, [some 20, none, none, none]), (100, 64, []), (9, 4, [some 22, none, none, none]), (100, 16, []), (9, 4, [some 24, none, none, none]), (100, 10, []), (1, 11, [some 26, some 28, some 30, some 32, some 34, some 36, some 38, some 40, some 42, some 44, some 46]), (9, 4, [some 27, none, none, none]), (100, 96, []), (9, 4, [some 29, none, none, none]), (100, 40, []), (9, 4, [some 31, none, none, none]), (100, 7, []), (9, 4, [some 33, none, none, none]), (100, 600, []), (9, 4, [some 35, none, none, none]), (100, 64, []), (9, 4, [some 37, none, none, none]), (100, 800, []), (9, 4, [some 39, none, none, none]), (100, 64, []), (9, 4, [some 41, none, none, none]), (100, 64, []), (9, 4, [some 43, none, none, none]), (100, 64, []), (9, 4, [some 45, none, none, none]), (100, 16, []), (9, 4, [some 47, none, none, none]), (100, 10, []), (4, 3, [some 49, none, none]), (101, 6, [some 50, none, none, none, none, none]), (3, 4, [some 51, some 53, some 55, none]), (9, 4, [some 52, none, none, none]), (100, 96, []), (9, 4, [some 54, none, none, none]), (100, 40, []), (9, 4, [some 56, none, none, none]), (100, 7, []), (3, 4, [some 58, none, none, none]), (9, 4, [some 59, none, none, none]), (100, 96, []), (9, 4, [none, none, none, none]), (100, 40, [])]
def S_120 : List SE := [(11, 13, [some 2, some 25, none, none, none, none, none, none, none, none, none, none, some 1]), (100, 12, []), (1, 11, [some 3, some 5, some 7, some 9, some 11, some 13, some 15, some 17, some 19, some 21, some 23]), (9, 4, [some 4, none, none, none]), (100, 96, []), (9, 4, [some 6, none, none, none]), (100, 40, []), (9, 4, [some 8, none, none, none]), (100, 7, []), (9, 4, [some 10, none, none, none]), (100, 600, []), (9, 4, [some 12, none, none, none]), (100, 64, []), (9, 4, [some 14, none, none, none]), (100, 800, []), (9, 4, [some 16, none, none, none]), (100, 64, []), (9, 4, [some 18, none, none, none]), (100, 64, []), (9, 4, [some 20, none, none, none]), (100, 64, []), (9, 4, [some 22, none, none, none]), (100, 16, []), (9, 4, [some 24, none, none, none]), (100, 10, []), (1, 11, [some 26, some 28, some 30, some 32, some 34, some 36, some 38, some 40, some 42, some 44, some 46]), (9, 4, [some 27, none, none, none]), (100, 96, []), (9, 4, [some 29, none, none, none]), (100, 40, []), (9, 4, [some 31, none, none, none]), (100, 7, []), (9, 4, [some 33, none, none, none]), (100, 600, []), (9, 4, [some 35, none, none, none]), (100, 64, []), (9, 4, [some 37, none, none, none]), (100, 800, []), (9, 4, [some 39, none, none, none]), (100, 64, []), (9, 4, [some 41, none, none, none]), (100, 64, []), (9, 4, [some 43, none, none, none]), (100, 64, []), (9, 4, [some 45, none, none, none]), (100, 16, []), (9, 4, [some 47, none, none, none]), (100, 10, []), (4, 3, [some 49, none, none]), (101, 6, [some 50, none, none, none, none, none]), (3, 4, [some 51, some 53, some 55, none]), (9, 4, [some 52, none, none, none]), (100, 96, []), (9, 4, [some 54, none, none, none]), (100, 40, []), (9, 4, [some 56, none, none, none]), (100, 7, []), (3, 4, [some 58, none, none, none]), (9, 4, [some 59, none, none, none]), (100, 96, []), (9, 4, [some 61, none, none, none]), (100, 40, [])]
def S_121 : List SE := [(11, 13, [some 2, some 25, none, none, none, none, none, none, none, none, none, none, some 1]), (100, 12, []), (1, 11, [some 3, some 5, some 7, some 9, some 11, some 13, some 15, some 17, some 19, some 21, some 23]), (9, 4, [some 4, none, none, none]), (100, 96, []), (9, 4, [some 6, none, none, none]), (100, 40, []), (9, 4, [some 8, none, none, none]), (100, 7, []), (9, 4, [some 10, none, none, none]), (100, 600, []), (9, 4, [some 12, none, none, none]), (100, 64, []), (9, 4, [some 14, none, none, none]), (100, 800, []), (9, 4, [some 16, none, none, none]), (100, 64, []), (9, 4, [some 18, none, none, none]), (100, 64, []), (9, 4, [some 20, none, none, none]), (100, 64, []), (9, 4, [some 22, none, none, none]), (100, 16, []), (9, 4, [some 24, none, none, none]), (100, 10, []), (1, 11, [some 26, some 28, some 30, some 32, some 34, some 36, some 38, some 40, some 42, some 44, some 46]), (9, 4, [some 27, none, none, none]), (100, 96, []), (9, 4, [some 29, none, none, none]), (100, 40, []), (9, 4, [some 31, none, none, none]), (100, 7, []), (9, 4, [some 33, none, none, none]), (100, 600, []), (9, 4, [some 35, none, none, none]), (100, 64, []), (9, 4, [some 37, none, none, none]), (100, 800, []), (9, 4, [some 39, none, none, none]), (100, 64, []), (9, 4, [some 41, none, none, none]), (100, 64, []), (9, 4, [some 43, none, none, none]), (100, 64, []), (9, 4, [some 45, none, none, none]), (100, 16, []), (9, 4, [some 47, none, none, none]), (100, 10, []), (4, 3, [some 49, none, none]), (101, 6, [some 50, none, none, none, none, none]), (3, 4, [some 51, some 53, some 55, none]), (9, 4, [some 52, none, none, none]), (100, 96, []), (9, 4, [some 54, none, none, none]), (100, 40, []), (9, 4, [some 56, none, none, none]), (100, 7, []), (3, 4, [some 58, some 60, none, none]), (9, 4, [some 59, none, none, none]), (100, 96, []), (9, 4, [some 61, none, none, none]), (100, 40, [])]
def S_122 : List SE := [(11, 13, [some 2, some 25, none, none, none, none, none, none, none, none, none, none, some 1]), (100, 12, []), (1, 11, [some 3, some 5, some 7, some 9, some 11, some 13, some 15, some 17, some 19, some 21, some 23]), (9, 4, [some 4, none, none, none]), (100, 96, []), (9, 4, [some 6, none, none, none]), (100, 40, []), (9, 4, [some 8, none, none, none]), (100, 7, []), (9, 4, [some 10, none, none, none]), (100, 600, []), (9, 4, [some 12, none, none, none]), (100, 64, []), (9, 4, [some 14, none, none, none]), (100, 800, []), (9, 4, [some 16, none, none, none]), (100, 64, []), (9, 4, [some 18, none, none, none]), (100, 64, []), (9, 4, [some 20, none, none, none]), (100, 64, []), (9, 4, [some 22, none, none, none]), (100, 16, []), (9, 4, [some 24, none, none, none]), (100, 10, []), (1, 11, [some 26, some 28, some 30, some 32, some 34, some 36, some 38, some 40, some 42, some 44, some 46]), (9, 4, [some 27, none, none, none]), (100, 96, []), (9, 4, [some 29, none, none, none]), (100, 40, []), (9, 4, [some 31, none, none, none]), (100, 7, []), (9, 4, [some 33, none, none, none]), (100, 600, []), (9, 4, [some 35, none, none, none]), (100, 64, []), (9, 4, [some 37, none, none, none]), (100, 800, []), (9, 4, [some 39, none, none, none]), (100, 64, []), (9, 4, [some 41, none, none, none]), (100, 64, []), (9, 4, [some 43, none, none, none]), (100, 64, []), (9, 4, [some 45, none, none, none]), (100, 16, []), (9, 4, [some 47, none, none, none]), (100, 10, []), (4, 3, [some 49, none, none]), (101, 6, [some 50, none, none, none, none, none]), (3, 4, [some 51, some 53, some 55, none]), (9, 4, [some 52, none, none, none]), (100, 96, []), (9, 4, [some 54, none, none, none]), (100, 40, []), (9, 4, [some 56, none, none, none]), (100, 7, []), (3, 4, [some 58, some 60, none, none]), (9, 4, [some 59, none, none, none]), (100, 96, []), (9, 4, [some 61, none, none, none]), (100, 40, []), (9, 4, [none, none, none, none])]
def S_123 : List SE := [(11, 13, [some 2, some 25, none, none, none, none, none, none, none, none, none, none, some 1]), (100, 12, []), (1, 11, [some 3, some 5, some 7, some 9, some 11, some 13, some 15, some 17, some 19, some 21, some 23]), (9, 4, [some 4, none, none, none]), (100, 96, []), (9, 4, [some 6, none, none, none]), (100, 40, []), (9, 4, [some 8, none, none, none]), (100, 7, []), (9, 4, [some 10, none, none, none]), (100, 600, []), (9, 4, [some 12, none, none, none]), (100, 64, []), (9, 4, [some 14, none, none, none]), (100, 800, []), (9, 4, [some 16, none, none, none]), (100, 64, []), (9, 4, [some 18, none, none, none]), (100, 64, []), (9, 4, [some 20, none, none, none]), (100, 64, []), (9, 4, [some 22, none, none, none]), (100, 16, []), (9, 4, [some 24, none, none, none]), (100, 10, []), (1, 11, [some 26, some 28, some 30, some 32, some 34, some 36, some 38, some 40, some 42, some 44, some 46]), (9, 4, [some 27, none, none, none]), (100, 96, []), (9, 4, [some 29, none, none, none]), (100, 40, []), (9, 4, [some 31, none, none, none]), (100, 7, []), (9, 4, [some 33, none, none, none]), (100, 600, []), (9, 4, [some 35, none, none, none]), (100, 64, []), (9, 4, [some 37, none, none, none]), (100, 800, []), (9, 4, [some 39, none, none, none]), (100, 64, []), (9, 4, [some 41, none, none, none]), (100, 64, []), (9, 4, [some 43, none, none, none]), (100, 64, []), (9, 4, [some 45, none, none, none]), (100, 16, []), (9, 4, [some 47, none, none, none]), (100, 10, []), (4, 3, [some 49, none, none]), (101, 6, [some 50, none, none, none, none, none]), (3, 4, [some 51, some 53, some 55, none]), (9, 4, [some 52, none, none, none]), (100, 96, []), (9, 4, [some 54, none, none, none]), (100, 40, []), (9, 4, [some 56, none, none, none]), (100, 7, []), (3, 4, [some 58, some 60, none, none]), (9, 4, [some 59, none, none, none]), (100, 96, []), (9, 4, [some 61, none, none, none]), (100, 40, []), (9, 4, [none, none, none, none]), (100, 7, [])]
def S_124 : List SE := [(11, 13, [some 2, some 25, none, none, none, none, none, none, none, none, none, none, some 1]), (100, 12, []), (1, 11, [some 3, some 5, some 7, some 9, some 11, some 13, some 15, some 17, some 19, some 21, some 23]), (9, 4, [some 4, none, none, none]), (100, 96, []), (9, 4, [some 6, none, none, none]), (100, 40, []), (9, 4, [some 8, none, none, none]), (100, 7, []), (9, 4, [some 10, none, none, none]), (100, 600, []), (9, 4, [some 12, none, none, none]), (100, 64, []), (9, 4, [some 14, none, none, none]), (100, 800, []), (9, 4, [some 16, none, none, none]), (100, 64, []), (9, 4, [some 18, none, none, none]), (100, 64, []), (9, 4, [some 20, none, none, none]), (100, 64, []), (9, 4, [some 22, none, none, none]), (100, 16, []), (9, 4, [some 24, none, none, none]), (100, 10, []), (1, 11, [some 26, some 28, some 30, some 32, some 34, some 36, some 38, some 40, some 42, some 44, some 46]), (9, 4, [some 27, none, none, none]), (100, 96, []), (9, 4, [some 29, none, none, none]), (100, 40, []), (9, 4, [some 31, none, none, none]), (100, 7, []), (9, 4, [some 33, none, none, none]), (100, 600, []), (9, 4, [some 35, none, none, none]), (100, 64, []), (9, 4, [some 37, none, none, none]), (100, 800, []), (9, 4, [some 39, none, none, none]), (100, 64, []), (9, 4, [some 41, none, none, none]), (100, 64, []), (9, 4, [some 43, none, none, none]), (100, 64, []), (9, 4, [some 45, none, none, none]), (100, 16, []), (9, 4, [some 47, none, none, none]), (100, 10, []), (4, 3, [some 49, none, none]), (101, 6, [some 50, none, none, none, none, none]), (3, 4, [some 51, some 53, some 55, none]), (9, 4, [some 52, none, none, none]), (100, 96, []), (9, 4, [some 54, none, none, none]), (100, 40, []), (9, 4, [some 56, none, none, none]), (100, 7, []), (3, 4, [some 58, some 60, none, none]), (9, 4, [some 59, none, none, none]), (100, 96, []), (9, 4, [some 61, none, none, none]), (100, 40, []), (9, 4, [some 63, none, none, none]), (100, 7, [])]
def S_125 : List SE := [(11, 13, [some 2, some 25, none, none, none, none, none, none, none, none, none, none, some 1]), (100, 12, []), (1, 11, [some 3, some 5, some 7, some 9, some 11, some 13, some 15, some 17, some 19, some 21, some 23]), (9, 4, [some 4, none, none, none]), (100, 96, []), (9, 4, [some 6, none, none, none]), (100, 40, []), (9, 4, [some 8, none, none, none]), (100, 7, []), (9, 4, [some 10, none, none, none]), (100, 600, []), (9, 4, [some 12, none, none, none]), (100, 64, []), (9, 4, [some 14, none, none, none]), (100, 800, []), (9, 4, [some 16, none, none, none]), (100, 64, []), (9, 4, [some 18, none, none, none]), (100, 64, []), (9, 4, [some 20, none, none, none]), (100, 64, []), (9, 4, [some 22, none, none, none]), (100, 16, []), (9, 4, [some 24, none, none, none]), (100, 10, []), (1, 11, [some 26, some 28, some 30, some 32, some 34, some 36, some 38, some 40, some 42, some 44, some 46]), (9, 4, [some 27, none, none, none]), (100, 96, []), (9, 4, [some 29, none, none, none]), (100, 40, []), (9, 4, [some 31, none, none, none]), (100, 7, []), (9, 4, [some 33, none, none, none]), (100, 600, []), (9, 4, [some 35, none, none, none]), (100, 64, []), (9, 4, [some 37, none, none, none]), (100, 800, []), (9, 4, [some 39, none, none, none]), (100, 64, []), (9, 4, [some 41, none, none, none]), (100, 64, []), (9, 4, [some 43, none, none, none]), (100, 64, []), (9, 4, [some 45, none, none, none]), (100, 16, []), (9, 4, [some 47, none, none, none]), (100, 10, []), (4, 3, [some 49, none, none]), (101, 6, [some 50, none, none, none, none, none]), (3, 4, [some 51, some 53, some 55, none]), (9, 4, [some 52, none, none, none]), (100, 96, []), (9, 4, [some 54, none, none, none]), (100, 40, []), (9, 4, [some 56, none, none, none]), (100, 7, []), (3, 4, [some 58, some 60, some 62, none]), (9, 4, [some 59, none, none, none]), (100, 96, []), (9, 4, [some 61, none, none, none]), (100, 40, []), (9, 4, [some 63, none, none, none]), (100, 7, [])]
def S_126 : List SE := [(11, 13, [some 2, some 25, none, none, none, none, none, none, none, none, none, none, some 1]), (100, 12, []), (1, 11, [some 3, some 5, some 7, some 9, some 11, some 13, some 15, some 17, some 19, some 21, some 23]), (9, 4, [some 4, none, none, none]), (100, 96, []), (9, 4, [some 6, none, none, none]), (100, 40, []), (9, 4, [some 8, none, none, none]), (100, 7, []), (9, 4, [some 10, none, none, none]), (100, 600, []), (9, 4, [some 12, none, none, none]), (100, 64, []), (9, 4, [some 14, none, none, none]), (100, 800, []), (9, 4, [some 16, none, none, none]), (100, 64, []), (9, 4, [some 18, none, none, none]), (100, 64, []), (9, 4, [some 20, none, none, none]), (100, 64, []), (9, 4, [some 22, none, none, none]), (100, 16, []), (9, 4, [some 24, none, none, none]), (100, 10, []), (1, 11, [some 26, some 28, some 30, some 32, some 34, some 36, some 38, some 40, some 42, some 44, some 46]), (9, 4, [some 27, none, none, none]), (100, 96, []), (9, 4, [some 29, none, none, none]), (100, 40, []), (9, 4, [some 31, none, none, none]), (100, 7, []), (9, 4, [some 33, none, none, none]), (100, 600, []), (9, 4, [some 35, none, none, none]), (100, 64, []), (9, 4, [some 37, none, none, none]), (100, 800, []), (9, 4, [some 39, none, none, none]), (100, 64, []), (9, 4, [some 41, none, none, none]), (100, 64, []), (9, 4, [some 43, none, none, none]), (100, 64, []), (9, 4, [some 45, none, none, none]), (100, 16, []), (9, 4, [some 47, none, none, none]), (100, 10, []), (4, 3, [some 49, none, none]), (101, 6, [some 50, some 57, none, none, none, none]), (3, 4, [some 51, some 53, some 55, none]), (9, 4, [some 52, none, none, none]), (100, 96, []), (9, 4, [some 54, none, none, none]), (100, 40, []), (9, 4, [some 56, none, none, none]), (100, 7, []), (3, 4, [some 58, some 60, some 62, none]), (9, 4, [some 59, none, none, none]), (100, 96, []), (9, 4, [some 61, none, none, none]), (100, 40, []), (9, 4, [some 63, none, none, none]), (100, 7, [])]
def S_127 : List SE := [(11, 13, [some 2, some 25, none, none, none, none, none, none, none, none, none, none, some 1]), (100, 12, []), (1, 11, [some 3, some 5, some 7, some 9, some 11, some 13, some 15, some 17, some 19, some 21, some 23]), (9, 4, [some 4, none, none, none]), (100, 96, []), (9, 4, [some 6, none, none, none]), (100, 40, []), (9, 4, [some 8, none, none, none]), (100, 7, []), (9, 4, [some 10, none, none, none]), (100, 600, []), (9, 4, [some 12, none, none, none]), (100, 64, []), (9, 4, [some 14, none, none, none]), (100, 800, []), (9, 4, [some 16, none, none, none]), (100, 64, []), (9, 4, [some 18, none, none, none]), (100, 64, []), (9, 4, [some 20, none, none, none]), (100, 64, []), (9, 4, [some 22, none, none, none]), (100, 16, []), (9, 4, [some 24, none, none, none]), (100, 10, []), (1, 11, [some 26, some 28, some 30, some 32, some 34, some 36, some 38, some 40, some 42, some 44, some 46]), (9, 4, [some 27, none, none, none]), (100, 96, []), (9, 4, [some 29, none, none, none]), (100, 40, []), (9, 4, [some 31, none, none, none]), (100, 7, []), (9, 4, [some 33, none, none, none]), (100, 600, []), (9, 4, [some 35, none, none, none]), (100, 64, []), (9, 4, [some 37, none, none, none]), (100, 800, []), (9, 4, [some 39, none, none, none]), (100, 64, []), (9, 4, [some 41, none, none, none]), (100, 64, []), (9, 4, [some 43, none, none, none]), (100, 64, []), (9, 4, [some 45, none, none, none]), (100, 16, []), (9, 4, [some 47, none, none, none]), (100, 10, []), (4, 3, [some 49, none, none]), (101, 6, [some 50, some 57, none, none, none, none]), (3, 4, [some 51, some 53, some 55, none]), (9, 4, [some 52, none, none, none]), (100, 96, []), (9, 4, [some 54, none, none, none]), (100, 40, []), (9, 4, [some 56, none, none, none]), (100, 7, []), (3, 4, [some 58, some 60, some 62, none]), (9, 4, [some 59, none, none, none]), (100, 96, []), (9, 4, [some 61, none, none, none]), (100, 40, []), (9, 4, [some 63, none, none, none]), (100, 7, []), (3, 4, [none, none, none, none])]
def S_128 : List SE := [(11, 13, [some 2, some 25, none, none, none, none, none, none, none, none, none, none, some 1]), (100, 12, []), (1, 11, [some 3, some 5, some 7, some 9, some 11, some 13, some 15, some 17, some 19, some 21, some 23]), (9, 4, [some 4, none, none, none]), (100, 96, []), (9, 4, [some 6, none, none, none]), (100, 40, []), (9, 4, [some 8, none, none, none]), (100, 7, []), (9, 4, [some 10, none, none, none]), (100, 600, []), (9, 4, [some 12, none, none, none]), (100, 64, []), (9, 4, [some 14, none, none, none]), (100, 800, []), (9, 4, [some 16, none, none, none]), (100, 64, []), (9, 4, [some 18, none, none, none]), (100, 64, []), (9, 4, [some 20, none, none, none]), (100, 64, []), (9, 4, [some 22, none, none, none]), (100, 16, []), (9, 4, [some 24, none, none, none]), (100, 10, []), (1, 11, [some 26, some 28, some 30, some 32, some 34, some 36, some 38, some 40, some 42, some 44, some 46]), (9, 4, [some 27, none, none, none]), (100, 96, []), (9, 4, [some 29, none, none, none]), (100, 40, []), (9, 4, [some 31, none, none, none]), (100, 7, []), (9, 4, [some 33, none, none, none]), (100, 600, []), (9, 4, [some 35, none, none, none]), (100, 64, []), (9, 4, [some 37, none, none, none]), (100, 800, []), (9, 4, [some 39, none, none, none]), (100, 64, []), (9, 4, [some 41, none, none, none]), (100, 64, []), (9, 4, [some 43, none, none, none]), (100, 64, []), (9, 4, [some 45, none, none, none]), (100, 16, []), (9, 4, [some 47, none, none, none]), (100, 10, []), (4, 3, [some 49, none, none]), (101, 6, [some 50, some 57, none, none, none, none]), (3, 4, [some 51, some 53, some 55, none]), (9, 4, [some 52, none, none, none]), (100, 96, []), (9, 4, [some 54, none, none, none]), (100, 40, []), (9, 4, [some 56, none, none, none]), (100, 7, []), (3, 4, [some 58, some 60, some 62, none]), (9, 4, [some 59, none, none, none]), (100, 96, []), (9, 4, [some 61, none, none, none]), (100, 40, []), (9, 4, [some 63, none, none, none]), (100, 7, []), (3, 4, [none, none, none, none]), (9, 4, [none, none, none, none])]
def S_129 : List SE := [(11, 13, [some 2, some 25, none, none, none, none, none, none, none, none, none, none, some 1]), (100, 12, []), (1, 11, [some 3, some 5, some 7, some 9, some 11, some 13, some 15, some 17, some 19, some 21, some 23]), (9, 4, [some 4, none, none, none]), (100, 96, []), (9, 4, [some 6, none, none, none]), (100, 40, []), (9, 4, [some 8, none, none, none]), (100, 7, []), (9, 4, [some 10, none, none, none]), (100, 600, []), (9, 4, [some 12, none, none, none]), (100, 64, []), (9, 4, [some 14, none, none, none]), (100, 800, []), (9, 4, [some 16, none, none, none]), (100, 64, []), (9, 4, [some 18, none, none, none]), (100, 64, []), (9, 4, [some 20, none, none, none]), (100, 64, []), (9, 4, [some 22, none, none, none]), (100, 16, []), (9, 4, [some 24, none, none, none]), (100, 10, []), (1, 11, [some 26, some 28, some 30, some 32, some 34, some 36, some 38, some 40, some 42, some 44, some 46]), (9, 4, [some 27, none, none, none]), (100, 96, []), (9, 4, [some 29, none, none, none]), (100, 40, []), (9, 4, [some 31, none, none, none]), (100, 7, []), (9, 4, [some 33, none, none, none]), (100, 600, []), (9, 4, [some 35, none, none, none]), (100, 64, []), (9, 4, [some 37, none, none, none]), (100, 800, []), (9, 4, [some 39, none, none, none]), (100, 64, []), (9, 4, [some 41, none, none, none]), (100, 64, []), (9, 4, [some 43, none, none, none]), (100, 64, []), (9, 4, [some 45, none, none, none]), (100, 16, []), (9, 4, [some 47, none, none, none]), (100, 10, []), (4, 3, [some 49, none, none]), (101, 6, [some 50, some 57, none, none, none, none]), (3, 4, [some 51, some 53, some 55, none]), (9, 4, [some 52, none, none, none]), (100, 96, []), (9, 4, [some 54, none, none, none]), (100, 40, []), (9, 4, [some 56, none, none, none]), (100, 7, []), (3, 4, [some 58, some 60, some 62, none]), (9, 4, [some 59, none, none, none]), (100, 96, []), (9, 4, [some 61, none, none, none]), (100, 40, []), (9, 4, [some 63, none, none, none]), (100, 7, []), (3, 4, [none, none, none, none]), (9, 4, [none, none, none, none]), (100, 96, [])]
def S_130 : List SE := [(11, 13, [some 2, some 25, none, none, none, none, none, none, none, none, none, none, some 1]), (100, 12, []), (1, 11, [some 3, some 5, some 7, some 9, some 11, some 13, some 15, some 17, some 19, some 21, some 23]), (9, 4, [some 4, none, none, none]), (100, 96, []), (9, 4, [some 6, none, none, none]), (100, 40, []), (9, 4, [some 8, none, none, none]), (100, 7, []), (9, 4, [some 10, none, none, none]), (100, 600, []), (9, 4, [some 12, none, none, none]), (100, 64, []), (9, 4, [some 14, none, none, none]), (100, 800, []), (9, 4, [some 16, none, none, none]), (100, 64, []), (9, 4, [some 18, none, none, none]), (100, 64, []), (9, 4, [some 20, none, none, none]), (100, 64, []), (9, 4, [some 22, none, none, none]), (100, 16, []), (9, 4, [some 24, none, none, none]), (100, 10, []), (1, 11, [some 26, some 28, some 30, some 32, some 34, some 36, some 38, some 40, some 42, some 44, some 46]), (9, 4, [some 27, none, none, none]), (100, 96, []), (9, 4, [some 29, none, none, none]), (100, 40, []), (9, 4, [some 31, none, none, none]), (100, 7, []), (9, 4, [some 33, none, none, none]), (100, 600, []), (9, 4, [some 35, none, none, none]), (100, 64, []), (9, 4, [some 37, none, none, none]), (100, 800, []), (9, 4, [some 39, none, none, none]), (100, 64, []), (9, 4, [some 41, none, none, none]), (100, 64, []), (9, 4, [some 43, none, none, none]), (100, 64, []), (9, 4, [some 45, none, none, none]), (100, 16, []), (9, 4, [some 47, none, none, none]), (100, 10, []), (4, 3, [some 49, none, none]), (101, 6, [some 50, some 57, none, none, none, none]), (3, 4, [some 51, some 53, some 55, none]), (9, 4, [some 52, none, none, none]), (100, 96, []), (9, 4, [some 54, none, none, none]), (100, 40, []), (9, 4, [some 56, none, none, none]), (100, 7, []), (3, 4, [some 58, some 60, some 62, none]), (9, 4, [some 59, none, none, none]), (100, 96, []), (9, 4, [some 61, none, none, none]), (100, 40, []), (9, 4, [some 63, none, none, none]), (100, 7, []), (3, 4, [none, none, none, none]), (9, 4, [some 66, none, none, none]), (100, 96, [])]
def S_131 : List SE := [(11, 13, [some 2, some 25, none, none, none, none, none, none, none, none, none, none, some 1]), (100, 12, []), (1, 11, [some 3, some 5, some 7, some 9, some 11, some 13, some 15, some 17, some 19, some 21, some 23]), (9, 4, [some 4, none, none, none]), (100, 96, []), (9, 4, [some 6, none, none, none]), (100, 40, []), (9, 4, [some 8, none, none, none]), (100, 7, []), (9, 4, [some 10, none, none, none]), (100, 600, []), (9, 4, [some 12, none, none, none]), (100, 64, []), (9, 4, [some 14, none, none, none]), (100, 800, []), (9, 4, [some 16, none, none, none]), (100, 64, []), (9, 4, [some 18, none, none, none]), (100, 64, []), (9, 4, [some 20, none, none, none]), (100, 64, []), (9, 4, [some 22, none, none, none]), (100, 16, []), (9, 4, [some 24, none, none, none]), (100, 10, []), (1, 11, [some 26, some 28, some 30, some 32, some 34, some 36, some 38, some 40, some 42, some 44, some 46]), (9, 4, [some 27, none, none, none]), (100, 96, []), (9, 4, [some 29, none, none, none]), (100, 40, []), (9, 4, [some 31, none, none, none]), (100, 7, []), (9, 4, [some 33, none, none, none]), (100, 600, []), (9, 4, [some 35, none, none, none]), (100, 64, []), (9, 4, [some 37, none, none, none]), (100, 800, []), (9, 4, [some 39, none, none, none]), (100, 64, []), (9, 4, [some 41, none, none, none]), (100, 64, []), (9, 4, [some 43, none, none, none]), (100, 64, []), (9, 4, [some 45, none, none, none]), (100, 16, []), (9, 4, [some 47, none, none, none]), (100, 10, []), (4, 3, [some 49, none, none]), (101, 6, [some 50, some 57, none, none, none, none]), (3, 4, [some 51, some 53, some 55, none]), (9, 4, [some 52, none, none, none]), (100, 96, []), (9, 4, [some 54, none, none, none]), (100, 40, []), (9, 4, [some 56, none, none, none]), (100, 7, []), (3, 4, [some 58, some 60, some 62, none]), (9, 4, [some 59, none, none, none]), (100, 96, []), (9, 4, [some 61, none, none, none]), (100, 40, []), (9, 4, [some 63, none, none, none]), (100, 7, []), (3, 4, [some 65, none, none, none]), (9, 4, [some 66, none, none, none]), (100, 96, [])]
def S_132 : List SE := [(11, 13, [some 2, some 25, none, none, none, none, none, none, none, none, none, none, some 1]), (100, 12, []), (1, 11, [some 3, some 5, some 7, some 9, some 11, some 13, some 15, some 17, some 19, some 21, some 23]), (9, 4, [some 4, none, none, none]), (100, 96, []), (9, 4, [some 6, none, none, none]), (100, 40, []), (9, 4, [some 8, none, none, none]), (100, 7, []), (9, 4, [some 10, none, none, none]), (100, 600, []), (9, 4, [some 12, none, none, none]), (100, 64, []), (9, 4, [some 14, none, none, none]), (100, 800, []), (9, 4, [some 16, none, none, none]), (100, 64, []), (9, 4, [some 18, none, none, none]), (100, 64, []), (9, 4, [some 20, none, none, none]), (100, 64, []), (9, 4, [some 22, none, none, none]), (100, 16, []), (9, 4, [some 24, none, none, none]), (100, 10, []), (1, 11, [some 26, some 28, some 30, some 32, some 34, some 36, some 38, some 40, some 42, some 44, some 46]), (9, 4, [some 27, none, none, none]), (100, 96, []), (9, 4, [some 29, none, none, none]), (100, 40, []), (9, 4, [some 31, none, none, none]), (100, 7, []), (9, 4, [some 33, none, none, none]), (100, 600, []), (9, 4, [some 35, none, none, none]), (100, 64, []), (9, 4, [some 37, none, none, none]), (100, 800, []), (9, 4, [some 39, none, none, none]), (100, 64, []), (9, 4, [some 41, none, none, none]), (100, 64, []), (9, 4, [some 43, none, none, none]), (100, 64, []), (9, 4, [some 45, none, none, none]), (100, 16, []), (9, 4, [some 47, none, none, none]), (100, 10, []), (4, 3, [some 49, none, none]), (101, 6, [some 50, some 57, none, none, none, none]), (3, 4, [some 51, some 53, some 55, none]), (9, 4, [some 52, none, none, none]), (100, 96, []), (9, 4, [some 54, none, none, none]), (100, 40, []), (9, 4, [some 56, none, none, none]), (100, 7, []), (3, 4, [some 58, some 60, some 62, none]), (9, 4, [some 59, none, none, none]), (100, 96, []), (9, 4, [some 61, none, none, none]), (100, 40, []), (9, 4, [some 63, none, none, none]), (100, 7, []), (3, 4, [some 65, none, none, none]), (9, 4, [some 66, none, none, none]), (100, 96, []), (9, 4, [none, none, none, none])]
def S_133 : List SE := [(11, 13, [some 2, some 25, none, none, none, none, none, none, none, none, none, none, some 1]), (100, 12, []), (1, 11, [some 3, some 5, some 7, some 9, some 11, some 13, some 15, some 17, some 19, some 21, some 23]), (9, 4, [some 4, none, none, none]), (100, 96, []), (9, 4, [some 6, none, none, none]), (100, 40, []), (9, 4, [some 8, none, none, none]), (100, 7, []), (9, 4, [some 10, none, none, none]), (100, 600, []), (9, 4, [some 12, none, none, none]), (100, 64, []), (9, 4, [some 14, none, none, none]), (100, 800, []), (9, 4, [some 16, none, none, none]), (100, 64, []), (9, 4, [some 18, none, none, none]), (100, 64, []), (9, 4, [some 20, none, none, none]), (100, 64, []), (9, 4, [some 22, none, none, none]), (100, 16, []), (9, 4, [some 24, none, none, none]), (100, 10, []), (1, 11, [some 26, some 28, some 30, some 32, some 34, some 36, some 38, some 40, some 42, some 44, some 46]), (9, 4, [some 27, none, none, none]), (100, 96, []), (9, 4, [some 29, none, none, none]), (100, 40, []), (9, 4, [some 31, none, none, none]), (100, 7, []), (9, 4, [some 33, none, none, none]), (100, 600, []), (9, 4, [some 35, none, none, none]), (100, 64, []), (9, 4, [some 37, none, none, none]), (100, 800, []), (9, 4, [some 39, none, none, none]), (100, 64, []), (9, 4, [some 41, none, none, none]), (100, 64, []), (9, 4, [some 43, none, none, none]), (100, 64, []), (9, 4, [some 45, none, none, none]), (100, 16, []), (9, 4, [some 47, none, none, none]), (100, 10, []), (4, 3, [some 49, none, none]), (101, 6, [some 50, some 57, none, none, none, none]), (3, 4, [some 51, some 53, some 55, none]), (9, 4, [some 52, none, none, none]), (100, 96, []), (9, 4, [some 54, none, none, none]), (100, 40, []), (9, 4, [some 56, none, none, none]), (100, 7, []), (3, 4, [some 58, some 60, some 62, none]), (9, 4, [some 59, none, none, none]), (100, 96, []), (9, 4, [some 61, none, none, none]), (100, 40, []), (9, 4, [some 63, none, none, none]), (100, 7, []), (3, 4, [some 65, none, none, none]), (9, 4, [some 66, none, none, none]), (100, 96, []), (9, 4, [none, none, none, none]), (100, 40, [])]
def S_134 : List SE := [(11, 13, [some 2, some 25, none, none, none, none, none, none, none, none, none, none, some 1]), (100, 12, []), (1, 11, [some 3, some 5, some 7, some 9, some 11, some 13, some 15, some 17, some 19, some 21, some 23]), (9, 4, [some 4, none, none, none]), (100, 96, []), (9, 4, [some 6, none, none, none]), (100, 40, []), (9, 4, [some 8, none, none, none]), (100, 7, []), (9, 4, [some 10, none, none, none]), (100, 600, []), (9, 4, [some 12, none, none, none]), (100, 64, []), (9, 4, [some 14, none, none, none]), (100, 800, []), (9, 4, [some 16, none, none, none]), (100, 64, []), (9, 4, [some 18, none, none, none]), (100, 64, []), (9, 4, [some 20, none, none, none]), (100, 64, []), (9, 4, [some 22, none, none, none]), (100, 16, []), (9, 4, [some 24, none, none, none]), (100, 10, []), (1, 11, [some 26, some 28, some 30, some 32, some 34, some 36, some 38, some 40, some 42, some 44, some 46]), (9, 4, [some 27, none, none, none]), (100, 96, []), (9, 4, [some 29, none, none, none]), (100, 40, []), (9, 4, [some 31, none, none, none]), (100, 7, []), (9, 4, [some 33, none, none, none]), (100, 600, []), (9, 4, [some 35, none, none, none]), (100, 64, []), (9, 4, [some 37, none, none, none]), (100, 800, []), (9, 4, [some 39, none, none, none]), (100, 64, []), (9, 4, [some 41, none, none, none]), (100, 64, []), (9, 4, [some 43, none, none, none]), (100, 64, []), (9, 4, [some 45, none, none, none]), (100, 16, []), (9, 4, [some 47, none, none, none]), (100, 10, []), (4, 3, [some 49, none, none]), (101, 6, [some 50, some 57, none, none, none, none]), (3, 4, [some 51, some 53, some 55, none]), (9, 4, [some 52, none, none, none]), (100, 96, []), (9, 4, [some 54, none, none, none]), (100, 40, []), (9, 4, [some 56, none, none, none]), (100, 7, []), (3, 4, [some 58, some 60, some 62, none]), (9, 4, [some 59, none, none, none]), (100, 96, []), (9, 4, [some 61, none, none, none]), (100, 40, []), (9, 4, [some 63, none, none, none]), (100, 7, []), (3, 4, [some 65, none, none, none]), (9, 4, [some 66, none, none, none]), (100, 96, []), (9, 4, [some 68, none, none, none]), (100, 40, [])]
def S_135 : List SE := [(11, 13, [some 2, some 25, none, none, none, none, none, none, none, none, none, none, some 1]), (100, 12, []), (1, 11, [some 3, some 5, some 7, some 9, some 11, some 13, some 15, some 17, some 19, some 21, some 23]), (9, 4, [some 4, none, none, none]), (100, 96, []), (9, 4, [some 6, none, none, none]), (100, 40, []), (9, 4, [some 8, none, none, none]), (100, 7, []), (9, 4, [some 10, none, none, none]), (100, 600, []), (9, 4, [some 12, none, none, none]), (100, 64, []), (9, 4, [some 14, none, none, none]), (100, 800, []), (9, 4, [some 16, none, none, none]), (100, 64, []), (9, 4, [some 18, none, none, none]), (100, 64, []), (9, 4, [some 20, none, none, none]), (100, 64, []), (9, 4, [some 22, none, none, none]), (100, 16, []), (9, 4, [some 24, none, none, none]), (100, 10, []), (1, 11, [some 26, some 28, some 30, some 32, some 34, some 36, some 38, some 40, some 42, some 44, some 46]), (9, 4, [some 27, none, none, none]), (100, 96, []), (9, 4, [some 29, none, none, none]), (100, 40, []), (9, 4, [some 31, none, none, none]), (100, 7, []), (9, 4, [some 33, none, none, none]), (100, 600, []), (9, 4, [some 35, none, none, none]), (100, 64, []), (9, 4, [some 37, none, none, none]), (100, 800, []), (9, 4, [some 39, none, none, none]), (100, 64, []), (9, 4, [some 41, none, none, none]), (100, 64, []), (9, 4, [some 43, none, none, none]), (100, 64, []), (9, 4, [some 45, none, none, none]), (100, 16, []), (9, 4, [some 47, none, none, none]), (100, 10, []), (4, 3, [some 49, none, none]), (101, 6, [some 50, some 57, none, none, none, none]), (3, 4, [some 51, some 53, some 55, none]), (9, 4, [some 52, none, none, none]), (100, 96, []), (9, 4, [some 54, none, none, none]), (100, 40, []), (9, 4, [some 56, none, none, none]), (100, 7, []), (3, 4, [some 58, some 60, some 62, none]), (9, 4, [some 59, none, none, none]), (100, 96, []), (9, 4, [some 61, none, none, none]), (100, 40, []), (9, 4, [some 63, none, none, none]), (100, 7, []), (3, 4, [some 65, some 67, none, none]), (9, 4, [some 66, none, none, none]), (100, 96, []), (9, 4, [some 68, none, none, none]), (100, 40, [])]
def S_136 : List SE := [(11, 13, [some 2, some 25, none, none, none, none, none, none, none, none, none, none, some 1]), (100, 12, []), (1, 11, [some 3, some 5, some 7, some 9, some 11, some 13, some 15, some 17, some 19, some 21, some 23]), (9, 4, [some 4, none, none, none]), (100, 96, []), (9, 4, [some 6, none, none, none]), (100, 40, []), (9, 4, [some 8, none, none, none]), (100, 7, []), (9, 4, [some 10, none, none, none]), (100, 600, []), (9, 4, [some 12, none, none, none]), (100, 64, []), (9, 4, [some 14, none, none, none]), (100, 800, []), (9, 4, [some 16, none, none, none]), (100, 64, []), (9, 4, [some 18, none, none, none]), (100, 64, []), (9, 4, [some 20, none, none, none]), (100, 64, []), (9, 4, [some 22, none, none, none]), (100, 16, []), (9, 4, [some 24, none, none, none]), (100, 10, []), (1, 11, [some 26, some 28, some 30, some 32, some 34, some 36, some 38, some 40, some 42, some 44, some 46]), (9, 4, [some 27, none, none, none]), (100, 96, []), (9, 4, [some 29, none, none, none]), (100, 40, []), (9, 4, [some 31, none, none, none]), (100, 7, []), (9, 4, [some 33, none, none, none]), (100, 600, []), (9, 4, [some 35, none, none, none]), (100, 64, []), (9, 4, [some 37, none, none, none]), (100, 800, []), (9, 4, [some 39, none, none, none]), (100, 64, []), (9, 4, [some 41, none, none, none]), (100, 64, []), (9, 4, [some 43, none, none, none]), (100, 64, []), (9, 4, [some 45, none, none, none]), (100, 16, []), (9, 4, [some 47, none, none, none]), (100, 10, []), (4, 3, [some 49, none, none]), (101, 6, [some 50, some 57, none, none, none, none]), (3, 4, [some 51, some 53, some 55, none]), (9, 4, [some 52, none, none, none]), (100, 96, []), (9, 4, [some 54, none, none, none]), (100, 40, []), (9, 4, [some 56, none, none, none]), (100, 7, []), (3, 4, [some 58, some 60, some 62, none]), (9, 4, [some 59, none, none, none]), (100, 96, []), (9, 4, [some 61, none, none, none]), (100, 40, []), (9, 4, [some 63, none, none, none]), (100, 7, []), (3, 4, [some 65, some 67, none, none]), (9, 4, [some 66, none, none, none]), (100, 96, []), (9, 4, [some 68, none, none, none]), (100, 40, []), (9, 4, [none, none, none, none])]
def S_137 : List SE := [(11, 13, [some 2, some 25, none, none, none, none, none, none, none, none, none, none, some 1]), (100, 12, []), (1, 11, [some 3, some 5, some 7, some 9, some 11, some 13, some 15, some 17, some 19, some 21, some 23]), (9, 4, [some 4, none, none, none]), (100, 96, []), (9, 4, [some 6, none, none, none]), (100, 40, []), (9, 4, [some 8, none, none, none]), (100, 7, []), (9, 4, [some 10, none, none, none]), (100, 600, []), (9, 4, [some 12, none, none, none]), (100, 64, []), (9, 4, [some 14, none, none, none]), (100, 800, []), (9, 4, [some 16, none, none, none]), (100, 64, []), (9, 4, [some 18, none, none, none]), (100, 64, []), (9, 4, [some 20, none, none, none]), (100, 64, []), (9, 4, [some 22, none, none, none]), (100, 16, []), (9, 4, [some 24, none, none, none]), (100, 10, []), (1, 11, [some 26, some 28, some 30, some 32, some 34, some 36, some 38, some 40, some 42, some 44, some 46]), (9, 4, [some 27, none, none, none]), (100, 96, []), (9, 4, [some 29, none, none, none]), (100, 40, []), (9, 4, [some 31, none, none, none]), (100, 7, []), (9, 4, [some 33, none, none, none]), (100, 600, []), (9, 4, [some 35, none, none, none]), (100, 64, []), (9, 4, [some 37, none, none, none]), (100, 800, []), (9, 4, [some 39, none, none, none]), (100, 64, []), (9, 4, [some 41, none, none, none]), (100, 64, []), (9, 4, [some 43, none, none, none]), (100, 64, []), (9, 4, [some 45, none, none, none]), (100, 16, []), (9, 4, [some 47, none, none, none]), (100, 10, []), (4, 3, [some 49, none, none]), (101, 6, [some 50, some 57, none, none, none, none]), (3, 4, [some 51, some 53, some 55, none]), (9, 4, [some 52, none, none, none]), (100, 96, []), (9, 4, [some 54, none, none, none]), (100, 40, []), (9, 4, [some 56, none, none, none]), (100, 7, []), (3, 4, [some 58, some 60, some 62, none]), (9, 4, [some 59, none, none, none]), (100, 96, []), (9, 4, [some 61, none, none, none]), (100, 40, []), (9, 4, [some 63, none, none, none]), (100, 7, []), (3, 4, [some 65, some 67, none, none]), (9, 4, [some 66, none, none, none]), (100, 96, []), (9, 4, [some 68, none, none, none]), (100, 40, []), (9, 4, [none, none, none, none]), (100, 7, [])]
def S_138 : List SE := [(11, 13, [some 2, some 25, none, none, none, none, none, none, none, none, none, none, some 1]), (100, 12, []), (1, 11, [some 3, some 5, some 7, some 9, some 11, some 13, some 15, some 17, some 19, some 21, some 23]), (9, 4, [some 4, none, none, none]), (100, 96, []), (9, 4, [some 6, none, none, none]), (100, 40, []), (9, 4, [some 8, none, none, none]), (100, 7, []), (9, 4, [some 10, none, none, none]), (100, 600, []), (9, 4, [some 12, none, none, none]), (100, 64, []), (9, 4, [some 14, none, none, none]), (100, 800, []), (9, 4, [some 16, none, none, none]), (100, 64, []), (9, 4, [some 18, none, none, none]), (100, 64, []), (9, 4, [some 20, none, none, none]), (100, 64, []), (9, 4, [some 22, none, none, none]), (100, 16, []), (9, 4, [some 24, none, none, none]), (100, 10, []), (1, 11, [some 26, some 28, some 30, some 32, some 34, some 36, some 38, some 40, some 42, some 44, some 46]), (9, 4, [some 27, none, none, none]), (100, 96, []), (9, 4, [some 29, none, none, none]), (100, 40, []), (9, 4, [some 31, none, none, none]), (100, 7, []), (9, 4, [some 33, none, none, none]), (100, 600, []), (9, 4, [some 35, none, none, none]), (100, 64, []), (9, 4, [some 37, none, none, none]), (100, 800, []), (9, 4, [some 39, none, none, none]), (100, 64, []), (9, 4, [some 41, none, none, none]), (100, 64, []), (9, 4, [some 43, none, none, none]), (100, 64, []), (9, 4, [some 45, none, none, none]), (100, 16, []), (9, 4, [some 47, none, none, none]), (100, 10, []), (4, 3, [some 49, none, none]), (101, 6, [some 50, some 57, none, none, none, none]), (3, 4, [some 51, some 53, some 55, none]), (9, 4, [some 52, none, none, none]), (100, 96, []), (9, 4, [some 54, none, none, none]), (100, 40, []), (9, 4, [some 56, none, none, none]), (100, 7, []), (3, 4, [some 58, some 60, some 62, none]), (9, 4, [some 59, none, none, none]), (100, 96, []), (9, 4, [some 61, none, none, none]), (100, 40, []), (9, 4, [some 63, none, none, none]), (100, 7, []), (3, 4, [some 65, some 67, none, none]), (9, 4, [some 66, none, none, none]), (100, 96, []), (9, 4, [some 68, none, none, none]), (100, 40, []), (9, 4, [some 70, none, none, none]), (100, 7, [])]
def S_139 : List SE := [(11, 13, [some 2, some 25, none, none, none, none, none, none, none, none, none, none, some 1]), (100, 12, []), (1, 11, [some 3, some 5, some 7, some 9, some 11, some 13, some 15, some 17, some 19, some 21, some 23]), (9, 4, [some 4, none, none, none]), (100, 96, []), (9, 4, [some 6, none, none, none]), (100, 40, []), (9, 4, [some 8, none, none, none]), (100, 7, []), (9, 4, [some 10, none, none, none]), (100, 600, []), (9, 4, [some 12, none, none, none]), (100, 64, []), (9, 4, [some 14, none, none, none]), (100, 800, []), (9, 4, [some 16, none, none, none]), (100, 64, []), (9, 4, [some 18, none, none, none]), (100, 64, []), (9, 4, [some 20, none, none, none]), (100, 64, []), (9, 4, [some 22, none, none, none]), (100, 16, []), (9, 4, [some 24, none, none, none]), (100, 10, []), (1, 11, [some 26, some 28, some 30, some 32, some 34, some 36, some 38, some 40, some 42, some 44, some 46]), (9, 4, [some 27, none, none, none]), (100, 96, []), (9, 4, [some 29, none, none, none]), (100, 40, []), (9, 4, [some 31, none, none, none]), (100, 7, []), (9, 4, [some 33, none, none, none]), (100, 600, []), (9, 4, [some 35, none, none, none]), (100, 64, []), (9, 4, [some 37, none, none, none]), (100, 800, []), (9, 4, [some 39, none, none, none]), (100, 64, []), (9, 4, [some 41, none, none, none]), (100, 64, []), (9, 4, [some 43, none, none, none]), (100, 64, []), (9, 4, [some 45, none, none, none]), (100, 16, []), (9, 4, [some 47, none, none, none]), (100, 10, []), (4, 3, [some 49, none, none]), (101, 6, [some 50, some 57, none, none, none, none]), (3, 4, [some 51, some 53, some 55, none]), (9, 4, [some 52, none, none, none]), (100, 96, []), (9, 4, [some 54, none, none, none]), (100, 40, []), (9, 4, [some 56, none, none, none]), (100, 7, []), (3, 4, [some 58, some 60, some 62, none]), (9, 4, [some 59, none, none, none]), (100, 96, []), (9, 4, [some 61, none, none, none]), (100, 40, []), (9, 4, [some 63, none, none, none]), (100, 7, []), (3, 4, [some 65, some 67, some 69, none]), (9, 4, [some 66, none, none, none]), (100, 96, []), (9, 4, [some 68, none, none, none]), (100, 40, []), (9, 4, [some 70, none, none, none]), (100, 7, [])]
def S_140 : List SE := [(11, 13, [some 2, some 25, none, none, none, none, none, none, none, none, none, none, some 1]), (100, 12, []), (1, 11, [some 3, some 5, some 7, some 9, some 11, some 13, some 15, some 17, some 19, some 21, some 23]), (9, 4, [some 4, none, none, none]), (100, 96, []), (9, 4, [some 6, none, none, none]), (100, 40, []), (9, 4, [some 8, none, none, none]), (100, 7, []), (9, 4, [some 10, none, none, none]), (100, 600, []), (9, 4, [some 12, none, none, none]), (100, 64, []), (9, 4, [some 14, none, none, none]), (100, 800, []), (9, 4, [some 16, none, none, none]), (100, 64, []), (9, 4, [some 18, none, none, none]), (100, 64, []), (9, 4, [some 20, none, none, none]), (100, 64, []), (9, 4, [some 22, none, none, none]), (100, 16, []), (9, 4, [some 24, none, none, none]), (100, 10, []), (1, 11, [some 26, some 28, some 30, some 32, some 34, some 36, some 38, some 40, some 42, some 44, some 46]), (9, 4, [some 27, none, none, none]), (100, 96, []), (9, 4, [some 29, none, none, none]), (100, 40, []), (9, 4, [some 31, none, none, none]), (100, 7, []), (9, 4, [some 33, none, none, none]), (100, 600, []), (9, 4, [some 35, none, none, none]), (100, 64, []), (9, 4, [some 37, none, none, none]), (100, 800, []), (9, 4, [some 39, none, none, none]), (100, 64, []), (9, 4, [some 41, none, none, none]), (100, 64, []), (9, 4, [some 43, none, none, none]), (100, 64, []), (9, 4, [some 45, none, none, none]), (100, 16, []), (9, 4, [some 47, none, none, none]), (100, 10, []), (4, 3, [some 49, none, none]), (101, 6, [some 50, some 57, some 64, none, none, none]), (3, 4, [some 51, some 53, some 55, none]), (9, 4, [some 52, none, none, none]), (100, 96, []), (9, 4, [some 54, none, none, none]), (100, 40, []), (9, 4, [some 56, none, none, none]), (100, 7, []), (3, 4, [some 58, some 60, some 62, none]), (9, 4, [some 59, none, none, none]), (100, 96, []), (9, 4, [some 61, none, none, none]), (100, 40, []), (9, 4, [some 63, none, none, none]), (100, 7, []), (3, 4, [some 65, some 67, some 69, none]), (9, 4, [some 66, none, none, none]), (100, 96, []), (9, 4, [some 68, none, none, none]), (100, 40, []), (9, 4, [some 70, none, none, none]), (100, 7, [])]
def S_141 : List SE := [(11, 13, [some 2, some 25, none, none, none, none, none, none, none, none, none, none, some 1]), (100, 12, []), (1, 11, [some 3, some 5, some 7, some 9, some 11, some 13, some 15, some 17, some 19, some 21, some 23]), (9, 4, [some 4, none, none, none]), (100, 96, []), (9, 4, [some 6, none, none, none]), (100, 40, []), (9, 4, [some 8, none, none, none]), (100, 7, []), (9, 4, [some 10, none, none, none]), (100, 600, []), (9, 4, [some 12, none, none, none]), (100, 64, []), (9, 4, [some 14, none, none, none]), (100, 800, []), (9, 4, [some 16, none, none, none]), (100, 64, []), (9, 4, [some 18, none, none, none]), (100, 64, []), (9, 4, [some 20, none, none, none]), (100, 64, []), (9, 4, [some 22, none, none, none]), (100, 16, []), (9, 4, [some 24, none, none, none]), (100, 10, []), (1, 11, [some 26, some 28, some 30, some 32, some 34, some 36, some 38, some 40, some 42, some 44, some 46]), (9, 4, [some 27, none, none, none]), (100, 96, []), (9, 4, [some 29, none, none, none]), (100, 40, []), (9, 4, [some 31, none, none, none]), (100, 7, []), (9, 4, [some 33, none, none, none]), (100, 600, []), (9, 4, [some 35, none, none, none]), (100, 64, []), (9, 4, [some 37, none, none, none]), (100, 800, []), (9, 4, [some 39, none, none, none]), (100, 64, []), (9, 4, [some 41, none, none, none]), (100, 64, []), (9, 4, [some 43, none, none, none]), (100, 64, []), (9, 4, [some 45, none, none, none]), (100, 16, []), (9, 4, [some 47, none, none, none]), (100, 10, []), (4, 3, [some 49, none, none]), (101, 6, [some 50, some 57, some 64, none, none, none]), (3, 4, [some 51, some 53, some 55, none]), (9, 4, [some 52, none, none, none]), (100, 96, []), (9, 4, [some 54, none, none, none]), (100, 40, []), (9, 4, [some 56, none, none, none]), (100, 7, []), (3, 4, [some 58, some 60, some 62, none]), (9, 4, [some 59, none, none, none]), (100, 96, []), (9, 4, [some 61, none, none, none]), (100, 40, []), (9, 4, [some 63, none, none, none]), (100, 7, []), (3, 4, [some 65, some 67, some 69, none]), (9, 4, [some 66, none, none, none]), (100, 96, []), (9, 4, [some 68, none, none, none]), (100, 40, []), (9, 4, [some 70, none, none, none]), (100, 7, []), (3, 4, [none, none, none, none])]
def S_142 : List SE := [(11, 13, [some 2, some 25, none, none, none, none, none, none, none, none, none, none, some 1]), (100, 12, []), (1, 11, [some 3, some 5, some 7, some 9, some 11, some 13, some 15, some 17, some 19, some 21, some 23]), (9, 4, [some 4, none, none, none]), (100, 96, []), (9, 4, [some 6, none, none, none]), (100, 40, []), (9, 4, [some 8, none, none, none]), (100, 7, []), (9, 4, [some 10, none, none, none]), (100, 600, []), (9, 4, [some 12, none, none, none]), (100, 64, []), (9, 4, [some 14, none, none, none]), (100, 800, []), (9, 4, [some 16, none, none, none]), (100, 64, []), (9, 4, [some 18, none, none, none]), (100, 64, []), (9, 4, [some 20, none, none, none]), (100, 64, []), (9, 4, [some 22, none, none, none]), (100, 16, []), (9, 4, [some 24, none, none, none]), (100, 10, []), (1, 11, [some 26, some 28, some 30, some 32, some 34, some 36, some 38, some 40, some 42, some 44, some 46]), (9, 4, [some 27, none, none, none]), (100, 96, []), (9, 4, [some 29, none, none, none]), (100, 40, []), (9, 4, [some 31, none, none, none]), (100, 7, []), (9, 4, [some 33, none, none, none]), (100, 600, []), (9, 4, [some 35, none, none, none]), (100, 64, []), (9, 4, [some 37, none, none, none]), (100, 800, []), (9, 4, [some 39, none, none, none]), (100, 64, []), (9, 4, [some 41, none, none, none]), (100, 64, []), (9, 4, [some 43, none, none, none]), (100, 64, []), (9, 4, [some 45, none, none, none]), (100, 16, []), (9, 4, [some 47, none, none, none]), (100, 10, []), (4, 3, [some 49, none, none]), (101, 6, [some 50, some 57, some 64, none, none, none]), (3, 4, [some 51, some 53, some 55, none]), (9, 4, [some 52, none, none, none]), (100, 96, []), (9, 4, [some 54, none, none, none]), (100, 40, []), (9, 4, [some 56, none, none, none]), (100, 7, []), (3, 4, [some 58, some 60, some 62, none]), (9, 4, [some 59, none, none, none]), (100, 96, []), (9, 4, [some 61, none, none, none]), (100, 40, []), (9, 4, [some 63, none, none, none]), (100, 7, []), (3, 4, [some 65, some 67, some 69, none]), (9, 4, [some 66, none, none, none]), (100, 96, []), (9, 4, [some 68, none, none, none]), (100, 40, []), (9, 4, [some 70, none, none, none]), (100, 7, []), (3, 4, [none, none, none, none]), (9, 4, [none, none, none, none])]
def S_143 : List SE := [(11, 13, [some 2, some 25, none, none, none, none, none, none, none, none, none, none, some 1]), (100, 12, []), (1, 11, [some 3, some 5, some 7, some 9, some 11, some 13, some 15, some 17, some 19, some 21, some 23]), (9, 4, [some 4, none, none, none]), (100, 96, []), (9, 4, [some 6, none, none, none]), (100, 40, []), (9, 4, [some 8, none, none, none]), (100, 7, []), (9, 4, [some 10, none, none, none]), (100, 600, []), (9, 4, [some 12, none, none, none]), (100, 64, []), (9, 4, [some 14, none, none, none]), (100, 800, []), (9, 4, [some 16, none, none, none]), (100, 64, []), (9, 4, [some 18, none, none, none]), (100, 64, []), (9, 4, [some 20, none, none, none]), (100, 64, []), (9, 4, [some 22, none, none, none]), (100, 16, []), (9, 4, [some 24, none, none, none]), (100, 10, []), (1, 11, [some 26, some 28, some 30, some 32, some 34, some 36, some 38, some 40, some 42, some 44, some 46]), (9, 4, [some 27, none, none, none]), (100, 96, []), (9, 4, [some 29, none, none, none]), (100, 40, []), (9, 4, [some 31, none, none, none]), (100, 7, []), (9, 4, [some 33, none, none, none]), (100, 600, []), (9, 4, [some 35, none, none, none]), (100, 64, []), (9, 4, [some 37, none, none, none]), (100, 800, []), (9, 4, [some 39, none, none, none]), (100, 64, []), (9, 4, [some 41, none, none, none]), (100, 64, []), (9, 4, [some 43, none, none, none]), (100, 64, []), (9, 4, [some 45, none, none, none]), (100, 16, []), (9, 4, [some 47, none, none, none]), (100, 10, []), (4, 3, [some 49, none, none]), (101, 6, [some 50, some 57, some 64, none, none, none]), (3, 4, [some 51, some 53, some 55, none]), (9, 4, [some 52, none, none, none]), (100, 96, []), (9, 4, [some 54, none, none, none]), (100, 40, []), (9, 4, [some 56, none, none, none]), (100, 7, []), (3, 4, [some 58, some 60, some 62, none]), (9, 4, [some 59, none, none, none]), (100, 96, []), (9, 4, [some 61, none, none, none]), (100, 40, []), (9, 4, [some 63, none, none, none]), (100, 7, []), (3, 4, [some 65, some 67, some 69, none]), (9, 4, [some 66, none, none, none]), (100, 96, []), (9, 4, [some 68, none, none, none]), (100, 40, []), (9, 4, [some 70, none, none, none]), (100, 7, []), (3, 4, [none, none, none, none]), (9, 4, [none, none, none, none]), (100, 96, [])]
def S_144 : List SE := [(11, 13, [some 2, some 25, none, none, none, none, none, none, none, none, none, none, some 1]), (100, 12, []), (1, 11, [some 3, some 5, some 7, some 9, some 11, some 13, some 15, some 17, some 19, some 21, some 23]), (9, 4, [some 4, none, none, none]), (100, 96, []), (9, 4, [some 6, none, none, none]), (100, 40, []), (9, 4, [some 8, none, none, none]), (100, 7, []), (9, 4, [some 10, none, none, none]), (100, 600, []), (9, 4, [some 12, none, none, none]), (100, 64, []), (9, 4, [some 14, none, none, none]), (100, 800, []), (9, 4, [some 16, none, none, none]), (100, 64, []), (9, 4, [some 18, none, none, none]), (100, 64, []), (9, 4, [some 20, none, none, none]), (100, 64, []), (9, 4, [some 22, none, none, none]), (100, 16, []), (9, 4, [some 24, none, none, none]), (100, 10, []), (1, 11, [some 26, some 28, some 30, some 32, some 34, some 36, some 38, some 40, some 42, some 44, some 46]), (9, 4, [some 27, none, none, none]), (100, 96, []), (9, 4, [some 29, none, none, none]), (100, 40, []), (9, 4, [some 31, none, none, none]), (100, 7, []), (9, 4, [some 33, none, none, none]), (100, 600, []), (9, 4, [some 35, none, none, none]), (100, 64, []), (9, 4, [some 37, none, none, none]), (100, 800, []), (9, 4, [some 39, none, none, none]), (100, 64, []), (9, 4, [some 41, none, none, none]), (100, 64, []), (9, 4, [some 43, none, none, none]), (100, 64, []), (9, 4, [some 45, none, none, none]), (100, 16, []), (9, 4, [some 47, none, none, none]), (100, 10, []), (4, 3, [some 49, none, none]), (101, 6, [some 50, some 57, some 64, none, none, none]), (3, 4, [some 51, some 53, some 55, none]), (9, 4, [some 52, none, none, none]), (100, 96, []), (9, 4, [some 54, none, none, none]), (100, 40, []), (9, 4, [some 56, none, none, none]), (100, 7, []), (3, 4, [some 58, some 60, some 62, none]), (9, 4, [some 59, none, none, none]), (100, 96, []), (9, 4, [some 61, none, none, none]), (100, 40, []), (9, 4, [some 63, none, none, none]), (100, 7, []), (3, 4, [some 65, some 67, some 69, none]), (9, 4, [some 66, none, none, none]), (100, 96, []), (9, 4, [some 68, none, none, none]), (100, 40, []), (9, 4, [some 70, none, none, none]), (100, 7, []), (3, 4, [none, none, none, none]), (9, 4, [some 73, none, none, none]), (100, 96, [])]
def S_145 : List SE := [(11, 13, [some 2, some 25, none, none, none, none, none, none, none, none, none, none, some 1]), (100, 12, []), (1, 11, [some 3, some 5, some 7, some 9, some 11, some 13, some 15, some 17, some 19, some 21, some 23]), (9, 4, [some 4, none, none, none]), (100, 96, []), (9, 4, [some 6, none, none, none]), (100, 40, []), (9, 4, [some 8, none, none, none]), (100, 7, []), (9, 4, [some 10, none, none, none]), (100, 600, []), (9, 4, [some 12, none, none, none]), (100, 64, []), (9, 4, [some 14, none, none, none]), (100, 800, []), (9, 4, [some 16, none, none, none]), (100, 64, []), (9, 4, [some 18, none, none, none]), (100, 64, []), (9, 4, [some 20, none, none, none]), (100, 64, []), (9, 4, [some 22, none, none, none]), (100, 16, []), (9, 4, [some 24, none, none, none]), (100, 10, []), (1, 11, [some 26, some 28, some 30, some 32, some 34, some 36, some 38, some 40, some 42, some 44, some 46]), (9, 4, [some 27, none, none, none]), (100, 96, []), (9, 4, [some 29, none, none, none]), (100, 40, []), (9, 4, [some 31, none, none, none]), (100, 7, []), (9, 4, [some 33, none, none, none]), (100, 600, []), (9, 4, [some 35, none, none, none]), (100, 64, []), (9, 4, [some 37, none, none, none]), (100, 800, []), (9, 4, [some 39, none, none, none]), (100, 64, []), (9, 4, [some 41, none, none, none]), (100, 64, []), (9, 4, [some 43, none, none, none]), (100, 64, []), (9, 4, [some 45, none, none, none]), (100, 16, []), (9, 4, [some 47, none, none, none]), (100, 10, []), (4, 3, [some 49, none, none]), (101, 6, [some 50, some 57, some 64, none, none, none]), (3, 4, [some 51, some 53, some 55, none]), (9, 4, [some 52, none, none, none]), (100, 96, []), (9, 4, [some 54, none, none, none]), (100, 40, []), (9, 4, [some 56, none, none, none]), (100, 7, []), (3, 4, [some 58, some 60, some 62, none]), (9, 4, [some 59, none, none, none]), (100, 96, []), (9, 4, [some 61, none, none, none]), (100, 40, []), (9, 4, [some 63, none, none, none]), (100, 7, []), (3, 4, [some 65, some 67, some 69, none]), (9, 4, [some 66, none, none, none]), (100, 96, []), (9, 4, [some 68, none, none, none]), (100, 40, []), (9, 4, [some 70, none, none, none]), (100, 7, []), (3, 4, [some 72, none, none, none]), (9, 4, [some 73, none, none, none]), (100, 96, [])]
def S_146 : List SE := [(11, 13, [some 2, some 25, none, none, none, none, none, none, none, none, none, none, some 1]), (100, 12, []), (1, 11, [some 3, some 5, some 7, some 9, some 11, some 13, some 15, some 17, some 19, some 21, some 23]), (9, 4, [some 4, none, none, none]), (100, 96, []), (9, 4, [some 6, none, none, none]), (100, 40, []), (9, 4, [some 8, none, none, none]), (100, 7, []), (9, 4, [some 10, none, none, none]), (100, 600, []), (9, 4, [some 12, none, none, none]), (100, 64, []), (9, 4, [some 14, none, none, none]), (100, 800, []), (9, 4, [some 16, none, none, none]), (100, 64, []), (9, 4, [some 18, none, none, none]), (100, 64, []), (9, 4, [some 20, none, none, none]), (100, 64, []), (9, 4, [some 22, none, none, none]), (100, 16, []), (9, 4, [some 24, none, none, none]), (100, 10, []), (1, 11, [some 26, some 28, some 30, some 32, some 34, some 36, some 38, some 40, some 42, some 44, some 46]), (9, 4, [some 27, none, none, none]), (100, 96, []), (9, 4, [some 29, none, none, none]), (100, 40, []), (9, 4, [some 31, none, none, none]), (100, 7, []), (9, 4, [some 33, none, none, none]), (100, 600, []), (9, 4, [some 35, none, none, none]), (100, 64, []), (9, 4, [some 37, none, none, none]), (100, 800, []), (9, 4, [some 39, none, none, none]), (100, 64, []), (9, 4, [some 41, none, none, none]), (100, 64, []), (9, 4, [some 43, none, none, none]), (100, 64, []), (9, 4, [some 45, none, none, none]), (100, 16, []), (9, 4, [some 47, none, none, none]), (100, 10, []), (4, 3, [some 49, none, none]), (101, 6, [some 50, some 57, some 64, none, none, none]), (3, 4, [some 51, some 53, some 55, none]), (9, 4, [some 52, none, none, none]), (100, 96, []), (9, 4, [some 54, none, none, none]), (100, 40, []), (9, 4, [some 56, none, none, none]), (100, 7, []), (3, 4, [some 58, some 60, some 62, none]), (9, 4, [some 59, none, none, none]), (100, 96, []), (9, 4, [some 61, none, none, none]), (100, 40, []), (9, 4, [some 63, none, none, none]), (100, 7, []), (3, 4, [some 65, some 67, some 69, none]), (9, 4, [some 66, none, none, none]), (100, 96, []), (9, 4, [some 68, none, none, none]), (100, 40, []), (9, 4, [some 70, none, none, none]), (100, 7, []), (3, 4, [some 72, none, none, none]), (9, 4, [some 73, none, none, none]), (100, 96, []), (9, 4, [none, none, none, none])]
def S_147 : List SE := [(11, 13, [some 2, some 25, none, none, none, none, none, none, none, none, none, none, some 1]), (100, 12, []), (1, 11, [some 3, some 5, some 7, some 9, some 11, some 13, some 15, some 17, some 19, some 21, some 23]), (9, 4, [some 4, none, none, none]), (100, 96, []), (9, 4, [some 6, none, none, none]), (100, 40, []), (9, 4, [some 8, none, none, none]), (100, 7, []), (9, 4, [some 10, none, none, none]), (100, 600, []), (9, 4, [some 12, none, none, none]), (100, 64, []), (9, 4, [some 14, none, none, none]), (100, 800, []), (9, 4, [some 16, none, none, none]), (100, 64, []), (9, 4, [some 18, none, none, none]), (100, 64, []), (9, 4, [some 20, none, none, none]), (100, 64, []), (9, 4, [some 22, none, none, none]), (100, 16, []), (9, 4, [some 24, none, none, none]), (100, 10, []), (1, 11, [some 26, some 28, some 30, some 32, some 34, some 36, some 38, some 40, some 42, some 44, some 46]), (9, 4, [some 27, none, none, none]), (100, 96, []), (9, 4, [some 29, none, none, none]), (100, 40, []), (9, 4, [some 31, none, none, none]), (100, 7, []), (9, 4, [some 33, none, none, none]), (100, 600, []), (9, 4, [some 35, none, none, none]), (100, 64, []), (9, 4, [some 37, none, none, none]), (100, 800, []), (9, 4, [some 39, none, none, none]), (100, 64, []), (9, 4, [some 41, none, none, none]), (100, 64, []), (9, 4, [some 43, none, none, none]), (100, 64, []), (9, 4, [some 45, none, none, none]), (100, 16, []), (9, 4, [some 47, none, none, none]), (100, 10, []), (4, 3, [some 49, none, none]), (101, 6, [some 50, some 57, some 64, none, none, none]), (3, 4, [some 51, some 53, some 55, none]), (9, 4, [some 52, none, none, none]), (100, 96, []), (9, 4, [some 54, none, none, none]), (100, 40, []), (9, 4, [some 56, none, none, none]), (100, 7, []), (3, 4, [some 58, some 60, some 62, none]), (9, 4, [some 59, none, none, none]), (100, 96, []), (9, 4, [some 61, none, none, none]), (100, 40, []), (9, 4, [some 63, none, none, none]), (100, 7, []), (3, 4, [some 65, some 67, some 69, none]), (9, 4, [some 66, none, none, none]), (100, 96, []), (9, 4, [some 68, none, none, none]), (100, 40, []), (9, 4, [some 70, none, none, none]), (100, 7, []), (3, 4, [some 72, none, none, none]), (9, 4, [some 73, none, none, none]), (100, 96, []), (9, 4, [none, none, none, none]), (100, 40, [])]
def S_148 : List SE := [(11, 13, [some 2, some 25, none, none, none, none, none, none, none, none, none, none, some 1]), (100, 12, []), (1, 11, [some 3, some 5, some 7, some 9, some 11, some 13, some 15, some 17, some 19, some 21, some 23]), (9, 4, [some 4, none, none, none]), (100, 96, []), (9, 4, [some 6, none, none, none]), (100, 40, []), (9, 4, [some 8, none, none, none]), (100, 7, []), (9, 4, [some 10, none, none, none]), (100, 600, []), (9, 4, [some 12, none, none, none]), (100, 64, []), (9, 4, [some 14, none, none, none]), (100, 800, []), (9, 4, [some 16, none, none, none]), (100, 64, []), (9, 4, [some 18, none, none, none]), (100, 64, []), (9, 4, [some 20, none, none, none]), (100, 64, []), (9, 4, [some 22, none, none, none]), (100, 16, []), (9, 4, [some 24, none, none, none]), (100, 10, []), (1, 11, [some 26, some 28, some 30, some 32, some 34, some 36, some 38, some 40, some 42, some 44, some 46]), (9, 4, [some 27, none, none, none]), (100, 96, []), (9, 4, [some 29, none, none, none]), (100, 40, []), (9, 4, [some 31, none, none, none]), (100, 7, []), (9, 4, [some 33, none, none, none]), (100, 600, []), (9, 4, [some 35, none, none, none]), (100, 64, []), (9, 4, [some 37, none, none, none]), (100, 800, []), (9, 4, [some 39, none, none, none]), (100, 64, []), (9, 4, [some 41, none, none, none]), (100, 64, []), (9, 4, [some 43, none, none, none]), (100, 64, []), (9, 4, [some 45, none, none, none]), (100, 16, []), (9, 4, [some 47, none, none, none]), (100, 10, []), (4, 3, [some 49, none, none]), (101, 6, [some 50, some 57, some 64, none, none, none]), (3, 4, [some 51, some 53, some 55, none]), (9, 4, [some 52, none, none, none]), (100, 96, []), (9, 4, [some 54, none, none, none]), (100, 40, []), (9, 4, [some 56, none, none, none]), (100, 7, []), (3, 4, [some 58, some 60, some 62, none]), (9, 4, [some 59, none, none, none]), (100, 96, []), (9, 4, [some 61, none, none, none]), (100, 40, []), (9, 4, [some 63, none, none, none]), (100, 7, []), (3, 4, [some 65, some 67, some 69, none]), (9, 4, [some 66, none, none, none]), (100, 96, []), (9, 4, [some 68, none, none, none]), (100, 40, []), (9, 4, [some 70, none, none, none]), (100, 7, []), (3, 4, [some 72, none, none, none]), (9, 4, [some 73, none, none, none]), (100, 96, []), (9, 4, [some 75, none, none, none]), (100, 40, [])]
def S_149 : List SE := [(11, 13, [some 2, some 25, none, none, none, none, none, none, none, none, none, none, some 1]), (100, 12, []), (1, 11, [some 3, some 5, some 7, some 9, some 11, some 13, some 15, some 17, some 19, some 21, some 23]), (9, 4, [some 4, none, none, none]), (100, 96, []), (9, 4, [some 6, none, none, none]), (100, 40, []), (9, 4, [some 8, none, none, none]), (100, 7, []), (9, 4, [some 10, none, none, none]), (100, 600, []), (9, 4, [some 12, none, none, none]), (100, 64, []), (9, 4, [some 14, none, none, none]), (100, 800, []), (9, 4, [some 16, none, none, none]), (100, 64, []), (9, 4, [some 18, none, none, none]), (100, 64, []), (9, 4, [some 20, none, none, none]), (100, 64, []), (9, 4, [some 22, none, none, none]), (100, 16, []), (9, 4, [some 24, none, none, none]), (100, 10, []), (1, 11, [some 26, some 28, some 30, some 32, some 34, some 36, some 38, some 40, some 42, some 44, some 46]), (9, 4, [some 27, none, none, none]), (100, 96, []), (9, 4, [some 29, none, none, none]), (100, 40, []), (9, 4, [some 31, none, none, none]), (100, 7, []), (9, 4, [some 33, none, none, none]), (100, 600, []), (9, 4, [some 35, none, none, none]), (100, 64, []), (9, 4, [some 37, none, none, none]), (100, 800, []), (9, 4, [some 39, none, none, none]), (100, 64, []), (9, 4, [some 41, none, none, none]), (100, 64, []), (9, 4, [some 43, none, none, none]), (100, 64, []), (9, 4, [some 45, none, none, none]), (100, 16, []), (9, 4, [some 47, none, none, none]), (100, 10, []), (4, 3, [some 49, none, none]), (101, 6, [some 50, some 57, some 64, none, none, none]), (3, 4, [some 51, some 53, some 55, none]), (9, 4, [some 52, none, none, none]), (100, 96, []), (9, 4, [some 54, none, none, none]), (100, 40, []), (9, 4, [some 56, none, none, none]), (100, 7, []), (3, 4, [some 58, some 60, some 62, none]), (9, 4, [some 59, none, none, none]), (100, 96, []), (9, 4, [some 61, none, none, none]), (100, 40, []), (9, 4, [some 63, none, none, none]), (100, 7, []), (3, 4, [some 65, some 67, some 69, none]), (9, 4, [some 66, none, none, none]), (100, 96, []), (9, 4, [some 68, none, none, none]), (100, 40, []), (9, 4, [some 70, none, none, none]), (100, 7, []), (3, 4, [some 72, some 74, none, none]), (9, 4, [some 73, none, none, none]), (100, 96, []), (9, 4, [some 75, none, none, none]), (100, 40, [])]
def S_150 : List SE := [(11, 13, [some 2, some 25, none, none, none, none, none, none, none, none, none, none, some 1]), (100, 12, []), (1, 11, [some 3, some 5, some 7, some 9, some 11, some 13, some 15, some 17, some 19, some 21, some 23]), (9, 4, [some 4, none, none, none]), (100, 96, []), (9, 4, [some 6, none, none, none]), (100, 40, []), (9, 4, [some 8, none, none, none]), (100, 7, []), (9, 4, [some 10, none, none, none]), (100, 600, []), (9, 4, [some 12, none, none, none]), (100, 64, []), (9, 4, [some 14, none, none, none]), (100, 800, []), (9, 4, [some 16, none, none, none]), (100, 64, []), (9, 4, [some 18, none, none, none]), (100, 64, []), (9, 4, [some 20, none, none, none]), (100, 64, []), (9, 4, [some 22, none, none, none]), (100, 16, []), (9, 4, [some 24, none, none, none]), (100, 10, []), (1, 11, [some 26, some 28, some 30, some 32, some 34, some 36, some 38, some 40, some 42, some 44, some 46]), (9, 4, [some 27, none, none, none]), (100, 96, []), (9, 4, [some 29, none, none, none]), (100, 40, []), (9, 4, [some 31, none, none, none]), (100, 7, []), (9, 4, [some 33, none, none, none]), (100, 600, []), (9, 4, [some 35, none, none, none]), (100, 64, []), (9, 4, [some 37, none, none, none]), (100, 800, []), (9, 4, [some 39, none, none, none]), (100, 64, []), (9, 4, [some 41, none, none, none]), (100, 64, []), (9, 4, [some 43, none, none, none]), (100, 64, []), (9, 4, [some 45, none, none, none]), (100, 16, []), (9, 4, [some 47, none, none, none]), (100, 10, []), (4, 3, [some 49, none, none]), (101, 6, [some 50, some 57, some 64, none, none, none]), (3, 4, [some 51, some 53, some 55, none]), (9, 4, [some 52, none, none, none]), (100, 96, []), (9, 4, [some 54, none, none, none]), (100, 40, []), (9, 4, [some 56, none, none, none]), (100, 7, []), (3, 4, [some 58, some 60, some 62, none]), (9, 4, [some 59, none, none, none]), (100, 96, []), (9, 4, [some 61, none, none, none]), (100, 40, []), (9, 4, [some 63, none, none, none]), (100, 7, []), (3, 4, [some 65, some 67, some 69, none]), (9, 4, [some 66, none, none, none]), (100, 96, []), (9, 4, [some 68, none, none, none]), (100, 40, []), (9, 4, [some 70, none, none, none]), (100, 7, []), (3, 4, [some 72, some 74, none, none]), (9, 4, [some 73, none, none, none]), (100, 96, []), (9, 4, [some 75, none, none, none]), (100, 40, []), (9, 4, [none, none, none, none])]
def S_151 : List SE := [(11, 13, [some 2, some 25, none, none, none, none, none, none, none, none, none, none, some 1]), (100, 12, []), (1, 11, [some 3, some 5, some 7, some 9, some 11, some 13, some 15, some 17, some 19, some 21, some 23]), (9, 4, [some 4, none, none, none]), (100, 96, []), (9, 4, [some 6, none, none, none]), (100, 40, []), (9, 4, [some 8, none, none, none]), (100, 7, []), (9, 4, [some 10, none, none, none]), (100, 600, []), (9, 4, [some 12, none, none, none]), (100, 64, []), (9, 4, [some 14, none, none, none]), (100, 800, []), (9, 4, [some 16, none, none, none]), (100, 64, []), (9, 4, [some 18, none, none, none]), (100, 64, []), (9, 4, [some 20, none, none, none]), (100, 64, []), (9, 4, [some 22, none, none, none]), (100, 16, []), (9, 4, [some 24, none, none, none]), (100, 10, []), (1, 11, [some 26, some 28, some 30, some 32, some 34, some 36, some 38, some 40, some 42, some 44, some 46]), (9, 4, [some 27, none, none, none]), (100, 96, []), (9, 4, [some 29, none, none, none]), (100, 40, []), (9, 4, [some 31, none, none, none]), (100, 7, []), (9, 4, [some 33, none, none, none]), (100, 600, []), (9, 4, [some 35, none, none, none]), (100, 64, []), (9, 4, [some 37, none, none, none]), (100, 800, []), (9, 4, [some 39, none, none, none]), (100, 64, []), (9, 4, [some 41, none, none, none]), (100, 64, []), (9, 4, [some 43, none, none, none]), (100, 64, []), (9, 4, [some 45, none, none, none]), (100, 16, []), (9, 4, [some 47, none, none, none]), (100, 10, []), (4, 3, [some 49, none, none]), (101, 6, [some 50, some 57, some 64, none, none, none]), (3, 4, [some 51, some 53, some 55, none]), (9, 4, [some 52, none, none, none]), (100, 96, []), (9, 4, [some 54, none, none, none]), (100, 40, []), (9, 4, [some 56, none, none, none]), (100, 7, []), (3, 4, [some 58, some 60, some 62, none]), (9, 4, [some 59, none, none, none]), (100, 96, []), (9, 4, [some 61, none, none, none]), (100, 40, []), (9, 4, [some 63, none, none, none]), (100, 7, []), (3, 4, [some 65, some 67, some 69, none]), (9, 4, [some 66, none, none, none]), (100, 96, []), (9, 4, [some 68, none, none, none]), (100, 40, []), (9, 4, [some 70, none, none, none]), (100, 7, []), (3, 4, [some 72, some 74, none, none]), (9, 4, [some 73, none, none, none]), (100, 96, []), (9, 4, [some 75, none, none, none]), (100, 40, []), (9, 4, [none, none, none, none]), (100, 7, [])]
def S_152 : List SE := [(11, 13, [some 2, some 25, none, none, none, none, none, none, none, none, none, none, some 1]), (100, 12, []), (1, 11, [some 3, some 5, some 7, some 9, some 11, some 13, some 15, some 17, some 19, some 21, some 23]), (9, 4, [some 4, none, none, none]), (100, 96, []), (9, 4, [some 6, none, none, none]), (100, 40, []), (9, 4, [some 8, none, none, none]), (100, 7, []), (9, 4, [some 10, none, none, none]), (100, 600, []), (9, 4, [some 12, none, none, none]), (100, 64, []), (9, 4, [some 14, none, none, none]), (100, 800, []), (9, 4, [some 16, none, none, none]), (100, 64, []), (9, 4, [some 18, none, none, none]), (100, 64, []), (9, 4, [some 20, none, none, none]), (100, 64, []), (9, 4, [some 22, none, none, none]), (100, 16, []), (9, 4, [some 24, none, none, none]), (100, 10, []), (1, 11, [some 26, some 28, some 30, some 32, some 34, some 36, some 38, some 40, some 42, some 44, some 46]), (9, 4, [some 27, none, none, none]), (100, 96, []), (9, 4, [some 29, none, none, none]), (100, 40, []), (9, 4, [some 31, none, none, none]), (100, 7, []), (9, 4, [some 33, none, none, none]), (100, 600, []), (9, 4, [some 35, none, none, none]), (100, 64, []), (9, 4, [some 37, none, none, none]), (100, 800, []), (9, 4, [some 39, none, none, none]), (100, 64, []), (9, 4, [some 41, none, none, none]), (100, 64, []), (9, 4, [some 43, none, none, none]), (100, 64, []), (9, 4, [some 45, none, none, none]), (100, 16, []), (9, 4, [some 47, none, none, none]), (100, 10, []), (4, 3, [some 49, none, none]), (101, 6, [some 50, some 57, some 64, none, none, none]), (3, 4, [some 51, some 53, some 55, none]), (9, 4, [some 52, none, none, none]), (100, 96, []), (9, 4, [some 54, none, none, none]), (100, 40, []), (9, 4, [some 56, none, none, none]), (100, 7, []), (3, 4, [some 58, some 60, some 62, none]), (9, 4, [some 59, none, none, none]), (100, 96, []), (9, 4, [some 61, none, none, none]), (100, 40, []), (9, 4, [some 63, none, none, none]), (100, 7, []), (3, 4, [some 65, some 67, some 69, none]), (9, 4, [some 66, none, none, none]), (100, 96, []), (9, 4, [some 68, none, none, none]), (100, 40, []), (9, 4, [some 70, none, none, none]), (100, 7, []), (3, 4, [some 72, some 74, none, none]), (9, 4, [some 73, none, none, none]), (100, 96, []), (9, 4, [some 75, none, none, none]), (100, 40, []), (9, 4, [some 77, none, none, none]), (100, 7, [])]
def S_153 : List SE := [(11, 13, [some 2, some 25, none, none, none, none, none, none, none, none, none, none, some 1]), (100, 12, []), (1, 11, [some 3, some 5, some 7, some 9, some 11, some 13, some 15, some 17, some 19, some 21, some 23]), (9, 4, [some 4, none, none, none]), (100, 96, []), (9, 4, [some 6, none, none, none]), (100, 40, []), (9, 4, [some 8, none, none, none]), (100, 7, []), (9, 4, [some 10, none, none, none]), (100, 600, []), (9, 4, [some 12, none, none, none]), (100, 64, []), (9, 4, [some 14, none, none, none]), (100, 800, []), (9, 4, [some 16, none, none, none]), (100, 64, []), (9, 4, [some 18, none, none, none]), (100, 64, []), (9, 4, [some 20, none, none, none]), (100, 64, []), (9, 4, [some 22, none, none, none]), (100, 16, []), (9, 4, [some 24, none, none, none]), (100, 10, []), (1, 11, [some 26, some 28, some 30, some 32, some 34, some 36, some 38, some 40, some 42, some 44, some 46]), (9, 4, [some 27, none, none, none]), (100, 96, []), (9, 4, [some 29, none, none, none]), (100, 40, []), (9, 4, [some 31, none, none, none]), (100, 7, []), (9, 4, [some 33, none, none, none]), (100, 600, []), (9, 4, [some 35, none, none, none]), (100, 64, []), (9, 4, [some 37, none, none, none]), (100, 800, []), (9, 4, [some 39, none, none, none]), (100, 64, []), (9, 4, [some 41, none, none, none]), (100, 64, []), (9, 4, [some 43, none, none, none]), (100, 64, []), (9, 4, [some 45, none, none, none]), (100, 16, []), (9, 4, [some 47, none, none, none]), (100, 10, []), (4, 3, [some 49, none, none]), (101, 6, [some 50, some 57, some 64, none, none, none]), (3, 4, [some 51, some 53, some 55, none]), (9, 4, [some 52, none, none, none]), (100, 96, []), (9, 4, [some 54, none, none, none]), (100, 40, []), (9, 4, [some 56, none, none, none]), (100, 7, []), (3, 4, [some 58, some 60, some 62, none]), (9, 4, [some 59, none, none, none]), (100, 96, []), (9, 4, [some 61, none, none, none]), (100, 40, []), (9, 4, [some 63, none, none, none]), (100, 7, []), (3, 4, [some 65, some 67, some 69, none]), (9, 4, [some 66, none, none, none]), (100, 96, []), (9, 4, [some 68, none, none, none]), (100, 40, []), (9, 4, [some 70, none, none, none]), (100, 7, []), (3, 4, [some 72, some 74, some 76, none]), (9, 4, [some 73, none, none, none]), (100, 96, []), (9, 4, [some 75, none, none, none]), (100, 40, []), (9, 4, [some 77, none, none, none]), (100, 7, [])]
def S_154 : List SE := [(11, 13, [some 2, some 25, none, none, none, none, none, none, none, none, none, none, some 1]), (100, 12, []), (1, 11, [some 3, some 5, some 7, some 9, some 11, some 13, some 15, some 17, some 19, some 21, some 23]), (9, 4, [some 4, none, none, none]), (100, 96, []), (9, 4, [some 6, none, none, none]), (100, 40, []), (9, 4, [some 8, none, none, none]), (100, 7, []), (9, 4, [some 10, none, none, none]), (100, 600, []), (9, 4, [some 12, none, none, none]), (100, 64, []), (9, 4, [some 14, none, none, none]), (100, 800, []), (9, 4, [some 16, none, none, none]), (100, 64, []), (9, 4, [some 18, none, none, none]), (100, 64, []), (9, 4, [some 20, none, none, none]), (100, 64, []), (9, 4, [some 22, none, none, none]), (100, 16, []), (9, 4, [some 24, none, none, none]), (100, 10, []), (1, 11, [some 26, some 28, some 30, some 32, some 34, some 36, some 38, some 40, some 42, some 44, some 46]), (9, 4, [some 27, none, none, none]), (100, 96, []), (9, 4, [some 29, none, none, none]), (100, 40, []), (9, 4, [some 31, none, none, none]), (100, 7, []), (9, 4, [some 33, none, none, none]), (100, 600, []), (9, 4, [some 35, none, none, none]), (100, 64, []), (9, 4, [some 37, none, none, none]), (100, 800, []), (9, 4, [some 39, none, none, none]), (100, 64, []), (9, 4, [some 41, none, none, none]), (100, 64, []), (9, 4, [some 43, none, none, none]), (100, 64, []), (9, 4, [some 45, none, none, none]), (100, 16, []), (9, 4, [some 47, none, none, none]), (100, 10, []), (4, 3, [some 49, none, none]), (101, 6, [some 50, some 57, some 64, some 71, none, none]), (3, 4, [some 51, some 53, some 55, none]), (9, 4, [some 52, none, none, none]), (100, 96, []), (9, 4, [some 54, none, none, none]), (100, 40, []), (9, 4, [some 56, none, none, none]), (100, 7, []), (3, 4, [some 58, some 60, some 62, none]), (9, 4, [some 59, none, none, none]), (100, 96, []), (9, 4, [some 61, none, none, none]), (100, 40, []), (9, 4, [some 63, none, none, none]), (100, 7, []), (3, 4, [some 65, some 67, some 69, none]), (9, 4, [some 66, none, none, none]), (100, 96, []), (9, 4, [some 68, none, none, none]), (100, 40, []), (9, 4, [some 70, none, none, none]), (100, 7, []), (3, 4, [some 72, some 74, some 76, none]), (9, 4, [some 73, none, none, none]), (100, 96, []), (9, 4, [some 75, none, none, none]), (100, 40, []), (9, 4, [some 77, none, none, none]), (100, 7, [])]
def S_155 : List SE := [(11, 13, [some 2, some 25, none, none, none, none, none, none, none, none, none, none, some 1]), (100, 12, []), (1, 11, [some 3, some 5, some 7, some 9, some 11, some 13, some 15, some 17, some 19, some 21, some 23]), (9, 4, [some 4, none, none, none]), (100, 96, []), (9, 4, [some 6, none, none, none]), (100, 40, []), (9, 4, [some 8, none, none, none]), (100, 7, []), (9, 4, [some 10, none, none, none]), (100, 600, []), (9, 4, [some 12, none, none, none]), (100, 64, []), (9, 4, [some 14, none, none, none]), (100, 800, []), (9, 4, [some 16, none, none, none]), (100, 64, []), (9, 4, [some 18, none, none, none]), (100, 64, []), (9, 4, [some 20, none, none, none]), (100, 64, []), (9, 4, [some 22, none, none, none]), (100, 16, []), (9, 4, [some 24, none, none, none]), (100, 10, []), (1, 11, [some 26, some 28, some 30, some 32, some 34, some 36, some 38, some 40, some 42, some 44, some 46]), (9, 4, [some 27, none, none, none]), (100, 96, []), (9, 4, [some 29, none, none, none]), (100, 40, []), (9, 4, [some 31, none, none, none]), (100, 7, []), (9, 4, [some 33, none, none, none]), (100, 600, []), (9, 4, [some 35, none, none, none]), (100, 64, []), (9, 4, [some 37, none, none, none]), (100, 800, []), (9, 4, [some 39, none, none, none]), (100, 64, []), (9, 4, [some 41, none, none, none]), (100, 64, []), (9, 4, [some 43, none, none, none]), (100, 64, []), (9, 4, [some 45, none, none, none]), (100, 16, []), (9, 4, [some 47, none, none, none]), (100, 10, []), (4, 3, [some 49, none, none]), (101, 6, [some 50, some 57, some 64, some 71, none, none]), (3, 4, [some 51, some 53, some 55, none]), (9, 4, [some 52, none, none, none]), (100, 96, []), (9, 4, [some 54, none, none, none]), (100, 40, []), (9, 4, [some 56, none, none, none]), (100, 7, []), (3, 4, [some 58, some 60, some 62, none]), (9, 4, [some 59, none, none, none]), (100, 96, []), (9, 4, [some 61, none, none, none]), (100, 40, []), (9, 4, [some 63, none, none, none]), (100, 7, []), (3, 4, [some 65, some 67, some 69, none]), (9, 4, [some 66, none, none, none]), (100, 96, []), (9, 4, [some 68, none, none, none]), (100, 40, []), (9, 4, [some 70, none, none, none]), (100, 7, []), (3, 4, [some 72, some 74, some 76, none]), (9, 4, [some 73, none, none, none]), (100, 96, []), (9, 4, [some 75, none, none, none]), (100, 40, []), (9, 4, [some 77, none, none, none]), (100, 7, []), (3, 4, [none, none, none, none])]
def S_156 : List SE := [(11, 13, [some 2, some 25, none, none, none, none, none, none, none, none, none, none, some 1]), (100, 12, []), (1, 11, [some 3, some 5, some 7, some 9, some 11, some 13, some 15, some 17, some 19, some 21, some 23]), (9, 4, [some 4, none, none, none]), (100, 96, []), (9, 4, [some 6, none, none, none]), (100, 40, []), (9, 4, [some 8, none, none, none]), (100, 7, []), (9, 4, [some 10, none, none, none]), (100, 600, []), (9, 4, [some 12, none, none, none]), (100, 64, []), (9, 4, [some 14, none, none, none]), (100, 800, []), (9, 4, [some 16, none, none, none]), (100, 64, []), (9, 4, [some 18, none, none, none]), (100, 64, []), (9, 4, [some 20, none, none, none]), (100, 64, []), (9, 4, [some 22, none, none, none]), (100, 16, []), (9, 4, [some 24, none, none, none]), (100, 10, []), (1, 11, [some 26, some 28, some 30, some 32, some 34, some 36, some 38, some 40, some 42, some 44, some 46]), (9, 4, [some 27, none, none, none]), (100, 96, []), (9, 4, [some 29, none, none, none]), (100, 40, []), (9, 4, [some 31, none, none, none]), (100, 7, []), (9, 4, [some 33, none, none, none]), (100, 600, []), (9, 4, [some 35, none, none, none]), (100, 64, []), (9, 4, [some 37, none, none, none]), (100, 800, []), (9, 4, [some 39, none, none, none]), (100, 64, []), (9, 4, [some 41, none, none, none]), (100, 64, []), (9, 4, [some 43, none, none, none]), (100, 64, []), (9, 4, [some 45, none, none, none]), (100, 16, []), (9, 4, [some 47, none, none, none]), (100, 10, []), (4, 3, [some 49, none, none]), (101, 6, [some 50, some 57, some 64, some 71, none, none]), (3, 4, [some 51, some 53, some 55, none]), (9, 4, [some 52, none, none, none]), (100, 96, []), (9, 4, [some 54, none, none, none]), (100, 40, []), (9, 4, [some 56, none, none, none]), (100, 7, []), (3, 4, [some 58, some 60, some 62, none]), (9, 4, [some 59, none, none, none]), (100, 96, []), (9, 4, [some 61, none, none, none]), (100, 40, []), (9, 4, [some 63, none, none, none]), (100, 7, []), (3, 4, [some 65, some 67, some 69, none]), (9, 4, [some 66, none, none, none]), (100, 96, []), (9, 4, [some 68, none, none, none]), (100, 40, []), (9, 4, [some 70, none, none, none]), (100, 7, []), (3, 4, [some 72, some 74, some 76, none]), (9, 4, [some 73, none, none, none]), (100, 96, []), (9, 4, [some 75, none, none, none]), (100, 40, []), (9, 4, [some 77, none, none, none]), (100, 7, []), (3, 4, [none, none, none, none]), (9, 4, [none, none, none, none])]
def S_157 : List SE := [(11, 13, [some 2, some 25, none, none, none, none, none, none, none, none, none, none, some 1]), (100, 12, []), (1, 11, [some 3, some 5, some 7, some 9, some 11, some 13, some 15, some 17, some 19, some 21, some 23]), (9, 4, [some 4, none, none, none]), (100, 96, []), (9, 4, [some 6, none, none, none]), (100, 40, []), (9, 4, [some 8, none, none, none]), (100, 7, []), (9, 4, [some 10, none, none, none]), (100, 600, []), (9, 4, [some 12, none, none, none]), (100, 64, []), (9, 4, [some 14, none, none, none]), (100, 800, []), (9, 4, [some 16, none, none, none]), (100, 64, []), (9, 4, [some 18, none, none, none]), (100, 64, []), (9, 4, [some 20, none, none, none]), (100, 64, []), (9, 4, [some 22, none, none, none]), (100, 16, []), (9, 4, [some 24, none, none, none]), (100, 10, []), (1, 11, [some 26, some 28, some 30, some 32, some 34, some 36, some 38, some 40, some 42, some 44, some 46]), (9, 4, [some 27, none, none, none]), (100, 96, []), (9, 4, [some 29, none, none, none]), (100, 40, []), (9, 4, [some 31, none, none, none]), (100, 7, []), (9, 4, [some 33, none, none, none]), (100, 600, []), (9, 4, [some 35, none, none, none]), (100, 64, []), (9, 4, [some 37, none, none, none]), (100, 800, []), (9, 4, [some 39, none, none, none]), (100, 64, []), (9, 4, [some 41, none, none, none]), (100, 64, []), (9, 4, [some 43, none, none, none]), (100, 64, []), (9, 4, [some 45, none, none, none]), (100, 16, []), (9, 4, [some 47, none, none, none]), (100, 10, []), (4, 3, [some 49, none, none]), (101, 6, [some 50, some 57, some 64, some 71, none, none]), (3, 4, [some 51, some 53, some 55, none]), (9, 4, [some 52, none, none, none]), (100, 96, []), (9, 4, [some 54, none, none, none]), (100, 40, []), (9, 4, [some 56, none, none, none]), (100, 7, []), (3, 4, [some 58, some 60, some 62, none]), (9, 4, [some 59, none, none, none]), (100, 96, []), (9, 4, [some 61, none, none, none]), (100, 40, []), (9, 4, [some 63, none, none, none]), (100, 7, []), (3, 4, [some 65, some 67, some 69, none]), (9, 4, [some 66, none, none, none]), (100, 96, []), (9, 4, [some 68, none, none, none]), (100, 40, []), (9, 4, [some 70, none, none, none]), (100, 7, []), (3, 4, [some 72, some 74, some 76, none]), (9, 4, [some 73, none, none, none]), (100, 96, []), (9, 4, [some 75, none, none, none]), (100, 40, []), (9, 4, [some 77, none, none, none]), (100, 7, []), (3, 4, [none, none, none, none]), (9, 4, [none, none, none, none]), (100, 96, [])]
def S_158 : List SE := [(11, 13, [some 2, some 25, none, none, none, none, none, none, none, none, none, none, some 1]), (100, 12, []), (1, 11, [some 3, some 5, some 7, some 9, some 11, some 13, some 15, some 17, some 19, some 21, some 23]), (9, 4, [some 4, none, none, none]), (100, 96, []), (9, 4, [some 6, none, none, none]), (100, 40, []), (9, 4, [some 8, none, none, none]), (100, 7, []), (9, 4, [some 10, none, none, none]), (100, 600, []), (9, 4, [some 12, none, none, none]), (100, 64, []), (9, 4, [some 14, none, none, none]), (100, 800, []), (9, 4, [some 16, none, none, none]), (100, 64, []), (9, 4, [some 18, none, none, none]), (100, 64, []), (9, 4, [some 20, none, none, none]), (100, 64, []), (9, 4, [some 22, none, none, none]), (100, 16, []), (9, 4, [some 24, none, none, none]), (100, 10, []), (1, 11, [some 26, some 28, some 30, some 32, some 34, some 36, some 38, some 40, some 42, some 44, some 46]), (9, 4, [some 27, none, none, none]), (100, 96, []), (9, 4, [some 29, none, none, none]), (100, 40, []), (9, 4, [some 31, none, none, none]), (100, 7, []), (9, 4, [some 33, none, none, none]), (100, 600, []), (9, 4, [some 35, none, none, none]), (100, 64, []), (9, 4, [some 37, none, none, none]), (100, 800, []), (9, 4, [some 39, none, none, none]), (100, 64, []), (9, 4, [some 41, none, none, none]), (100, 64, []), (9, 4, [some 43, none, none, none]), (100, 64, []), (9, 4, [some 45, none, none, none]), (100, 16, []), (9, 4, [some 47, none, none, none]), (100, 10, []), (4, 3, [some 49, none, none]), (101, 6, [some 50, some 57, some 64, some 71, none, none]), (3, 4, [some 51, some 53, some 55, none]), (9, 4, [some 52, none, none, none]), (100, 96, []), (9, 4, [some 54, none, none, none]), (100, 40, []), (9, 4, [some 56, none, none, none]), (100, 7, []), (3, 4, [some 58, some 60, some 62, none]), (9, 4, [some 59, none, none, none]), (100, 96, []), (9, 4, [some 61, none, none, none]), (100, 40, []), (9, 4, [some 63, none, none, none]), (100, 7, []), (3, 4, [some 65, some 67, some 69, none]), (9, 4, [some 66, none, none, none]), (100, 96, []), (9, 4, [some 68, none, none, none]), (100, 40, []), (9, 4, [some 70, none, none, none]), (100, 7, []), (3, 4, [some 72, some 74, some 76, none]), (9, 4, [some 73, none, none, none]), (100, 96, []), (9, 4, [some 75, none, none, none]), (100, 40, []), (9, 4, [some 77, none, none, none]), (100, 7, []), (3, 4, [none, none, none, none]), (9, 4, [some 80, none, none, none]), (100, 96, [])]
def S_159 : List SE := [(11, 13, [some 2, some 25, none, none, none, none, none, none, none, none, none, none, some 1]), (100, 12, []), (1, 11, [some 3, some 5, some 7, some 9, some 11, some 13, some 15, some 17, some 19, some 21, some 23]), (9, 4, [some 4, none, none, none]), (100, 96, []), (9, 4, [some 6, none, none, none]), (100, 40, []), (9, 4, [some 8, none, none, none]), (100, 7, []), (9, 4, [some 10, none, none, none]), (100, 600, []), (9, 4, [some 12, none, none, none]), (100, 64, []), (9, 4, [some 14, none, none, none]), (100, 800, []), (9, 4, [some 16, none, none, none]), (100, 64, []), (9, 4, [some 18, none, none, none]), (100, 64, []), (9, 4, [some 20, none, none, none]), (100, 64, []), (9, 4, [some 22, none, none, none]), (100, 16, []), (9, 4, [some 24, none, none, none]), (100, 10, []), (1, 11, [some 26, some 28, some 30, some 32, some 34, some 36, some 38, some 40, some 42, some 44, some 46]), (9, 4, [some 27, none, none, none]), (100, 96, []), (9, 4, [some 29, none, none, none]), (100, 40, []), (9, 4, [some 31, none, none, none]), (100, 7, []), (9, 4, [some 33, none, none, none]), (100, 600, []), (9, 4, [some 35, none, none, none]), (100, 64, []), (9, 4, [some 37, none, none, none]), (100, 800, []), (9, 4, [some 39, none, none, none]), (100, 64, []), (9, 4, [some 41, none, none, none]), (100, 64, []), (9, 4, [some 43, none, none, none]), (100, 64, []), (9, 4, [some 45, none, none, none]), (100, 16, []), (9, 4, [some 47, none, none, none]), (100, 10, []), (4, 3, [some 49, none, none]), (101, 6, [some 50, some 57, some 64, some 71, none, none]), (3, 4, [some 51, some 53, some 55, none]), (9, 4, [some 52, none, none, none]), (100, 96, []), (9, 4, [some 54, none, none, none]), (100, 40, []), (9, 4, [some 56, none, none, none]), (100, 7, []), (3, 4, [some 58, some 60, some 62, none]), (9, 4, [some 59, none, none, none]), (100, 96, []), (9, 4, [some 61, none, none, none]), (100, 40, []), (9, 4, [some 63, none, none, none]), (100, 7, []), (3, 4, [some 65, some 67, some 69, none]), (9, 4, [some 66, none, none, none]), (100, 96, []), (9, 4, [some 68, none, none, none]), (100, 40, []), (9, 4, [some 70, none, none, none]), (100, 7, []), (3, 4, [some 72, some 74, some 76, none]), (9, 4, [some 73, none, none, none]), (100, 96, []), (9, 4, [some 75, none, none, none]), (100, 40, []), (9, 4, [some 77, none, none, none]), (100, 7, []), (3, 4, [some 79, none, none, none]), (9, 4, [some 80, none, none, none]), (100, 96, [])]
def S_160 : List SE := [(11, 13, [some 2, some 25, none, none, none, none, none, none, none, none, none, none, some 1]), (100, 12, []), (1, 11, [some 3, some 5, some 7, some 9, some 11, some 13, some 15, some 17, some 19, some 21, some 23]), (9, 4, [some 4, none, none, none]), (100, 96, []), (9, 4, [some 6, none, none, none]), (100, 40, []), (9, 4, [some 8, none, none, none]), (100, 7, []), (9, 4, [some 10, none, none, none]), (100, 600, []), (9, 4, [some 12, none, none, none]), (100, 64, []), (9, 4, [some 14, none, none, none]), (100, 800, []), (9, 4, [some 16, none, none, none]), (100, 64, []), (9, 4, [some 18, none, none, none]), (100, 64, []), (9, 4, [some 20, none, none, none]), (100, 64, []), (9, 4, [some 22, none, none, none]), (100, 16, []), (9, 4, [some 24, none, none, none]), (100, 10, []), (1, 11, [some 26, some 28, some 30, some 32, some 34, some 36, some 38, some 40, some 42, some 44, some 46]), (9, 4, [some 27, none, none, none]), (100, 96, []), (9, 4, [some 29, none, none, none]), (100, 40, []), (9, 4, [some 31, none, none, none]), (100, 7, []), (9, 4, [some 33, none, none, none]), (100, 600, []), (9, 4, [some 35, none, none, none]), (100, 64, []), (9, 4, [some 37, none, none, none]), (100, 800, []), (9, 4, [some 39, none, none, none]), (100, 64, []), (9, 4, [some 41, none, none, none]), (100, 64, []), (9, 4, [some 43, none, none, none]), (100, 64, []), (9, 4, [some 45, none, none, none]), (100, 16, []), (9, 4, [some 47, none, none, none]), (100, 10, []), (4, 3, [some 49, none, none]), (101, 6, [some 50, some 57, some 64, some 71, none, none]), (3, 4, [some 51, some 53, some 55, none]), (9, 4, [some 52, none, none, none]), (100, 96, []), (9, 4, [some 54, none, none, none]), (100, 40, []), (9, 4, [some 56, none, none, none]), (100, 7, []), (3, 4, [some 58, some 60, some 62, none]), (9, 4, [some 59, none, none, none]), (100, 96, []), (9, 4, [some 61, none, none, none]), (100, 40, []), (9, 4, [some 63, none, none, none]), (100, 7, []), (3, 4, [some 65, some 67, some 69, none]), (9, 4, [some 66, none, none, none]), (100, 96, []), (9, 4, [some 68, none, none, none]), (100, 40, []), (9, 4, [some 70, none, none, none]), (100, 7, []), (3, 4, [some 72, some 74, some 76, none]), (9, 4, [some 73, none, none, none]), (100, 96, []), (9, 4, [some 75, none, none, none]), (100, 40, []), (9, 4, [some 77, none, none, none]), (100, 7, []), (3, 4, [some 79, none, none, none]), (9, 4, [some 80, none, none, none]), (100, 96, []), (9, 4, [none, none, none, none])]
def S_161 : List SE := [(11, 13, [some 2, some 25, none, none, none, none, none, none, none, none, none, none, some 1]), (100, 12, []), (1, 11, [some 3, some 5, some 7, some 9, some 11, some 13, some 15, some 17, some 19, some 21, some 23]), (9, 4, [some 4, none, none, none]), (100, 96, []), (9, 4, [some 6, none, none, none]), (100, 40, []), (9, 4, [some 8, none, none, none]), (100, 7, []), (9, 4, [some 10, none, none, none]), (100, 600, []), (9, 4, [some 12, none, none, none]), (100, 64, []), (9, 4, [some 14, none, none, none]), (100, 800, []), (9, 4, [some 16, none, none, none]), (100, 64, []), (9, 4, [some 18, none, none, none]), (100, 64, []), (9, 4, [some 20, none, none, none]), (100, 64, []), (9, 4, [some 22, none, none, none]), (100, 16, []), (9, 4, [some 24, none, none, none]), (100, 10, []), (1, 11, [some 26, some 28, some 30, some 32, some 34, some 36, some 38, some 40, some 42, some 44, some 46]), (9, 4, [some 27, none, none, none]), (100, 96, []), (9, 4, [some 29, none, none, none]), (100, 40, []), (9, 4, [some 31, none, none, none]), (100, 7, []), (9, 4, [some 33, none, none, none]), (100, 600, []), (9, 4, [some 35, none, none, none]), (100, 64, []), (9, 4, [some 37, none, none, none]), (100, 800, []), (9, 4, [some 39, none, none, none]), (100, 64, []), (9, 4, [some 41, none, none, none]), (100, 64, []), (9, 4, [some 43, none, none, none]), (100, 64, []), (9, 4, [some 45, none, none, none]), (100, 16, []), (9, 4, [some 47, none, none, none]), (100, 10, []), (4, 3, [some 49, none, none]), (101, 6, [some 50, some 57, some 64, some 71, none, none]), (3, 4, [some 51, some 53, some 55, none]), (9, 4, [some 52, none, none, none]), (100, 96, []), (9, 4, [some 54, none, none, none]), (100, 40, []), (9, 4, [some 56, none, none, none]), (100, 7, []), (3, 4, [some 58, some 60, some 62, none]), (9, 4, [some 59, none, none, none]), (100, 96, []), (9, 4, [some 61, none, none, none]), (100, 40, []), (9, 4, [some 63, none, none, none]), (100, 7, []), (3, 4, [some 65, some 67, some 69, none]), (9, 4, [some 66, none, none, none]), (100, 96, []), (9, 4, [some 68, none, none, none]), (100, 40, []), (9, 4, [some 70, none, none, none]), (100, 7, []), (3, 4, [some 72, some 74, some 76, none]), (9, 4, [some 73, none, none, none]), (100, 96, []), (9, 4, [some 75, none, none, none]), (100, 40, []), (9, 4, [some 77, none, none, none]), (100, 7, []), (3, 4, [some 79, none, none, none]), (9, 4, [some 80, none, none, none]), (100, 96, []), (9, 4, [none, none, none, none]), (100, 40, [])]
def S_162 : List SE := [(11, 13, [some 2, some 25, none, none, none, none, none, none, none, none, none, none, some 1]), (100, 12, []), (1, 11, [some 3, some 5, some 7, some 9, some 11, some 13, some 15, some 17, some 19, some 21, some 23]), (9, 4, [some 4, none, none, none]), (100, 96, []), (9, 4, [some 6, none, none, none]), (100, 40, []), (9, 4, [some 8, none, none, none]), (100, 7, []), (9, 4, [some 10, none, none, none]), (100, 600, []), (9, 4, [some 12, none, none, none]), (100, 64, []), (9, 4, [some 14, none, none, none]), (100, 800, []), (9, 4, [some 16, none, none, none]), (100, 64, []), (9, 4, [some 18, none, none, none]), (100, 64, []), (9, 4, [some 20, none, none, none]), (100, 64, []), (9, 4, [some 22, none, none, none]), (100, 16, []), (9, 4, [some 24, none, none, none]), (100, 10, []), (1, 11, [some 26, some 28, some 30, some 32, some 34, some 36, some 38, some 40, some 42, some 44, some 46]), (9, 4, [some 27, none, none, none]), (100, 96, []), (9, 4, [some 29, none, none, none]), (100, 40, []), (9, 4, [some 31, none, none, none]), (100, 7, []), (9, 4, [some 33, none, none, none]), (100, 600, []), (9, 4, [some 35, none, none, none]), (100, 64, []), (9, 4, [some 37, none, none, none]), (100, 800, []), (9, 4, [some 39, none, none, none]), (100, 64, []), (9, 4, [some 41, none, none, none]), (100, 64, []), (9, 4, [some 43, none, none, none]), (100, 64, []), (9, 4, [some 45, none, none, none]), (100, 16, []), (9, 4, [some 47, none, none, none]), (100, 10, []), (4, 3, [some 49, none, none]), (101, 6, [some 50, some 57, some 64, some 71, none, none]), (3, 4, [some 51, some 53, some 55, none]), (9, 4, [some 52, none, none, none]), (100, 96, []), (9, 4, [some 54, none, none, none]), (100, 40, []), (9, 4, [some 56, none, none, none]), (100, 7, []), (3, 4, [some 58, some 60, some 62, none]), (9, 4, [some 59, none, none, none]), (100, 96, []), (9, 4, [some 61, none, none, none]), (100, 40, []), (9, 4, [some 63, none, none, none]), (100, 7, []), (3, 4, [some 65, some 67, some 69, none]), (9, 4, [some 66, none, none, none]), (100, 96, []), (9, 4, [some 68, none, none, none]), (100, 40, []), (9, 4, [some 70, none, none, none]), (100, 7, []), (3, 4, [some 72, some 74, some 76, none]), (9, 4, [some 73, none, none, none]), (100, 96, []), (9, 4, [some 75, none, none, none]), (100, 40, []), (9, 4, [some 77, none, none, none]), (100, 7, []), (3, 4, [some 79, none, none, none]), (9, 4, [some 80, none, none, none]), (100, 96, []), (9, 4, [some 82, none, none, none]), (100, 40, [])]
def S_163 : List SE := [(11, 13, [some 2, some 25, none, none, none, none, none, none, none, none, none, none, some 1]), (100, 12, []), (1, 11, [some 3, some 5, some 7, some 9, some 11, some 13, some 15, some 17, some 19, some 21, some 23]), (9, 4, [some 4, none, none, none]), (100, 96, []), (9, 4, [some 6, none, none, none]), (100, 40, []), (9, 4, [some 8, none, none, none]), (100, 7, []), (9, 4, [some 10, none, none, none]), (100, 600, []), (9, 4, [some 12, none, none, none]), (100, 64, []), (9, 4, [some 14, none, none, none]), (100, 800, []), (9, 4, [some 16, none, none, none]), (100, 64, []), (9, 4, [some 18, none, none, none]), (100, 64, []), (9, 4, [some 20, none, none, none]), (100, 64, []), (9, 4, [some 22, none, none, none]), (100, 16, []), (9, 4, [some 24, none, none, none]), (100, 10, []), (1, 11, [some 26, some 28, some 30, some 32, some 34, some 36, some 38, some 40, some 42, some 44, some 46]), (9, 4, [some 27, none, none, none]), (100, 96, []), (9, 4, [some 29, none, none, none]), (100, 40, []), (9, 4, [some 31, none, none, none]), (100, 7, []), (9, 4, [some 33, none, none, none]), (100, 600, []), (9, 4, [some 35, none, none, none]), (100, 64, []), (9, 4, [some 37, none, none, none]), (100, 800, []), (9, 4, [some 39, none, none, none]), (100, 64, []), (9, 4, [some 41, none, none, none]), (100, 64, []), (9, 4, [some 43, none, none, none]), (100, 64, []), (9, 4, [some 45, none, none, none]), (100, 16, []), (9, 4, [some 47, none, none, none]), (100, 10, []), (4, 3, [some 49, none, none]), (101, 6, [some 50, some 57, some 64, some 71, none, none]), (3, 4, [some 51, some 53, some 55, none]), (9, 4, [some 52, none, none, none]), (100, 96, []), (9, 4, [some 54, none, none, none]), (100, 40, []), (9, 4, [some 56, none, none, none]), (100, 7, []), (3, 4, [some 58, some 60, some 62, none]), (9, 4, [some 59, none, none, none]), (100, 96, []), (9, 4, [some 61, none, none, none]), (100, 40, []), (9, 4, [some 63, none, none, none]), (100, 7, []), (3, 4, [some 65, some 67, some 69, none]), (9, 4, [some 66, none, none, none]), (100, 96, []), (9, 4, [some 68, none, none, none]), (100, 40, []), (9, 4, [some 70, none, none, none]), (100, 7, []), (3, 4, [some 72, some 74, some 76, none]), (9, 4, [some 73, none, none, none]), (100, 96, []), (9, 4, [some 75, none, none, none]), (100, 40, []), (9, 4, [some 77, none, none, none]), (100, 7, []), (3, 4, [some 79, some 81, none, none]), (9, 4, [some 80, none, none, none]), (100, 96, []), (9, 4, [some 82, none, none, none]), (100, 40, [])]
def S_164 : List SE := [(11, 13, [some 2, some 25, none, none, none, none, none, none, none, none, none, none, some 1]), (100, 12, []), (1, 11, [some 3, some 5, some 7, some 9, some 11, some 13, some 15, some 17, some 19, some 21, some 23]), (9, 4, [some 4, none, none, none]), (100, 96, []), (9, 4, [some 6, none, none, none]), (100, 40, []), (9, 4, [some 8, none, none, none]), (100, 7, []), (9, 4, [some 10, none, none, none]), (100, 600, []), (9, 4, [some 12, none, none, none]), (100, 64, []), (9, 4, [some 14, none, none, none]), (100, 800, []), (9, 4, [some 16, none, none, none]), (100, 64, []), (9, 4, [some 18, none, none, none]), (100, 64, []), (9, 4, [some 20, none, none, none]), (100, 64, []), (9, 4, [some 22, none, none, none]), (100, 16, []), (9, 4, [some 24, none, none, none]), (100, 10, []), (1, 11, [some 26, some 28, some 30, some 32, some 34, some 36, some 38, some 40, some 42, some 44, some 46]), (9, 4, [some 27, none, none, none]), (100, 96, []), (9, 4, [some 29, none, none, none]), (100, 40, []), (9, 4, [some 31, none, none, none]), (100, 7, []), (9, 4, [some 33, none, none, none]), (100, 600, []), (9, 4, [some 35, none, none, none]), (100, 64, []), (9, 4, [some 37, none, none, none]), (100, 800, []), (9, 4, [some 39, none, none, none]), (100, 64, []), (9, 4, [some 41, none, none, none]), (100, 64, []), (9, 4, [some 43, none, none, none]), (100, 64, []), (9, 4, [some 45, none, none, none]), (100, 16, []), (9, 4, [some 47, none, none, none]), (100, 10, []), (4, 3, [some 49, none, none]), (101, 6, [some 50, some 57, some 64, some 71, none, none]), (3, 4, [some 51, some 53, some 55, none]), (9, 4, [some 52, none, none, none]), (100, 96, []), (9, 4, [some 54, none, none, none]), (100, 40, []), (9, 4, [some 56, none, none, none]), (100, 7, []), (3, 4, [some 58, some 60, some 62, none]), (9, 4, [some 59, none, none, none]), (100, 96, []), (9, 4, [some 61, none, none, none]), (100, 40, []), (9, 4, [some 63, none, none, none]), (100, 7, []), (3, 4, [some 65, some 67, some 69, none]), (9, 4, [some 66, none, none, none]), (100, 96, []), (9, 4, [some 68, none, none, none]), (100, 40, []), (9, 4, [some 70, none, none, none]), (100, 7, []), (3, 4, [some 72, some 74, some 76, none]), (9, 4, [some 73, none, none, none]), (100, 96, []), (9, 4, [some 75, none, none, none]), (100, 40, []), (9, 4, [some 77, none, none, none]), (100, 7, []), (3, 4, [some 79, some 81, none, none]), (9, 4, [some 80, none, none, none]), (100, 96, []), (9, 4, [some 82, none, none, none]), (100, 40, []), (9, 4, [none, none, none, none])]
def S_165 : List SE := [(11, 13, [some 2, some 25, none, none, none, none, none, none, none, none, none, none, some 1]), (100, 12, []), (1, 11, [some 3, some 5, some 7, some 9, some 11, some 13, some 15, some 17, some 19, some 21, some 23]), (9, 4, [some 4, none, none, none]), (100, 96, []), (9, 4, [some 6, none, none, none]), (100, 40, []), (9, 4, [some 8, none, none, none]), (100, 7, []), (9, 4, [some 10, none, none, none]), (100, 600, []), (9, 4, [some 12, none, none, none]), (100, 64, []), (9, 4, [some 14, none, none, none]), (100, 800, []), (9, 4, [some 16, none, none, none]), (100, 64, []), (9, 4, [some 18, none, none, none]), (100, 64, []), (9, 4, [some 20, none, none, none]), (100, 64, []), (9, 4, [some 22, none, none, none]), (100, 16, []), (9, 4, [some 24, none, none, none]), (100, 10, []), (1, 11, [some 26, some 28, some 30, some 32, some 34, some 36, some 38, some 40, some 42, some 44, some 46]), (9, 4, [some 27, none, none, none]), (100, 96, []), (9, 4, [some 29, none, none, none]), (100, 40, []), (9, 4, [some 31, none, none, none]), (100, 7, []), (9, 4, [some 33, none, none, none]), (100, 600, []), (9, 4, [some 35, none, none, none]), (100, 64, []), (9, 4, [some 37, none, none, none]), (100, 800, []), (9, 4, [some 39, none, none, none]), (100, 64, []), (9, 4, [some 41, none, none, none]), (100, 64, []), (9, 4, [some 43, none, none, none]), (100, 64, []), (9, 4, [some 45, none, none, none]), (100, 16, []), (9, 4, [some 47, none, none, none]), (100, 10, []), (4, 3, [some 49, none, none]), (101, 6, [some 50, some 57, some 64, some 71, none, none]), (3, 4, [some 51, some 53, some 55, none]), (9, 4, [some 52, none, none, none]), (100, 96, []), (9, 4, [some 54, none, none, none]), (100, 40, []), (9, 4, [some 56, none, none, none]), (100, 7, []), (3, 4, [some 58, some 60, some 62, none]), (9, 4, [some 59, none, none, none]), (100, 96, []), (9, 4, [some 61, none, none, none]), (100, 40, []), (9, 4, [some 63, none, none, none]), (100, 7, []), (3, 4, [some 65, some 67, some 69, none]), (9, 4, [some 66, none, none, none]), (100, 96, []), (9, 4, [some 68, none, none, none]), (100, 40, []), (9, 4, [some 70, none, none, none]), (100, 7, []), (3, 4, [some 72, some 74, some 76, none]), (9, 4, [some 73, none, none, none]), (100, 96, []), (9, 4, [some 75, none, none, none]), (100, 40, []), (9, 4, [some 77, none, none, none]), (100, 7, []), (3, 4, [some 79, some 81, none, none]), (9, 4, [some 80, none, none, none]), (100, 96, []), (9, 4, [some 82, none, none, none]), (100, 40, []), (9, 4, [none, none, none, none]), (100, 7, [])]
def S_166 : List SE := [(11, 13, [some 2, some 25, none, none, none, none, none, none, none, none, none, none, some 1]), (100, 12, []), (1, 11, [some 3, some 5, some 7, some 9, some 11, some 13, some 15, some 17, some 19, some 21, some 23]), (9, 4, [some 4, none, none, none]), (100, 96, []), (9, 4, [some 6, none, none, none]), (100, 40, []), (9, 4, [some 8, none, none, none]), (100, 7, []), (9, 4, [some 10, none, none, none]), (100, 600, []), (9, 4, [some 12, none, none, none]), (100, 64, []), (9, 4, [some 14, none, none, none]), (100, 800, []), (9, 4, [some 16, none, none, none]), (100, 64, []), (9, 4, [some 18, none, none, none]), (100, 64, []), (9, 4, [some 20, none, none, none]), (100, 64, []), (9, 4, [some 22, none, none, none]), (100, 16, []), (9, 4, [some 24, none, none, none]), (100, 10, []), (1, 11, [some 26, some 28, some 30, some 32, some 34, some 36, some 38, some 40, some 42, some 44, some 46]), (9, 4, [some 27, none, none, none]), (100, 96, []), (9, 4, [some 29, none, none, none]), (100, 40, []), (9, 4, [some 31, none, none, none]), (100, 7, []), (9, 4, [some 33, none, none, none]), (100, 600, []), (9, 4, [some 35, none, none, none]), (100, 64, []), (9, 4, [some 37, none, none, none]), (100, 800, []), (9, 4, [some 39, none, none, none]), (100, 64, []), (9, 4, [some 41, none, none, none]), (100, 64, []), (9, 4, [some 43, none, none, none]), (100, 64, []), (9, 4, [some 45, none, none, none]), (100, 16, []), (9, 4, [some 47, none, none, none]), (100, 10, []), (4, 3, [some 49, none, none]), (101, 6, [some 50, some 57, some 64, some 71, none, none]), (3, 4, [some 51, some 53, some 55, none]), (9, 4, [some 52, none, none, none]), (100, 96, []), (9, 4, [some 54, none, none, none]), (100, 40, []), (9, 4, [some 56, none, none, none]), (100, 7, []), (3, 4, [some 58, some 60, some 62, none]), (9, 4, [some 59, none, none, none]), (100, 96, []), (9, 4, [some 61, none, none, none]), (100, 40, []), (9, 4, [some 63, none, none, none]), (100, 7, []), (3, 4, [some 65, some 67, some 69, none]), (9, 4, [some 66, none, none, none]), (100, 96, []), (9, 4, [some 68, none, none, none]), (100, 40, []), (9, 4, [some 70, none, none, none]), (100, 7, []), (3, 4, [some 72, some 74, some 76, none]), (9, 4, [some 73, none, none, none]), (100, 96, []), (9, 4, [some 75, none, none, none]), (100, 40, []), (9, 4, [some 77, none, none, none]), (100, 7, []), (3, 4, [some 79, some 81, none, none]), (9, 4, [some 80, none, none, none]), (100, 96, []), (9, 4, [some 82, none, none, none]), (100, 40, []), (9, 4, [some 84, none, none, none]), (100, 7, [])]
def S_167 : List SE := [(11, 13, [some 2, some 25, none, none, none, none, none, none, none, none, none, none, some 1]), (100, 12, []), (1, 11, [some 3, some 5, some 7, some 9, some 11, some 13, some 15, some 17, some 19, some 21, some 23]), (9, 4, [some 4, none, none, none]), (100, 96, []), (9, 4, [some 6, none, none, none]), (100, 40, []), (9, 4, [some 8, none, none, none]), (100, 7, []), (9, 4, [some 10, none, none, none]), (100, 600, []), (9, 4, [some 12, none, none, none]), (100, 64, []), (9, 4, [some 14, none, none, none]), (100, 800, []), (9, 4, [some 16, none, none, none]), (100, 64, []), (9, 4, [some 18, none, none, none]), (100, 64, []), (9, 4, [some 20, none, none, none]), (100, 64, []), (9, 4, [some 22, none, none, none]), (100, 16, []), (9, 4, [some 24, none, none, none]), (100, 10, []), (1, 11, [some 26, some 28, some 30, some 32, some 34, some 36, some 38, some 40, some 42, some 44, some 46]), (9, 4, [some 27, none, none, none]), (100, 96, []), (9, 4, [some 29, none, none, none]), (100, 40, []), (9, 4, [some 31, none, none, none]), (100, 7, []), (9, 4, [some 33, none, none, none]), (100, 600, []), (9, 4, [some 35, none, none, none]), (100, 64, []), (9, 4, [some 37, none, none, none]), (100, 800, []), (9, 4, [some 39, none, none, none]), (100, 64, []), (9, 4, [some 41, none, none, none]), (100, 64, []), (9, 4, [some 43, none, none, none]), (100, 64, []), (9, 4, [some 45, none, none, none]), (100, 16, []), (9, 4, [some 47, none, none, none]), (100, 10, []), (4, 3, [some 49, none, none]), (101, 6, [some 50, some 57, some 64, some 71, none, none]), (3, 4, [some 51, some 53, some 55, none]), (9, 4, [some 52, none, none, none]), (100, 96, []), (9, 4, [some 54, none, none, none]), (100, 40, []), (9, 4, [some 56, none, none, none]), (100, 7, []), (3, 4, [some 58, some 60, some 62, none]), (9, 4, [some 59, none, none, none]), (100, 96, []), (9, 4, [some 61, none, none, none]), (100, 40, []), (9, 4, [some 63, none, none, none]), (100, 7, []), (3, 4, [some 65, some 67, some 69, none]), (9, 4, [some 66, none, none, none]), (100, 96, []), (9, 4, [some 68, none, none, none]), (100, 40, []), (9, 4, [some 70, none, none, none]), (100, 7, []), (3, 4, [some 72, some 74, some 76, none]), (9, 4, [some 73, none, none, none]), (100, 96, []), (9, 4, [some 75, none, none, none]), (100, 40, []), (9, 4, [some 77, none, none, none]), (100, 7, []), (3, 4, [some 79, some 81, some 83, none]), (9, 4, [some 80, none, none, none]), (100, 96, []), (9, 4, [some 82, none, none, none]), (100, 40, []), (9, 4, [some 84, none, none, none]), (100, 7, [])]
def S_168 : List SE := [(11, 13, [some 2, some 25, none, none, none, none, none, none, none, none, none, none, some 1]), (100, 12, []), (1, 11, [some 3, some 5, some 7, some 9, some 11, some 13, some 15, some 17, some 19, some 21, some 23]), (9, 4, [some 4, none, none, none]), (100, 96, []), (9, 4, [some 6, none, none, none]), (100, 40, []), (9, 4, [some 8, none, none, none]), (100, 7, []), (9, 4, [some 10, none, none, none]), (100, 600, []), (9, 4, [some 12, none, none, none]), (100, 64, []), (9, 4, [some 14, none, none, none]), (100, 800, []), (9, 4, [some 16, none, none, none]), (100, 64, []), (9, 4, [some 18, none, none, none]), (100, 64, []), (9, 4, [some 20, none, none, none]), (100, 64, []), (9, 4, [some 22, none, none, none]), (100, 16, []), (9, 4, [some 24, none, none, none]), (100, 10, []), (1, 11, [some 26, some 28, some 30, some 32, some 34, some 36, some 38, some 40, some 42, some 44, some 46]), (9, 4, [some 27, none, none, none]), (100, 96, []), (9, 4, [some 29, none, none, none]), (100, 40, []), (9, 4, [some 31, none, none, none]), (100, 7, []), (9, 4, [some 33, none, none, none]), (100, 600, []), (9, 4, [some 35, none, none, none]), (100, 64, []), (9, 4, [some 37, none, none, none]), (100, 800, []), (9, 4, [some 39, none, none, none]), (100, 64, []), (9, 4, [some 41, none, none, none]), (100, 64, []), (9, 4, [some 43, none, none, none]), (100, 64, []), (9, 4, [some 45, none, none, none]), (100, 16, []), (9, 4, [some 47, none, none, none]), (100, 10, []), (4, 3, [some 49, none, none]), (101, 6, [some 50, some 57, some 64, some 71, some 78, none]), (3, 4, [some 51, some 53, some 55, none]), (9, 4, [some 52, none, none, none]), (100, 96, []), (9, 4, [some 54, none, none, none]), (100, 40, []), (9, 4, [some 56, none, none, none]), (100, 7, []), (3, 4, [some 58, some 60, some 62, none]), (9, 4, [some 59, none, none, none]), (100, 96, []), (9, 4, [some 61, none, none, none]), (100, 40, []), (9, 4, [some 63, none, none, none]), (100, 7, []), (3, 4, [some 65, some 67, some 69, none]), (9, 4, [some 66, none, none, none]), (100, 96, []), (9, 4, [some 68, none, none, none]), (100, 40, []), (9, 4, [some 70, none, none, none]), (100, 7, []), (3, 4, [some 72, some 74, some 76, none]), (9, 4, [some 73, none, none, none]), (100, 96, []), (9, 4, [some 75, none, none, none]), (100, 40, []), (9, 4, [some 77, none, none, none]), (100, 7, []), (3, 4, [some 79, some 81, some 83, none]), (9, 4, [some 80, none, none, none]), (100, 96, []), (9, 4, [some 82, none, none, none]), (100, 40, []), (9, 4, [some 84, none, none, none]), (100, 7, [])]
def S_169 : List SE := [(11, 13, [some 2, some 25, none, none, none, none, none, none, none, none, none, none, some 1]), (100, 12, []), (1, 11, [some 3, some 5, some 7, some 9, some 11, some 13, some 15, some 17, some 19, some 21, some 23]), (9, 4, [some 4, none, none, none]), (100, 96, []), (9, 4, [some 6, none, none, none]), (100, 40, []), (9, 4, [some 8, none, none, none]), (100, 7, []), (9, 4, [some 10, none, none, none]), (100, 600, []), (9, 4, [some 12, none, none, none]), (100, 64, []), (9, 4, [some 14, none, none, none]), (100, 800, []), (9, 4, [some 16, none, none, none]), (100, 64, []), (9, 4, [some 18, none, none, none]), (100, 64, []), (9, 4, [some 20, none, none, none]), (100, 64, []), (9, 4, [some 22, none, none, none]), (100, 16, []), (9, 4, [some 24, none, none, none]), (100, 10, []), (1, 11, [some 26, some 28, some 30, some 32, some 34, some 36, some 38, some 40, some 42, some 44, some 46]), (9, 4, [some 27, none, none, none]), (100, 96, []), (9, 4, [some 29, none, none, none]), (100, 40, []), (9, 4, [some 31, none, none, none]), (100, 7, []), (9, 4, [some 33, none, none, none]), (100, 600, []), (9, 4, [some 35, none, none, none]), (100, 64, []), (9, 4, [some 37, none, none, none]), (100, 800, []), (9, 4, [some 39, none, none, none]), (100, 64, []), (9, 4, [some 41, none, none, none]), (100, 64, []), (9, 4, [some 43, none, none, none]), (100, 64, []), (9, 4, [some 45, none, none, none]), (100, 16, []), (9, 4, [some 47, none, none, none]), (100, 10, []), (4, 3, [some 49, none, none]), (101, 6, [some 50, some 57, some 64, some 71, some 78, none]), (3, 4, [some 51, some 53, some 55, none]), (9, 4, [some 52, none, none, none]), (100, 96, []), (9, 4, [some 54, none, none, none]), (100, 40, []), (9, 4, [some 56, none, none, none]), (100, 7, []), (3, 4, [some 58, some 60, some 62, none]), (9, 4, [some 59, none, none, none]), (100, 96, []), (9, 4, [some 61, none, none, none]), (100, 40, []), (9, 4, [some 63, none, none, none]), (100, 7, []), (3, 4, [some 65, some 67, some 69, none]), (9, 4, [some 66, none, none, none]), (100, 96, []), (9, 4, [some 68, none, none, none]), (100, 40, []), (9, 4, [some 70, none, none, none]), (100, 7, []), (3, 4, [some 72, some 74, some 76, none]), (9, 4, [some 73, none, none, none]), (100, 96, []), (9, 4, [some 75, none, none, none]), (100, 40, []), (9, 4, [some 77, none, none, none]), (100, 7, []), (3, 4, [some 79, some 81, some 83, none]), (9, 4, [some 80, none, none, none]), (100, 96, []), (9, 4, [some 82, none, none, none]), (100, 40, []), (9, 4, [some 84, none, none, none]), (100, 7, []), (3, 4, [none, none, none, none])]
def S_170 : List SE := [(11, 13, [some 2, some 25, none, none, none, none, none, none, none, none, none, none, some 1]), (100, 12, []), (1, 11, [some 3, some 5, some 7, some 9, some 11, some 13, some 15, some 17, some 19, some 21, some 23]), (9, 4, [some 4, none, none, none]), (100, 96, []), (9, 4, [some 6, none, none, none]), (100, 40, []), (9, 4, [some 8, none, none, none]), (100, 7, []), (9, 4, [some 10, none, none, none]), (100, 600, []), (9, 4, [some 12, none, none, none]), (100, 64, []), (9, 4, [some 14, none, none, none]), (100, 800, []), (9, 4, [some 16, none, none, none]), (100, 64, []), (9, 4, [some 18, none, none, none]), (100, 64, []), (9, 4, [some 20, none, none, none]), (100, 64, []), (9, 4, [some 22, none, none, none]), (100, 16, []), (9, 4, [some 24, none, none, none]), (100, 10, []), (1, 11, [some 26, some 28, some 30, some 32, some 34, some 36, some 38, some 40, some 42, some 44, some 46]), (9, 4, [some 27, none, none, none]), (100, 96, []), (9, 4, [some 29, none, none, none]), (100, 40, []), (9, 4, [some 31, none, none, none]), (100, 7, []), (9, 4, [some 33, none, none, none]), (100, 600, []), (9, 4, [some 35, none, none, none]), (100, 64, []), (9, 4, [some 37, none, none, none]), (100, 800, []), (9, 4, [some 39, none, none, none]), (100, 64, []), (9, 4, [some 41, none, none, none]), (100, 64, []), (9, 4, [some 43, none, none, none]), (100, 64, []), (9, 4, [some 45, none, none, none]), (100, 16, []), (9, 4, [some 47, none, none, none]), (100, 10, []), (4, 3, [some 49, none, none]), (101, 6, [some 50, some 57, some 64, some 71, some 78, none]), (3, 4, [some 51, some 53, some 55, none]), (9, 4, [some 52, none, none, none]), (100, 96, []), (9, 4, [some 54, none, none, none]), (100, 40, []), (9, 4, [some 56, none, none, none]), (100, 7, []), (3, 4, [some 58, some 60, some 62, none]), (9, 4, [some 59, none, none, none]), (100, 96, []), (9, 4, [some 61, none, none, none]), (100, 40, []), (9, 4, [some 63, none, none, none]), (100, 7, []), (3, 4, [some 65, some 67, some 69, none]), (9, 4, [some 66, none, none, none]), (100, 96, []), (9, 4, [some 68, none, none, none]), (100, 40, []), (9, 4, [some 70, none, none, none]), (100, 7, []), (3, 4, [some 72, some 74, some 76, none]), (9, 4, [some 73, none, none, none]), (100, 96, []), (9, 4, [some 75, none, none, none]), (100, 40, []), (9, 4, [some 77, none, none, none]), (100, 7, []), (3, 4, [some 79, some 81, some 83, none]), (9, 4, [some 80, none, none, none]), (100, 96, []), (9, 4, [some 82, none, none, none]), (100, 40, []), (9, 4, [some 84, none, none, none]), (100, 7, []), (3, 4, [none, none, none, none]), (9, 4, [none, none, none, none])]
def S_171 : List SE := [(11, 13, [some 2, some 25, none, none, none, none, none, none, none, none, none, none, some 1]), (100, 12, []), (1, 11, [some 3, some 5, some 7, some 9, some 11, some 13, some 15, some 17, some 19, some 21, some 23]), (9, 4, [some 4, none, none, none]), (100, 96, []), (9, 4, [some 6, none, none, none]), (100, 40, []), (9, 4, [some 8, none, none, none]), (100, 7, []), (9, 4, [some 10, none, none, none]), (100, 600, []), (9, 4, [some 12, none, none, none]), (100, 64, []), (9, 4, [some 14, none, none, none]), (100, 800, []), (9, 4, [some 16, none, none, none]), (100, 64, []), (9, 4, [some 18, none, none, none]), (100, 64, []), (9, 4, [some 20, none, none, none]), (100, 64, []), (9, 4, [some 22, none, none, none]), (100, 16, []), (9, 4, [some 24, none, none, none]), (100, 10, []), (1, 11, [some 26, some 28, some 30, some 32, some 34, some 36, some 38, some 40, some 42, some 44, some 46]), (9, 4, [some 27, none, none, none]), (100, 96, []), (9, 4, [some 29, none, none, none]), (100, 40, []), (9, 4, [some 31, none, none, none]), (100, 7, []), (9, 4, [some 33, none, none, none]), (100, 600, []), (9, 4, [some 35, none, none, none]), (100, 64, []), (9, 4, [some 37, none, none, none]), (100, 800, []), (9, 4, [some 39, none, none, none]), (100, 64, []), (9, 4, [some 41, none, none, none]), (100, 64, []), (9, 4, [some 43, none, none, none]), (100, 64, []), (9, 4, [some 45, none, none, none]), (100, 16, []), (9, 4, [some 47, none, none, none]), (100, 10, []), (4, 3, [some 49, none, none]), (101, 6, [some 50, some 57, some 64, some 71, some 78, none]), (3, 4, [some 51, some 53, some 55, none]), (9, 4, [some 52, none, none, none]), (100, 96, []), (9, 4, [some 54, none, none, none]), (100, 40, []), (9, 4, [some 56, none, none, none]), (100, 7, []), (3, 4, [some 58, some 60, some 62, none]), (9, 4, [some 59, none, none, none]), (100, 96, []), (9, 4, [some 61, none, none, none]), (100, 40, []), (9, 4, [some 63, none, none, none]), (100, 7, []), (3, 4, [some 65, some 67, some 69, none]), (9, 4, [some 66, none, none, none]), (100, 96, []), (9, 4, [some 68, none, none, none]), (100, 40, []), (9, 4, [some 70, none, none, none]), (100, 7, []), (3, 4, [some 72, some 74, some 76, none]), (9, 4, [some 73, none, none, none]), (100, 96, []), (9, 4, [some 75, none, none, none]), (100, 40, []), (9, 4, [some 77, none, none, none]), (100, 7, []), (3, 4, [some 79, some 81, some 83, none]), (9, 4, [some 80, none, none, none]), (100, 96, []), (9, 4, [some 82, none, none, none]), (100, 40, []), (9, 4, [some 84, none, none, none]), (100, 7, []), (3, 4, [none, none, none, none]), (9, 4, [none, none, none, none]), (100, 96, [])]
def S_172 : List SE := [(11, 13, [some 2, some 25, none, none, none, none, none, none, none, none, none, none, some 1]), (100, 12, []), (1, 11, [some 3, some 5, some 7, some 9, some 11, some 13, some 15, some 17, some 19, some 21, some 23]), (9, 4, [some 4, none, none, none]), (100, 96, []), (9, 4, [some 6, none, none, none]), (100, 40, []), (9, 4, [some 8, none, none, none]), (100, 7, []), (9, 4, [some 10, none, none, none]), (100, 600, []), (9, 4, [some 12, none, none, none]), (100, 64, []), (9, 4, [some 14, none, none, none]), (100, 800, []), (9, 4, [some 16, none, none, none]), (100, 64, []), (9, 4, [some 18, none, none, none]), (100, 64, []), (9, 4, [some 20, none, none, none]), (100, 64, []), (9, 4, [some 22, none, none, none]), (100, 16, []), (9, 4, [some 24, none, none, none]), (100, 10, []), (1, 11, [some 26, some 28, some 30, some 32, some 34, some 36, some 38, some 40, some 42, some 44, some 46]), (9, 4, [some 27, none, none, none]), (100, 96, []), (9, 4, [some 29, none, none, none]), (100, 40, []), (9, 4, [some 31, none, none, none]), (100, 7, []), (9, 4, [some 33, none, none, none]), (100, 600, []), (9, 4, [some 35, none, none, none]), (100, 64, []), (9, 4, [some 37, none, none, none]), (100, 800, []), (9, 4, [some 39, none, none, none]), (100, 64, []), (9, 4, [some 41, none, none, none]), (100, 64, []), (9, 4, [some 43, none, none, none]), (100, 64, []), (9, 4, [some 45, none, none, none]), (100, 16, []), (9, 4, [some 47, none, none, none]), (100, 10, []), (4, 3, [some 49, none, none]), (101, 6, [some 50, some 57, some 64, some 71, some 78, none]), (3, 4, [some 51, some 53, some 55, none]), (9, 4, [some 52, none, none, none]), (100, 96, []), (9, 4, [some 54, none, none, none]), (100, 40, []), (9, 4, [some 56, none, none, none]), (100, 7, []), (3, 4, [some 58, some 60, some 62, none]), (9, 4, [some 59, none, none, none]), (100, 96, []), (9, 4, [some 61, none, none, none]), (100, 40, []), (9, 4, [some 63, none, none, none]), (100, 7, []), (3, 4, [some 65, some 67, some 69, none]), (9, 4, [some 66, none, none, none]), (100, 96, []), (9, 4, [some 68, none, none, none]), (100, 40, []), (9, 4, [some 70, none, none, none]), (100, 7, []), (3, 4, [some 72, some 74, some 76, none]), (9, 4, [some 73, none, none, none]), (100, 96, []), (9, 4, [some 75, none, none, none]), (100, 40, []), (9, 4, [some 77, none, none, none]), (100, 7, []), (3, 4, [some 79, some 81, some 83, none]), (9, 4, [some 80, none, none, none]), (100, 96, []), (9, 4, [some 82, none, none, none]), (100, 40, []), (9, 4, [some 84, none, none, none]), (100, 7, []), (3, 4, [none, none, none, none]), (9, 4, [some 87, none, none, none]), (100, 96, [])]
def S_173 : List SE := [(11, 13, [some 2, some 25, none, none, none, none, none, none, none, none, none, none, some 1]), (100, 12, []), (1, 11, [some 3, some 5, some 7, some 9, some 11, some 13, some 15, some 17, some 19, some 21, some 23]), (9, 4, [some 4, none, none, none]), (100, 96, []), (9, 4, [some 6, none, none, none]), (100, 40, []), (9, 4, [some 8, none, none, none]), (100, 7, []), (9, 4, [some 10, none, none, none]), (100, 600, []), (9, 4, [some 12, none, none, none]), (100, 64, []), (9, 4, [some 14, none, none, none]), (100, 800, []), (9, 4, [some 16, none, none, none]), (100, 64, []), (9, 4, [some 18, none, none, none]), (100, 64, []), (9, 4, [some 20, none, none, none]), (100, 64, []), (9, 4, [some 22, none, none, none]), (100, 16, []), (9, 4, [some 24, none, none, none]), (100, 10, []), (1, 11, [some 26, some 28, some 30, some 32, some 34, some 36, some 38, some 40, some 42, some 44, some 46]), (9, 4, [some 27, none, none, none]), (100, 96, []), (9, 4, [some 29, none, none, none]), (100, 40, []), (9, 4, [some 31, none, none, none]), (100, 7, []), (9, 4, [some 33, none, none, none]), (100, 600, []), (9, 4, [some 35, none, none, none]), (100, 64, []), (9, 4, [some 37, none, none, none]), (100, 800, []), (9, 4, [some 39, none, none, none]), (100, 64, []), (9, 4, [some 41, none, none, none]), (100, 64, []), (9, 4, [some 43, none, none, none]), (100, 64, []), (9, 4, [some 45, none, none, none]), (100, 16, []), (9, 4, [some 47, none, none, none]), (100, 10, []), (4, 3, [some 49, none, none]), (101, 6, [some 50, some 57, some 64, some 71, some 78, none]), (3, 4, [some 51, some 53, some 55, none]), (9, 4, [some 52, none, none, none]), (100, 96, []), (9, 4, [some 54, none, none, none]), (100, 40, []), (9, 4, [some 56, none, none, none]), (100, 7, []), (3, 4, [some 58, some 60, some 62, none]), (9, 4, [some 59, none, none, none]), (100, 96, []), (9, 4, [some 61, none, none, none]), (100, 40, []), (9, 4, [some 63, none, none, none]), (100, 7, []), (3, 4, [some 65, some 67, some 69, none]), (9, 4, [some 66, none, none, none]), (100, 96, []), (9, 4, [some 68, none, none, none]), (100, 40, []), (9, 4, [some 70, none, none, none]), (100, 7, []), (3, 4, [some 72, some 74, some 76, none]), (9, 4, [some 73, none, none, none]), (100, 96, []), (9, 4, [some 75, none, none, none]), (100, 40, []), (9, 4, [some 77, none, none, none]), (100, 7, []), (3, 4, [some 79, some 81, some 83, none]), (9, 4, [some 80, none, none, none]), (100, 96, []), (9, 4, [some 82, none, none, none]), (100, 40, []), (9, 4, [some 84, none, none, none]), (100, 7, []), (3, 4, [some 86, none, none, none]), (9, 4, [some 87, none, none, none]), (100, 96, [])]
def S_174 : List SE := [(11, 13, [some 2, some 25, none, none, none, none, none, none, none, none, none, none, some 1]), (100, 12, []), (1, 11, [some 3, some 5, some 7, some 9, some 11, some 13, some 15, some 17, some 19, some 21, some 23]), (9, 4, [some 4, none, none, none]), (100, 96, []), (9, 4, [some 6, none, none, none]), (100, 40, []), (9, 4, [some 8, none, none, none]), (100, 7, []), (9, 4, [some 10, none, none, none]), (100, 600, []), (9, 4, [some 12, none, none, none]), (100, 64, []), (9, 4, [some 14, none, none, none]), (100, 800, []), (9, 4, [some 16, none, none, none]), (100, 64, []), (9, 4, [some 18, none, none, none]), (100, 64, []), (9, 4, [some 20, none, none, none]), (100, 64, []), (9, 4, [some 22, none, none, none]), (100, 16, []), (9, 4, [some 24, none, none, none]), (100, 10, []), (1, 11, [some 26, some 28, some 30, some 32, some 34, some 36, some 38, some 40, some 42, some 44, some 46]), (9, 4, [some 27, none, none, none]), (100, 96, []), (9, 4, [some 29, none, none, none]), (100, 40, []), (9, 4, [some 31, none, none, none]), (100, 7, []), (9, 4, [some 33, none, none, none]), (100, 600, []), (9, 4, [some 35, none, none, none]), (100, 64, []), (9, 4, [some 37, none, none, none]), (100, 800, []), (9, 4, [some 39, none, none, none]), (100, 64, []), (9, 4, [some 41, none, none, none]), (100, 64, []), (9, 4, [some 43, none, none, none]), (100, 64, []), (9, 4, [some 45, none, none, none]), (100, 16, []), (9, 4, [some 47, none, none, none]), (100, 10, []), (4, 3, [some 49, none, none]), (101, 6, [some 50, some 57, some 64, some 71, some 78, none]), (3, 4, [some 51, some 53, some 55, none]), (9, 4, [some 52, none, none, none]), (100, 96, []), (9, 4, [some 54, none, none, none]), (100, 40, []), (9, 4, [some 56, none, none, none]), (100, 7, []), (3, 4, [some 58, some 60, some 62, none]), (9, 4, [some 59, none, none, none]), (100, 96, []), (9, 4, [some 61, none, none, none]), (100, 40, []), (9, 4, [some 63, none, none, none]), (100, 7, []), (3, 4, [some 65, some 67, some 69, none]), (9, 4, [some 66, none, none, none]), (100, 96, []), (9, 4, [some 68, none, none, none]), (100, 40, []), (9, 4, [some 70, none, none, none]), (100, 7, []), (3, 4, [some 72, some 74, some 76, none]), (9, 4, [some 73, none, none, none]), (100, 96, []), (9, 4, [some 75, none, none, none]), (100, 40, []), (9, 4, [some 77, none, none, none]), (100, 7, []), (3, 4, [some 79, some 81, some 83, none]), (9, 4, [some 80, none, none, none]), (100, 96, []), (9, 4, [some 82, none, none, none]), (100, 40, []), (9, 4, [some 84, none, none, none]), (100, 7, []), (3, 4, [some 86, none, none, none]), (9, 4, [some 87, none, none, none]), (100, 96, []), (9, 4, [none, none, none, none])]
def S_175 : List SE := [(11, 13, [some 2, some 25, none, none, none, none, none, none, none, none, none, none, some 1]), (100, 12, []), (1, 11, [some 3, some 5, some 7, some 9, some 11, some 13, some 15, some 17, some 19, some 21, some 23]), (9, 4, [some 4, none, none, none]), (100, 96, []), (9, 4, [some 6, none, none, none]), (100, 40, []), (9, 4, [some 8, none, none, none]), (100, 7, []), (9, 4, [some 10, none, none, none]), (100, 600, []), (9, 4, [some 12, none, none, none]), (100, 64, []), (9, 4, [some 14, none, none, none]), (100, 800, []), (9, 4, [some 16, none, none, none]), (100, 64, []), (9, 4, [some 18, none, none, none]), (100, 64, []), (9, 4, [some 20, none, none, none]), (100, 64, []), (9, 4, [some 22, none, none, none]), (100, 16, []), (9, 4, [some 24, none, none, none]), (100, 10, []), (1, 11, [some 26, some 28, some 30, some 32, some 34, some 36, some 38, some 40, some 42, some 44, some 46]), (9, 4, [some 27, none, none, none]), (100, 96, []), (9, 4, [some 29, none, none, none]), (100, 40, []), (9, 4, [some 31, none, none, none]), (100, 7, []), (9, 4, [some 33, none, none, none]), (100, 600, []), (9, 4, [some 35, none, none, none]), (100, 64, []), (9, 4, [some 37, none, none, none]), (100, 800, []), (9, 4, [some 39, none, none, none]), (100, 64, []), (9, 4, [some 41, none, none, none]), (100, 64, []), (9, 4, [some 43, none, none, none]), (100, 64, []), (9, 4, [some 45, none, none, none]), (100, 16, []), (9, 4, [some 47, none, none, none]), (100, 10, []), (4, 3, [some 49, none, none]), (101, 6, [some 50, some 57, some 64, some 71, some 78, none]), (3, 4, [some 51, some 53, some 55, none]), (9, 4, [some 52, none, none, none]), (100, 96, []), (9, 4, [some 54, none, none, none]), (100, 40, []), (9, 4, [some 56, none, none, none]), (100, 7, []), (3, 4, [some 58, some 60, some 62, none]), (9, 4, [some 59, none, none, none]), (100, 96, []), (9, 4, [some 61, none, none, none]), (100, 40, []), (9, 4, [some 63, none, none, none]), (100, 7, []), (3, 4, [some 65, some 67, some 69, none]), (9, 4, [some 66, none, none, none]), (100, 96, []), (9, 4, [some 68, none, none, none]), (100, 40, []), (9, 4, [some 70, none, none, none]), (100, 7, []), (3, 4, [some 72, some 74, some 76, none]), (9, 4, [some 73, none, none, none]), (100, 96, []), (9, 4, [some 75, none, none, none]), (100, 40, []), (9, 4, [some 77, none, none, none]), (100, 7, []), (3, 4, [some 79, some 81, some 83, none]), (9, 4, [some 80, none, none, none]), (100, 96, []), (9, 4, [some 82, none, none, none]), (100, 40, []), (9, 4, [some 84, none, none, none]), (100, 7, []), (3, 4, [some 86, none, none, none]), (9, 4, [some 87, none, none, none]), (100, 96, []), (9, 4, [none, none, none, none]), (100, 40, [])]
def S_176 : List SE := [(11, 13, [some 2, some 25, none, none, none, none, none, none, none, none, none, none, some 1]), (100, 12, []), (1, 11, [some 3, some 5, some 7, some 9, some 11, some 13, some 15, some 17, some 19, some 21, some 23]), (9, 4, [some 4, none, none, none]), (100, 96, []), (9, 4, [some 6, none, none, none]), (100, 40, []), (9, 4, [some 8, none, none, none]), (100, 7, []), (9, 4, [some 10, none, none, none]), (100, 600, []), (9, 4, [some 12, none, none, none]), (100, 64, []), (9, 4, [some 14, none, none, none]), (100, 800, []), (9, 4, [some 16, none, none, none]), (100, 64, []), (9, 4, [some 18, none, none, none]), (100, 64, []), (9, 4, [some 20, none, none, none]), (100, 64, []), (9, 4, [some 22, none, none, none]), (100, 16, []), (9, 4, [some 24, none, none, none]), (100, 10, []), (1, 11, [some 26, some 28, some 30, some 32, some 34, some 36, some 38, some 40, some 42, some 44, some 46]), (9, 4, [some 27, none, none, none]), (100, 96, []), (9, 4, [some 29, none, none, none]), (100, 40, []), (9, 4, [some 31, none, none, none]), (100, 7, []), (9, 4, [some 33, none, none, none]), (100, 600, []), (9, 4, [some 35, none, none, none]), (100, 64, []), (9, 4, [some 37, none, none, none]), (100, 800, []), (9, 4, [some 39, none, none, none]), (100, 64, []), (9, 4, [some 41, none, none, none]), (100, 64, []), (9, 4, [some 43, none, none, none]), (100, 64, []), (9, 4, [some 45, none, none, none]), (100, 16, []), (9, 4, [some 47, none, none, none]), (100, 10, []), (4, 3, [some 49, none, none]), (101, 6, [some 50, some 57, some 64, some 71, some 78, none]), (3, 4, [some 51, some 53, some 55, none]), (9, 4, [some 52, none, none, none]), (100, 96, []), (9, 4, [some 54, none, none, none]), (100, 40, []), (9, 4, [some 56, none, none, none]), (100, 7, []), (3, 4, [some 58, some 60, some 62, none]), (9, 4, [some 59, none, none, none]), (100, 96, []), (9, 4, [some 61, none, none, none]), (100, 40, []), (9, 4, [some 63, none, none, none]), (100, 7, []), (3, 4, [some 65, some 67, some 69, none]), (9, 4, [some 66, none, none, none]), (100, 96, []), (9, 4, [some 68, none, none, none]), (100, 40, []), (9, 4, [some 70, none, none, none]), (100, 7, []), (3, 4, [some 72, some 74, some 76, none]), (9, 4, [some 73, none, none, none]), (100, 96, []), (9, 4, [some 75, none, none, none]), (100, 40, []), (9, 4, [some 77, none, none, none]), (100, 7, []), (3, 4, [some 79, some 81, some 83, none]), (9, 4, [some 80, none, none, none]), (100, 96, []), (9, 4, [some 82, none, none, none]), (100, 40, []), (9, 4, [some 84, none, none, none]), (100, 7, []), (3, 4, [some 86, none, none, none]), (9, 4, [some 87, none, none, none]), (100, 96, []), (9, 4, [some 89, none, none, none]), (100, 40, [])]
def S_177 : List SE := [(11, 13, [some 2, some 25, none, none, none, none, none, none, none, none, none, none, some 1]), (100, 12, []), (1, 11, [some 3, some 5, some 7, some 9, some 11, some 13, some 15, some 17, some 19, some 21, some 23]), (9, 4, [some 4, none, none, none]), (100, 96, []), (9, 4, [some 6, none, none, none]), (100, 40, []), (9, 4, [some 8, none, none, none]), (100, 7, []), (9, 4, [some 10, none, none, none]), (100, 600, []), (9, 4, [some 12, none, none, none]), (100, 64, []), (9, 4, [some 14, none, none, none]), (100, 800, []), (9, 4, [some 16, none, none, none]), (100, 64, []), (9, 4, [some 18, none, none, none]), (100, 64, []), (9, 4, [some 20, none, none, none]), (100, 64, []), (9, 4, [some 22, none, none, none]), (100, 16, []), (9, 4, [some 24, none, none, none]), (100, 10, []), (1, 11, [some 26, some 28, some 30, some 32, some 34, some 36, some 38, some 40, some 42, some 44, some 46]), (9, 4, [some 27, none, none, none]), (100, 96, []), (9, 4, [some 29, none, none, none]), (100, 40, []), (9, 4, [some 31, none, none, none]), (100, 7, []), (9, 4, [some 33, none, none, none]), (100, 600, []), (9, 4, [some 35, none, none, none]), (100, 64, []), (9, 4, [some 37, none, none, none]), (100, 800, []), (9, 4, [some 39, none, none, none]), (100, 64, []), (9, 4, [some 41, none, none, none]), (100, 64, []), (9, 4, [some 43, none, none, none]), (100, 64, []), (9, 4, [some 45, none, none, none]), (100, 16, []), (9, 4, [some 47, none, none, none]), (100, 10, []), (4, 3, [some 49, none, none]), (101, 6, [some 50, some 57, some 64, some 71, some 78, none]), (3, 4, [some 51, some 53, some 55, none]), (9, 4, [some 52, none, none, none]), (100, 96, []), (9, 4, [some 54, none, none, none]), (100, 40, []), (9, 4, [some 56, none, none, none]), (100, 7, []), (3, 4, [some 58, some 60, some 62, none]), (9, 4, [some 59, none, none, none]), (100, 96, []), (9, 4, [some 61, none, none, none]), (100, 40, []), (9, 4, [some 63, none, none, none]), (100, 7, []), (3, 4, [some 65, some 67, some 69, none]), (9, 4, [some 66, none, none, none]), (100, 96, []), (9, 4, [some 68, none, none, none]), (100, 40, []), (9, 4, [some 70, none, none, none]), (100, 7, []), (3, 4, [some 72, some 74, some 76, none]), (9, 4, [some 73, none, none, none]), (100, 96, []), (9, 4, [some 75, none, none, none]), (100, 40, []), (9, 4, [some 77, none, none, none]), (100, 7, []), (3, 4, [some 79, some 81, some 83, none]), (9, 4, [some 80, none, none, none]), (100, 96, []), (9, 4, [some 82, none, none, none]), (100, 40, []), (9, 4, [some 84, none, none, none]), (100, 7, []), (3, 4, [some 86, some 88, none, none]), (9, 4, [some 87, none, none, none]), (100, 96, []), (9, 4, [some 89, none, none, none]), (100, 40, [])]
def S_178 : List SE := [(11, 13, [some 2, some 25, none, none, none, none, none, none, none, none, none, none, some 1]), (100, 12, []), (1, 11, [some 3, some 5, some 7, some 9, some 11, some 13, some 15, some 17, some 19, some 21, some 23]), (9, 4, [some 4, none, none, none]), (100, 96, []), (9, 4, [some 6, none, none, none]), (100, 40, []), (9, 4, [some 8, none, none, none]), (100, 7, []), (9, 4, [some 10, none, none, none]), (100, 600, []), (9, 4, [some 12, none, none, none]), (100, 64, []), (9, 4, [some 14, none, none, none]), (100, 800, []), (9, 4, [some 16, none, none, none]), (100, 64, []), (9, 4, [some 18, none, none, none]), (100, 64, []), (9, 4, [some 20, none, none, none]), (100, 64, []), (9, 4, [some 22, none, none, none]), (100, 16, []), (9, 4, [some 24, none, none, none]), (100, 10, []), (1, 11, [some 26, some 28, some 30, some 32, some 34, some 36, some 38, some 40, some 42, some 44, some 46]), (9, 4, [some 27, none, none, none]), (100, 96, []), (9, 4, [some 29, none, none, none]), (100, 40, []), (9, 4, [some 31, none, none, none]), (100, 7, []), (9, 4, [some 33, none, none, none]), (100, 600, []), (9, 4, [some 35, none, none, none]), (100, 64, []), (9, 4, [some 37, none, none, none]), (100, 800, []), (9, 4, [some 39, none, none, none]), (100, 64, []), (9, 4, [some 41, none, none, none]), (100, 64, []), (9, 4, [some 43, none, none, none]), (100, 64, []), (9, 4, [some 45, none, none, none]), (100, 16, []), (9, 4, [some 47, none, none, none]), (100, 10, []), (4, 3, [some 49, none, none]), (101, 6, [some 50, some 57, some 64, some 71, some 78, none]), (3, 4, [some 51, some 53, some 55, none]), (9, 4, [some 52, none, none, none]), (100, 96, []), (9, 4, [some 54, none, none, none]), (100, 40, []), (9, 4, [some 56, none, none, none]), (100, 7, []), (3, 4, [some 58, some 60, some 62, none]), (9, 4, [some 59, none, none, none]), (100, 96, []), (9, 4, [some 61, none, none, none]), (100, 40, []), (9, 4, [some 63, none, none, none]), (100, 7, []), (3, 4, [some 65, some 67, some 69, none]), (9, 4, [some 66, none, none, none]), (100, 96, []), (9, 4, [some 68, none, none, none]), (100, 40, []), (9, 4, [some 70, none, none, none]), (100, 7, []), (3, 4, [some 72, some 74, some 76, none]), (9, 4, [some 73, none, none, none]), (100, 96, []), (9, 4, [some 75, none, none, none]), (100, 40, []), (9, 4, [some 77, none, none, none]), (100, 7, []), (3, 4, [some 79, some 81, some 83, none]), (9, 4, [some 80, none, none, none]), (100, 96, []), (9, 4, [some 82, none, none, none]), (100, 40, []), (9, 4, [some 84, none, none, none]), (100, 7, []), (3, 4, [some 86, some 88, none, none]), (9, 4, [some 87, none, none, none]), (100, 96, []), (9, 4, [some 89, none, none, none]), (100, 40, []), (9, 4, [none, none, none, none])]
def S_179 : List SE := [(11, 13, [some 2, some 25, none, none, none, none, none, none, none, none, none, none, some 1]), (100, 12, []), (1, 11, [some 3, some 5, some 7, some 9, some 11, some 13, some 15, some 17, some 19, some 21, some 23]), (9, 4, [some 4, none, none, none]), (100, 96, []), (9, 4, [some 6, none, none, none]), (100, 40, []), (9, 4, [some 8, none, none, none]), (100, 7, []), (9, 4, [some 10, none, none, none]), (100, 600, []), (9, 4, [some 12, none, none, none]), (100, 64, []), (9, 4, [some 14, none, none, none]), (100, 800, []), (9, 4, [some 16, none, none, none]), (100, 64, []), (9, 4, [some 18, none, none, none]), (100, 64, []), (9, 4, [some 20, none, none, none]), (100, 64, []), (9, 4, [some 22, none, none, none]), (100, 16, []), (9, 4, [some 24, none, none, none]), (100, 10, []), (1, 11, [some 26, some 28, some 30, some 32, some 34, some 36, some 38, some 40, some 42, some 44, some 46]), (9, 4, [some 27, none, none, none]), (100, 96, []), (9, 4, [some 29, none, none, none]), (100, 40, []), (9, 4, [some 31, none, none, none]), (100, 7, []), (9, 4, [some 33, none, none, none]), (100, 600, []), (9, 4, [some 35, none, none, none]), (100, 64, []), (9, 4, [some 37, none, none, none]), (100, 800, []), (9, 4, [some 39, none, none, none]), (100, 64, []), (9, 4, [some 41, none, none, none]), (100, 64, []), (9, 4, [some 43, none, none, none]), (100, 64, []), (9, 4, [some 45, none, none, none]), (100, 16, []), (9, 4, [some 47, none, none, none]), (100, 10, []), (4, 3, [some 49, none, none]), (101, 6, [some 50, some 57, some 64, some 71, some 78, none]), (3, 4, [some 51, some 53, some 55, none]), (9, 4, [some 52, none, none, none]), (100, 96, []), (9, 4, [some 54, none, none, none]), (100, 40, []), (9, 4, [some 56, none, none, none]), (100, 7, []), (3, 4, [some 58, some 60, some 62, none]), (9, 4, [some 59, none, none, none]), (100, 96, []), (9, 4, [some 61, none, none, none]), (100, 40, []), (9, 4, [some 63, none, none, none]), (100, 7, []), (3, 4, [some 65, some 67, some 69, none]), (9, 4, [some 66, none, none, none]), (100, 96, []), (9, 4, [some 68, none, none, none]), (100, 40, []), (9, 4, [some 70, none, none, none]), (100, 7, []), (3, 4, [some 72, some 74, some 76, none]), (9, 4, [some 73, none, none, none]), (100, 96, []), (9, 4, [some 75, none, none, none]), (100, 40, []), (9, 4, [some 77, none, none, none]), (100, 7, []), (3, 4, [some 79, some 81, some 83, none]), (9, 4, [some 80, none, none, none]), (100, 96, []), (9, 4, [some 82, none, none, none]), (100, 40, []), (9, 4, [some 84, none, none, none]), (100, 7, []), (3, 4, [some 86, some 88, none, none]), (9, 4, [some 87, none, none, none]), (100, 96, []), (9, 4, [some 89, none, none, none]), (100, 40, []), (9, 4, [none, none, none, none]), (100, 7, [])]
def S_180 : List SE := [(11, 13, [some 2, some 25, none, none, none, none, none, none, none, none, none, none, some 1]), (100, 12, []), (1, 11, [some 3, some 5, some 7, some 9, some 11, some 13, some 15, some 17, some 19, some 21, some 23]), (9, 4, [some 4, none, none, none]), (100, 96, []), (9, 4, [some 6, none, none, none]), (100, 40, []), (9, 4, [some 8, none, none, none]), (100, 7, []), (9, 4, [some 10, none, none, none]), (100, 600, []), (9, 4, [some 12, none, none, none]), (100, 64, []), (9, 4, [some 14, none, none, none]), (100, 800, []), (9, 4, [some 16, none, none, none]), (100, 64, []), (9, 4, [some 18, none, none, none]), (100, 64, []), (9, 4, [some 20, none, none, none]), (100, 64, []), (9, 4, [some 22, none, none, none]), (100, 16, []), (9, 4, [some 24, none, none, none]), (100, 10, []), (1, 11, [some 26, some 28, some 30, some 32, some 34, some 36, some 38, some 40, some 42, some 44, some 46]), (9, 4, [some 27, none, none, none]), (100, 96, []), (9, 4, [some 29, none, none, none]), (100, 40, []), (9, 4, [some 31, none, none, none]), (100, 7, []), (9, 4, [some 33, none, none, none]), (100, 600, []), (9, 4, [some 35, none, none, none]), (100, 64, []), (9, 4, [some 37, none, none, none]), (100, 800, []), (9, 4, [some 39, none, none, none]), (100, 64, []), (9, 4, [some 41, none, none, none]), (100, 64, []), (9, 4, [some 43, none, none, none]), (100, 64, []), (9, 4, [some 45, none, none, none]), (100, 16, []), (9, 4, [some 47, none, none, none]), (100, 10, []), (4, 3, [some 49, none, none]), (101, 6, [some 50, some 57, some 64, some 71, some 78, none]), (3, 4, [some 51, some 53, some 55, none]), (9, 4, [some 52, none, none, none]), (100, 96, []), (9, 4, [some 54, none, none, none]), (100, 40, []), (9, 4, [some 56, none, none, none]), (100, 7, []), (3, 4, [some 58, some 60, some 62, none]), (9, 4, [some 59, none, none, none]), (100, 96, []), (9, 4, [some 61, none, none, none]), (100, 40, []), (9, 4, [some 63, none, none, none]), (100, 7, []), (3, 4, [some 65, some 67, some 69, none]), (9, 4, [some 66, none, none, none]), (100, 96, []), (9, 4, [some 68, none, none, none]), (100, 40, []), (9, 4, [some 70, none, none, none]), (100, 7, []), (3, 4, [some 72, some 74, some 76, none]), (9, 4, [some 73, none, none, none]), (100, 96, []), (9, 4, [some 75, none, none, none]), (100, 40, []), (9, 4, [some 77, none, none, none]), (100, 7, []), (3, 4, [some 79, some 81, some 83, none]), (9, 4, [some 80, none, none, none]), (100, 96, []), (9, 4, [some 82, none, none, none]), (100, 40, []), (9, 4, [some 84, none, none, none]), (100, 7, []), (3, 4, [some 86, some 88, none, none]), (9, 4, [some 87, none, none, none]), (100, 96, []), (9, 4, [some 89, none, none, none]), (100, 40, []), (9, 4, [some 91, none, none, none]), (100, 7, [])]
def S_181 : List SE := [(11, 13, [some 2, some 25, none, none, none, none, none, none, none, none, none, none, some 1]), (100, 12, []), (1, 11, [some 3, some 5, some 7, some 9, some 11, some 13, some 15, some 17, some 19, some 21, some 23]), (9, 4, [some 4, none, none, none]), (100, 96, []), (9, 4, [some 6, none, none, none]), (100, 40, []), (9, 4, [some 8, none, none, none]), (100, 7, []), (9, 4, [some 10, none, none, none]), (100, 600, []), (9, 4, [some 12, none, none, none]), (100, 64, []), (9, 4, [some 14, none, none, none]), (100, 800, []), (9, 4, [some 16, none, none, none]), (100, 64, []), (9, 4, [some 18, none, none, none]), (100, 64, []), (9, 4, [some 20, none, none, none]), (100, 64, []), (9, 4, [some 22, none, none, none]), (100, 16, []), (9, 4, [some 24, none, none, none]), (100, 10, []), (1, 11, [some 26, some 28, some 30, some 32, some 34, some 36, some 38, some 40, some 42, some 44, some 46]), (9, 4, [some 27, none, none, none]), (100, 96, []), (9, 4, [some 29, none, none, none]), (100, 40, []), (9, 4, [some 31, none, none, none]), (100, 7, []), (9, 4, [some 33, none, none, none]), (100, 600, []), (9, 4, [some 35, none, none, none]), (100, 64, []), (9, 4, [some 37, none, none, none]), (100, 800, []), (9, 4, [some 39, none, none, none]), (100, 64, []), (9, 4, [some 41, none, none, none]), (100, 64, []), (9, 4, [some 43, none, none, none]), (100, 64, []), (9, 4, [some 45, none, none, none]), (100, 16, []), (9, 4, [some 47, none, none, none]), (100, 10, []), (4, 3, [some 49, none, none]), (101, 6, [some 50, some 57, some 64, some 71, some 78, none]), (3, 4, [some 51, some 53, some 55, none]), (9, 4, [some 52, none, none, none]), (100, 96, []), (9, 4, [some 54, none, none, none]), (100, 40, []), (9, 4, [some 56, none, none, none]), (100, 7, []), (3, 4, [some 58, some 60, some 62, none]), (9, 4, [some 59, none, none, none]), (100, 96, []), (9, 4, [some 61, none, none, none]), (100, 40, []), (9, 4, [some 63, none, none, none]), (100, 7, []), (3, 4, [some 65, some 67, some 69, none]), (9, 4, [some 66, none, none, none]), (100, 96, []), (9, 4, [some 68, none, none, none]), (100, 40, []), (9, 4, [some 70, none, none, none]), (100, 7, []), (3, 4, [some 72, some 74, some 76, none]), (9, 4, [some 73, none, none, none]), (100, 96, []), (9, 4, [some 75, none, none, none]), (100, 40, []), (9, 4, [some 77, none, none, none]), (100, 7, []), (3, 4, [some 79, some 81, some 83, none]), (9, 4, [some 80, none, none, none]), (100, 96, []), (9, 4, [some 82, none, none, none]), (100, 40, []), (9, 4, [some 84, none, none, none]), (100, 7, []), (3, 4, [some 86, some 88, some 90, none]), (9, 4, [some 87, none, none, none]), (100, 96, []), (9, 4, [some 89, none, none, none]), (100, 40, []), (9, 4, [some 91, none, none, none]), (100, 7, [])]
def S_182 : List SE := [(11, 13, [some 2, some 25, none, none, none, none, none, none, none, none, none, none, some 1]), (100, 12, []), (1, 11, [some 3, some 5, some 7, some 9, some 11, some 13, some 15, some 17, some 19, some 21, some 23]), (9, 4, [some 4, none, none, none]), (100, 96, []), (9, 4, [some 6, none, none, none]), (100, 40, []), (9, 4, [some 8, none, none, none]), (100, 7, []), (9, 4, [some 10, none, none, none]), (100, 600, []), (9, 4, [some 12, none, none, none]), (100, 64, []), (9, 4, [some 14, none, none, none]), (100, 800, []), (9, 4, [some 16, none, none, none]), (100, 64, []), (9, 4, [some 18, none, none, none]), (100, 64, []), (9, 4, [some 20, none, none, none]), (100, 64, []), (9, 4, [some 22, none, none, none]), (100, 16, []), (9, 4, [some 24, none, none, none]), (100, 10, []), (1, 11, [some 26, some 28, some 30, some 32, some 34, some 36, some 38, some 40, some 42, some 44, some 46]), (9, 4, [some 27, none, none, none]), (100, 96, []), (9, 4, [some 29, none, none, none]), (100, 40, []), (9, 4, [some 31, none, none, none]), (100, 7, []), (9, 4, [some 33, none, none, none]), (100, 600, []), (9, 4, [some 35, none, none, none]), (100, 64, []), (9, 4, [some 37, none, none, none]), (100, 800, []), (9, 4, [some 39, none, none, none]), (100, 64, []), (9, 4, [some 41, none, none, none]), (100, 64, []), (9, 4, [some 43, none, none, none]), (100, 64, []), (9, 4, [some 45, none, none, none]), (100, 16, []), (9, 4, [some 47, none, none, none]), (100, 10, []), (4, 3, [some 49, none, none]), (101, 6, [some 50, some 57, some 64, some 71, some 78, some 85]), (3, 4, [some 51, some 53, some 55, none]), (9, 4, [some 52, none, none, none]), (100, 96, []), (9, 4, [some 54, none, none, none]), (100, 40, []), (9, 4, [some 56, none, none, none]), (100, 7, []), (3, 4, [some 58, some 60, some 62, none]), (9, 4, [some 59, none, none, none]), (100, 96, []), (9, 4, [some 61, none, none, none]), (100, 40, []), (9, 4, [some 63, none, none, none]), (100, 7, []), (3, 4, [some 65, some 67, some 69, none]), (9, 4, [some 66, none, none, none]), (100, 96, []), (9, 4, [some 68, none, none, none]), (100, 40, []), (9, 4, [some 70, none, none, none]), (100, 7, []), (3, 4, [some 72, some 74, some 76, none]), (9, 4, [some 73, none, none, none]), (100, 96, []), (9, 4, [some 75, none, none, none]), (100, 40, []), (9, 4, [some 77, none, none, none]), (100, 7, []), (3, 4, [some 79, some 81, some 83, none]), (9, 4, [some 80, none, none, none]), (100, 96, []), (9, 4, [some 82, none, none, none]), (100, 40, []), (9, 4, [some 84, none, none, none]), (100, 7, []), (3, 4, [some 86, some 88, some 90, none]), (9, 4, [some 87, none, none, none]), (100, 96, []), (9, 4, [some 89, none, none, none]), (100, 40, []), (9, 4, [some 91, none, none, none]), (100, 7, [])]
def S_183 : List SE := [(11, 13, [some 2, some 25, none, some 48, none, none, none, none, none, none, none, none, some 1]), (100, 12, []), (1, 11, [some 3, some 5, some 7, some 9, some 11, some 13, some 15, some 17, some 19, some 21, some 23]), (9, 4, [some 4, none, none, none]), (100, 96, []), (9, 4, [some 6, none, none, none]), (100, 40, []), (9, 4, [some 8, none, none, none]), (100, 7, []), (9, 4, [some 10, none, none, none]), (100, 600, []), (9, 4, [some 12, none, none, none]), (100, 64, []), (9, 4, [some 14, none, none, none]), (100, 800, []), (9, 4, [some 16, none, none, none]), (100, 64, []), (9, 4, [some 18, none, none, none]), (100, 64, []), (9, 4, [some 20, none, none, none]), (100, 64, []), (9, 4, [some 22, none, none, none]), (100, 16, []), (9, 4, [some 24, none, none, none]), (100, 10, []), (1, 11, [some 26, some 28, some 30, some 32, some 34, some 36, some 38, some 40, some 42, some 44, some 46]), (9, 4, [some 27, none, none, none]), (100, 96, []), (9, 4, [some 29, none, none, none]), (100, 40, []), (9, 4, [some 31, none, none, none]), (100, 7, []), (9, 4, [some 33, none, none, none]), (100, 600, []), (9, 4, [some 35, none, none, none]), (100, 64, []), (9, 4, [some 37, none, none, none]), (100, 800, []), (9, 4, [some 39, none, none, none]), (100, 64, []), (9, 4, [some 41, none, none, none]), (100, 64, []), (9, 4, [some 43, none, none, none]), (100, 64, []), (9, 4, [some 45, none, none, none]), (100, 16, []), (9, 4, [some 47, none, none, none]), (100, 10, []), (4, 3, [some 49, none, none]), (101, 6, [some 50, some 57, some 64, some 71, some 78, some 85]), (3, 4, [some 51, some 53, some 55, none]), (9, 4, [some 52, none, none, none]), (100, 96, []), (9, 4, [some 54, none, none, none]), (100, 40, []), (9, 4, [some 56, none, none, none]), (100, 7, []), (3, 4, [some 58, some 60, some 62, none]), (9, 4, [some 59, none, none, none]), (100, 96, []), (9, 4, [some 61, none, none, none]), (100, 40, []), (9, 4, [some 63, none, none, none]), (100, 7, []), (3, 4, [some 65, some 67, some 69, none]), (9, 4, [some 66, none, none, none]), (100, 96, []), (9, 4, [some 68, none, none, none]), (100, 40, []), (9, 4, [some 70, none, none, none]), (100, 7, []), (3, 4, [some 72, some 74, some 76, none]), (9, 4, [some 73, none, none, none]), (100, 96, []), (9, 4, [some 75, none, none, none]), (100, 40, []), (9, 4, [some 77, none, none, none]), (100, 7, []), (3, 4, [some 79, some 81, some 83, none]), (9, 4, [some 80, none, none, none]), (100, 96, []), (9, 4, [some 82, none, none, none]), (100, 40, []), (9, 4, [some 84, none, none, none]), (100, 7, []), (3, 4, [some 86, some 88, some 90, none]), (9, 4, [some 87, none, none, none]), (100, 96, []), (9, 4, [some 89, none, none, none]), (100, 40, []), (9, 4, [some 91, none, none, none]), (100, 7, [])]
def S_184 : List SE := [(11, 13, [some 2, some 25, none, some 48, none, none, none, none, none, none, none, none, some 1]), (100, 12, []), (1, 11, [some 3, some 5, some 7, some 9, some 11, some 13, some 15, some 17, some 19, some 21, some 23]), (9, 4, [some 4, none, none, none]), (100, 96, []), (9, 4, [some 6, none, none, none]), (100, 40, []), (9, 4, [some 8, none, none, none]), (100, 7, []), (9, 4, [some 10, none, none, none]), (100, 600, []), (9, 4, [some 12, none, none, none]), (100, 64, []), (9, 4, [some 14, none, none, none]), (100, 800, []), (9, 4, [some 16, none, none, none]), (100, 64, []), (9, 4, [some 18, none, none, none]), (100, 64, []), (9, 4, [some 20, none, none, none]), (100, 64, []), (9, 4, [some 22, none, none, none]), (100, 16, []), (9, 4, [some 24, none, none, none]), (100, 10, []), (1, 11, [some 26, some 28, some 30, some 32, some 34, some 36, some 38, some 40, some 42, some 44, some 46]), (9, 4, [some 27, none, none, none]), (100, 96, []), (9, 4, [some 29, none, none, none]), (100, 40, []), (9, 4, [some 31, none, none, none]), (100, 7, []), (9, 4, [some 33, none, none, none]), (100, 600, []), (9, 4, [some 35, none, none, none]), (100, 64, []), (9, 4, [some 37, none, none, none]), (100, 800, []), (9, 4, [some 39, none, none, none]), (100, 64, []), (9, 4, [some 41, none, none, none]), (100, 64, []), (9, 4, [some 43, none, none, none]), (100, 64, []), (9, 4, [some 45, none, none, none]), (100, 16, []), (9, 4, [some 47, none, none, none]), (100, 10, []), (4, 3, [some 49, none, none]), (101, 6, [some 50, some 57, some 64, some 71, some 78, some 85]), (3, 4, [some 51, some 53, some 55, none]), (9, 4, [some 52, none, none, none]), (100, 96, []), (9, 4, [some 54, none, none, none]), (100, 40, []), (9, 4, [some 56, none, none, none]), (100, 7, []), (3, 4, [some 58, some 60, some 62, none]), (9, 4, [some 59, none, none, none]), (100, 96, []), (9, 4, [some 61, none, none, none]), (100, 40, []), (9, 4, [some 63, none, none, none]), (100, 7, []), (3, 4, [some 65, some 67, some 69, none]), (9, 4, [some 66, none, none, none]), (100, 96, []), (9, 4, [some 68, none, none, none]), (100, 40, []), (9, 4, [some 70, none, none, none]), (100, 7, []), (3, 4, [some 72, some 74, some 76, none]), (9, 4, [some 73, none, none, none]), (100, 96, []), (9, 4, [some 75, none, none, none]), (100, 40, []), (9, 4, [some 77, none, none, none]), (100, 7, []), (3, 4, [some 79, some 81, some 83, none]), (9, 4, [some 80, none, none, none]), (100, 96, []), (9, 4, [some 82, none, none, none]), (100, 40, []), (9, 4, [some 84, none, none, none]), (100, 7, []), (3, 4, [some 86, some 88, some 90, none]), (9, 4, [some 87, none, none, none]), (100, 96, []), (9, 4, [some 89, none, none, none]), (100, 40, []), (9, 4, [some 91, none, none, none]), (100, 7, []), (3, 4, [none, none, none, none])]
def S_185 : List SE := [(11, 13, [some 2, some 25, none, some 48, none, none, none, none, none, none, none, none, some 1]), (100, 12, []), (1, 11, [some 3, some 5, some 7, some 9, some 11, some 13, some 15, some 17, some 19, some 21, some 23]), (9, 4, [some 4, none, none, none]), (100, 96, []), (9, 4, [some 6, none, none, none]), (100, 40, []), (9, 4, [some 8, none, none, none]), (100, 7, []), (9, 4, [some 10, none, none, none]), (100, 600, []), (9, 4, [some 12, none, none, none]), (100, 64, []), (9, 4, [some 14, none, none, none]), (100, 800, []), (9, 4, [some 16, none, none, none]), (100, 64, []), (9, 4, [some 18, none, none, none]), (100, 64, []), (9, 4, [some 20, none, none, none]), (100, 64, []), (9, 4, [some 22, none, none, none]), (100, 16, []), (9, 4, [some 24, none, none, none]), (100, 10, []), (1, 11, [some 26, some 28, some 30, some 32, some 34, some 36, some 38, some 40, some 42, some 44, some 46]), (9, 4, [some 27, none, none, none]), (100, 96, []), (9, 4, [some 29, none, none, none]), (100, 40, []), (9, 4, [some 31, none, none, none]), (100, 7, []), (9, 4, [some 33, none, none, none]), (100, 600, []), (9, 4, [some 35, none, none, none]), (100, 64, []), (9, 4, [some 37, none, none, none]), (100, 800, []), (9, 4, [some 39, none, none, none]), (100, 64, []), (9, 4, [some 41, none, none, none]), (100, 64, []), (9, 4, [some 43, none, none, none]), (100, 64, []), (9, 4, [some 45, none, none, none]), (100, 16, []), (9, 4, [some 47, none, none, none]), (100, 10, []), (4, 3, [some 49, none, none]), (101, 6, [some 50, some 57, some 64, some 71, some 78, some 85]), (3, 4, [some 51, some 53, some 55, none]), (9, 4, [some 52, none, none, none]), (100, 96, []), (9, 4, [some 54, none, none, none]), (100, 40, []), (9, 4, [some 56, none, none, none]), (100, 7, []), (3, 4, [some 58, some 60, some 62, none]), (9, 4, [some 59, none, none, none]), (100, 96, []), (9, 4, [some 61, none, none, none]), (100, 40, []), (9, 4, [some 63, none, none, none]), (100, 7, []), (3, 4, [some 65, some 67, some 69, none]), (9, 4, [some 66, none, none, none]), (100, 96, []), (9, 4, [some 68, none, none, none]), (100, 40, []), (9, 4, [some 70, none, none, none]), (100, 7, []), (3, 4, [some 72, some 74, some 76, none]), (9, 4, [some 73, none, none, none]), (100, 96, []), (9, 4, [some 75, none, none, none]), (100, 40, []), (9, 4, [some 77, none, none, none]), (100, 7, []), (3, 4, [some 79, some 81, some 83, none]), (9, 4, [some 80, none, none, none]), (100, 96, []), (9, 4, [some 82, none, none, none]), (100, 40, []), (9, 4, [some 84, none, none, none]), (100, 7, []), (3, 4, [some 86, some 88, some 90, none]), (9, 4, [some 87, none, none, none]), (100, 96, []), (9, 4, [some 89, none, none, none]), (100, 40, []), (9, 4, [some 91, none, none, none]), (100, 7, []), (3, 4, [none, none, none, none]), (9, 4, [none, none, none, none])]
def S_186 : List SE := [(11, 13, [some 2, some 25, none, some 48, none, none, none, none, none, none, none, none, some 1]), (100, 12, []), (1, 11, [some 3, some 5, some 7, some 9, some 11, some 13, some 15, some 17, some 19, some 21, some 23]), (9, 4, [some 4, none, none, none]), (100, 96, []), (9, 4, [some 6, none, none, none]), (100, 40, []), (9, 4, [some 8, none, none, none]), (100, 7, []), (9, 4, [some 10, none, none, none]), (100, 600, []), (9, 4, [some 12, none, none, none]), (100, 64, []), (9, 4, [some 14, none, none, none]), (100, 800, []), (9, 4, [some 16, none, none, none]), (100, 64, []), (9, 4, [some 18, none, none, none]), (100, 64, []), (9, 4, [some 20, none, none, none]), (100, 64, []), (9, 4, [some 22, none, none, none]), (100, 16, []), (9, 4, [some 24, none, none, none]), (100, 10, []), (1, 11, [some 26, some 28, some 30, some 32, some 34, some 36, some 38, some 40, some 42, some 44, some 46]), (9, 4, [some 27, none, none, none]), (100, 96, []), (9, 4, [some 29, none, none, none]), (100, 40, []), (9, 4, [some 31, none, none, none]), (100, 7, []), (9, 4, [some 33, none, none, none]), (100, 600, []), (9, 4, [some 35, none, none, none]), (100, 64, []), (9, 4, [some 37, none, none, none]), (100, 800, []), (9, 4, [some 39, none, none, none]), (100, 64, []), (9, 4, [some 41, none, none, none]), (100, 64, []), (9, 4, [some 43, none, none, none]), (100, 64, []), (9, 4, [some 45, none, none, none]), (100, 16, []), (9, 4, [some 47, none, none, none]), (100, 10, []), (4, 3, [some 49, none, none]), (101, 6, [some 50, some 57, some 64, some 71, some 78, some 85]), (3, 4, [some 51, some 53, some 55, none]), (9, 4, [some 52, none, none, none]), (100, 96, []), (9, 4, [some 54, none, none, none]), (100, 40, []), (9, 4, [some 56, none, none, none]), (100, 7, []), (3, 4, [some 58, some 60, some 62, none]), (9, 4, [some 59, none, none, none]), (100, 96, []), (9, 4, [some 61, none, none, none]), (100, 40, []), (9, 4, [some 63, none, none, none]), (100, 7, []), (3, 4, [some 65, some 67, some 69, none]), (9, 4, [some 66, none, none, none]), (100, 96, []), (9, 4, [some 68, none, none, none]), (100, 40, []), (9, 4, [some 70, none, none, none]), (100, 7, []), (3, 4, [some 72, some 74, some 76, none]), (9, 4, [some 73, none, none, none]), (100, 96, []), (9, 4, [some 75, none, none, none]), (100, 40, []), (9, 4, [some 77, none, none, none]), (100, 7, []), (3, 4, [some 79, some 81, some 83, none]), (9, 4, [some 80, none, none, none]), (100, 96, []), (9, 4, [some 82, none, none, none]), (100, 40, []), (9, 4, [some 84, none, none, none]), (100, 7, []), (3, 4, [some 86, some 88, some 90, none]), (9, 4, [some 87, none, none, none]), (100, 96, []), (9, 4, [some 89, none, none, none]), (100, 40, []), (9, 4, [some 91, none, none, none]), (100, 7, []), (3, 4, [none, none, none, none]), (9, 4, [none, none, none, none]), (100, 96, [])]
def S_187 : List SE := [(11, 13, [some 2, some 25, none, some 48, none, none, none, none, none, none, none, none, some 1]), (100, 12, []), (1, 11, [some 3, some 5, some 7, some 9, some 11, some 13, some 15, some 17, some 19, some 21, some 23]), (9, 4, [some 4, none, none, none]), (100, 96, []), (9, 4, [some 6, none, none, none]), (100, 40, []), (9, 4, [some 8, none, none, none]), (100, 7, []), (9, 4, [some 10, none, none, none]), (100, 600, []), (9, 4, [some 12, none, none, none]), (100, 64, []), (9, 4, [some 14, none, none, none]), (100, 800, []), (9, 4, [some 16, none, none, none]), (100, 64, []), (9, 4, [some 18, none, none, none]), (100, 64, []), (9, 4, [some 20, none, none, none]), (100, 64, []), (9, 4, [some 22, none, none, none]), (100, 16, []), (9, 4, [some 24, none, none, none]), (100, 10, []), (1, 11, [some 26, some 28, some 30, some 32, some 34, some 36, some 38, some 40, some 42, some 44, some 46]), (9, 4, [some 27, none, none, none]), (100, 96, []), (9, 4, [some 29, none, none, none]), (100, 40, []), (9, 4, [some 31, none, none, none]), (100, 7, []), (9, 4, [some 33, none, none, none]), (100, 600, []), (9, 4, [some 35, none, none, none]), (100, 64, []), (9, 4, [some 37, none, none, none]), (100, 800, []), (9, 4, [some 39, none, none, none]), (100, 64, []), (9, 4, [some 41, none, none, none]), (100, 64, []), (9, 4, [some 43, none, none, none]), (100, 64, []), (9, 4, [some 45, none, none, none]), (100, 16, []), (9, 4, [some 47, none, none, none]), (100, 10, []), (4, 3, [some 49, none, none]), (101, 6, [some 50, some 57, some 64, some 71, some 78, some 85]), (3, 4, [some 51, some 53, some 55, none]), (9, 4, [some 52, none, none, none]), (100, 96, []), (9, 4, [some 54, none, none, none]), (100, 40, []), (9, 4, [some 56, none, none, none]), (100, 7, []), (3, 4, [some 58, some 60, some 62, none]), (9, 4, [some 59, none, none, none]), (100, 96, []), (9, 4, [some 61, none, none, none]), (100, 40, []), (9, 4, [some 63, none, none, none]), (100, 7, []), (3, 4, [some 65, some 67, some 69, none]), (9, 4, [some 66, none, none, none]), (100, 96, []), (9, 4, [some 68, none, none, none]), (100, 40, []), (9, 4, [some 70, none, none, none]), (100, 7, []), (3, 4, [some 72, some 74, some 76, none]), (9, 4, [some 73, none, none, none]), (100, 96, []), (9, 4, [some 75, none, none, none]), (100, 40, []), (9, 4, [some 77, none, none, none]), (100, 7, []), (3, 4, [some 79, some 81, some 83, none]), (9, 4, [some 80, none, none, none]), (100, 96, []), (9, 4, [some 82, none, none, none]), (100, 40, []), (9, 4, [some 84, none, none, none]), (100, 7, []), (3, 4, [some 86, some 88, some 90, none]), (9, 4, [some 87, none, none, none]), (100, 96, []), (9, 4, [some 89, none, none, none]), (100, 40, []), (9, 4, [some 91, none, none, none]), (100, 7, []), (3, 4, [none, none, none, none]), (9, 4, [some 94, none, none, none]), (100, 96, [])]
def S_188 : List SE := [(11, 13, [some 2, some 25, none, some 48, none, none, none, none, none, none, none, none, some 1]), (100, 12, []), (1, 11, [some 3, some 5, some 7, some 9, some 11, some 13, some 15, some 17, some 19, some 21, some 23]), (9, 4, [some 4, none, none, none]), (100, 96, []), (9, 4, [some 6, none, none, none]), (100, 40, []), (9, 4, [some 8, none, none, none]), (100, 7, []), (9, 4, [some 10, none, none, none]), (100, 600, []), (9, 4, [some 12, none, none, none]), (100, 64, []), (9, 4, [some 14, none, none, none]), (100, 800, []), (9, 4, [some 16, none, none, none]), (100, 64, []), (9, 4, [some 18, none, none, none]), (100, 64, []), (9, 4, [some 20, none, none, none]), (100, 64, []), (9, 4, [some 22, none, none, none]), (100, 16, []), (9, 4, [some 24, none, none, none]), (100, 10, []), (1, 11, [some 26, some 28, some 30, some 32, some 34, some 36, some 38, some 40, some 42, some 44, some 46]), (9, 4, [some 27, none, none, none]), (100, 96, []), (9, 4, [some 29, none, none, none]), (100, 40, []), (9, 4, [some 31, none, none, none]), (100, 7, []), (9, 4, [some 33, none, none, none]), (100, 600, []), (9, 4, [some 35, none, none, none]), (100, 64, []), (9, 4, [some 37, none, none, none]), (100, 800, []), (9, 4, [some 39, none, none, none]), (100, 64, []), (9, 4, [some 41, none, none, none]), (100, 64, []), (9, 4, [some 43, none, none, none]), (100, 64, []), (9, 4, [some 45, none, none, none]), (100, 16, []), (9, 4, [some 47, none, none, none]), (100, 10, []), (4, 3, [some 49, none, none]), (101, 6, [some 50, some 57, some 64, some 71, some 78, some 85]), (3, 4, [some 51, some 53, some 55, none]), (9, 4, [some 52, none, none, none]), (100, 96, []), (9, 4, [some 54, none, none, none]), (100, 40, []), (9, 4, [some 56, none, none, none]), (100, 7, []), (3, 4, [some 58, some 60, some 62, none]), (9, 4, [some 59, none, none, none]), (100, 96, []), (9, 4, [some 61, none, none, none]), (100, 40, []), (9, 4, [some 63, none, none, none]), (100, 7, []), (3, 4, [some 65, some 67, some 69, none]), (9, 4, [some 66, none, none, none]), (100, 96, []), (9, 4, [some 68, none, none, none]), (100, 40, []), (9, 4, [some 70, none, none, none]), (100, 7, []), (3, 4, [some 72, some 74, some 76, none]), (9, 4, [some 73, none, none, none]), (100, 96, []), (9, 4, [some 75, none, none, none]), (100, 40, []), (9, 4, [some 77, none, none, none]), (100, 7, []), (3, 4, [some 79, some 81, some 83, none]), (9, 4, [some 80, none, none, none]), (100, 96, []), (9, 4, [some 82, none, none, none]), (100, 40, []), (9, 4, [some 84, none, none, none]), (100, 7, []), (3, 4, [some 86, some 88, some 90, none]), (9, 4, [some 87, none, none, none]), (100, 96, []), (9, 4, [some 89, none, none, none]), (100, 40, []), (9, 4, [some 91, none, none, none]), (100, 7, []), (3, 4, [some 93, none, none, none]), (9, 4, [some 94, none, none, none]), (100, 96, [])]
def S_189 : List SE := [(11, 13, [some 2, some 25, none, some 48, none, none, none, none, none, none, none, none, some 1]), (100, 12, []), (1, 11, [some 3, some 5, some 7, some 9, some 11, some 13, some 15, some 17, some 19, some 21, some 23]), (9, 4, [some 4, none, none, none]), (100, 96, []), (9, 4, [some 6, none, none, none]), (100, 40, []), (9, 4, [some 8, none, none, none]), (100, 7, []), (9, 4, [some 10, none, none, none]), (100, 600, []), (9, 4, [some 12, none, none, none]), (100, 64, []), (9, 4, [some 14, none, none, none]), (100, 800, []), (9, 4, [some 16, none, none, none]), (100, 64, []), (9, 4, [some 18, none, none, none]), (100, 64, []), (9, 4, [some 20, none, none, none]), (100, 64, []), (9, 4, [some 22, none, none, none]), (100, 16, []), (9, 4, [some 24, none, none, none]), (100, 10, []), (1, 11, [some 26, some 28, some 30, some 32, some 34, some 36, some 38, some 40, some 42, some 44, some 46]), (9, 4, [some 27, none, none, none]), (100, 96, []), (9, 4, [some 29, none, none, none]), (100, 40, []), (9, 4, [some 31, none, none, none]), (100, 7, []), (9, 4, [some 33, none, none, none]), (100, 600, []), (9, 4, [some 35, none, none, none]), (100, 64, []), (9, 4, [some 37, none, none, none]), (100, 800, []), (9, 4, [some 39, none, none, none]), (100, 64, []), (9, 4, [some 41, none, none, none]), (100, 64, []), (9, 4, [some 43, none, none, none]), (100, 64, []), (9, 4, [some 45, none, none, none]), (100, 16, []), (9, 4, [some 47, none, none, none]), (100, 10, []), (4, 3, [some 49, none, none]), (101, 6, [some 50, some 57, some 64, some 71, some 78, some 85]), (3, 4, [some 51, some 53, some 55, none]), (9, 4, [some 52, none, none, none]), (100, 96, []), (9, 4, [some 54, none, none, none]), (100, 40, []), (9, 4, [some 56, none, none, none]), (100, 7, []), (3, 4, [some 58, some 60, some 62, none]), (9, 4, [some 59, none, none, none]), (100, 96, []), (9, 4, [some 61, none, none, none]), (100, 40, []), (9, 4, [some 63, none, none, none]), (100, 7, []), (3, 4, [some 65, some 67, some 69, none]), (9, 4, [some 66, none, none, none]), (100, 96, []), (9, 4, [some 68, none, none, none]), (100, 40, []), (9, 4, [some 70, none, none, none]), (100, 7, []), (3, 4, [some 72, some 74, some 76, none]), (9, 4, [some 73, none, none, none]), (100, 96, []), (9, 4, [some 75, none, none, none]), (100, 40, []), (9, 4, [some 77, none, none, none]), (100, 7, []), (3, 4, [some 79, some 81, some 83, none]), (9, 4, [some 80, none, none, none]), (100, 96, []), (9, 4, [some 82, none, none, none]), (100, 40, []), (9, 4, [some 84, none, none, none]), (100, 7, []), (3, 4, [some 86, some 88, some 90, none]), (9, 4, [some 87, none, none, none]), (100, 96, []), (9, 4, [some 89, none, none, none]), (100, 40, []), (9, 4, [some 91, none, none, none]), (100, 7, []), (3, 4, [some 93, none, none, none]), (9, 4, [some 94, none, none, none]), (100, 96, []), (9, 4, [none, none, none, none])]
def S_190 : List SE := [(11, 13, [some 2, some 25, none, some 48, none, none, none, none, none, none, none, none, some 1]), (100, 12, []), (1, 11, [some 3, some 5, some 7, some 9, some 11, some 13, some 15, some 17, some 19, some 21, some 23]), (9, 4, [some 4, none, none, none]), (100, 96, []), (9, 4, [some 6, none, none, none]), (100, 40, []), (9, 4, [some 8, none, none, none]), (100, 7, []), (9, 4, [some 10, none, none, none]), (100, 600, []), (9, 4, [some 12, none, none, none]), (100, 64, []), (9, 4, [some 14, none, none, none]), (100, 800, []), (9, 4, [some 16, none, none, none]), (100, 64, []), (9, 4, [some 18, none, none, none]), (100, 64, []), (9, 4, [some 20, none, none, none]), (100, 64, []), (9, 4, [some 22, none, none, none]), (100, 16, []), (9, 4, [some 24, none, none, none]), (100, 10, []), (1, 11, [some 26, some 28, some 30, some 32, some 34, some 36, some 38, some 40, some 42, some 44, some 46]), (9, 4, [some 27, none, none, none]), (100, 96, []), (9, 4, [some 29, none, none, none]), (100, 40, []), (9, 4, [some 31, none, none, none]), (100, 7, []), (9, 4, [some 33, none, none, none]), (100, 600, []), (9, 4, [some 35, none, none, none]), (100, 64, []), (9, 4, [some 37, none, none, none]), (100, 800, []), (9, 4, [some 39, none, none, none]), (100, 64, []), (9, 4, [some 41, none, none, none]), (100, 64, []), (9, 4, [some 43, none, none, none]), (100, 64, []), (9, 4, [some 45, none, none, none]), (100, 16, []), (9, 4, [some 47, none, none, none]), (100, 10, []), (4, 3, [some 49, none, none]), (101, 6, [some 50, some 57, some 64, some 71, some 78, some 85]), (3, 4, [some 51, some 53, some 55, none]), (9, 4, [some 52, none, none, none]), (100, 96, []), (9, 4, [some 54, none, none, none]), (100, 40, []), (9, 4, [some 56, none, none, none]), (100, 7, []), (3, 4, [some 58, some 60, some 62, none]), (9, 4, [some 59, none, none, none]), (100, 96, []), (9, 4, [some 61, none, none, none]), (100, 40, []), (9, 4, [some 63, none, none, none]), (100, 7, []), (3, 4, [some 65, some 67, some 69, none]), (9, 4, [some 66, none, none, none]), (100, 96, []), (9, 4, [some 68, none, none, none]), (100, 40, []), (9, 4, [some 70, none, none, none]), (100, 7, []), (3, 4, [some 72, some 74, some 76, none]), (9, 4, [some 73, none, none, none]), (100, 96, []), (9, 4, [some 75, none, none, none]), (100, 40, []), (9, 4, [some 77, none, none, none]), (100, 7, []), (3, 4, [some 79, some 81, some 83, none]), (9, 4, [some 80, none, none, none]), (100, 96, []), (9, 4, [some 82, none, none, none]), (100, 40, []), (9, 4, [some 84, none, none, none]), (100, 7, []), (3, 4, [some 86, some 88, some 90, none]), (9, 4, [some 87, none, none, none]), (100, 96, []), (9, 4, [some 89, none, none, none]), (100, 40, []), (9, 4, [some 91, none, none, none]), (100, 7, []), (3, 4, [some 93, none, none, none]), (9, 4, [some 94, none, none, none]), (100, 96, []), (9, 4, [none, none, none, none]), (100, 40, [])]
def S_191 : List SE := [(11, 13, [some 2, some 25, none, some 48, none, none, none, none, none, none, none, none, some 1]), (100, 12, []), (1, 11, [some 3, some 5, some 7, some 9, some 11, some 13, some 15, some 17, some 19, some 21, some 23]), (9, 4, [some 4, none, none, none]), (100, 96, []), (9, 4, [some 6, none, none, none]), (100, 40, []), (9, 4, [some 8, none, none, none]), (100, 7, []), (9, 4, [some 10, none, none, none]), (100, 600, []), (9, 4, [some 12, none, none, none]), (100, 64, []), (9, 4, [some 14, none, none, none]), (100, 800, []), (9, 4, [some 16, none, none, none]), (100, 64, []), (9, 4, [some 18, none, none, none]), (100, 64, []), (9, 4, [some 20, none, none, none]), (100, 64, []), (9, 4, [some 22, none, none, none]), (100, 16, []), (9, 4, [some 24, none, none, none]), (100, 10, []), (1, 11, [some 26, some 28, some 30, some 32, some 34, some 36, some 38, some 40, some 42, some 44, some 46]), (9, 4, [some 27, none, none, none]), (100, 96, []), (9, 4, [some 29, none, none, none]), (100, 40, []), (9, 4, [some 31, none, none, none]), (100, 7, []), (9, 4, [some 33, none, none, none]), (100, 600, []), (9, 4, [some 35, none, none, none]), (100, 64, []), (9, 4, [some 37, none, none, none]), (100, 800, []), (9, 4, [some 39, none, none, none]), (100, 64, []), (9, 4, [some 41, none, none, none]), (100, 64, []), (9, 4, [some 43, none, none, none]), (100, 64, []), (9, 4, [some 45, none, none, none]), (100, 16, []), (9, 4, [some 47, none, none, none]), (100, 10, []), (4, 3, [some 49, none, none]), (101, 6, [some 50, some 57, some 64, some 71, some 78, some 85]), (3, 4, [some 51, some 53, some 55, none]), (9, 4, [some 52, none, none, none]), (100, 96, []), (9, 4, [some 54, none, none, none]), (100, 40, []), (9, 4, [some 56, none, none, none]), (100, 7, []), (3, 4, [some 58, some 60, some 62, none]), (9, 4, [some 59, none, none, none]), (100, 96, []), (9, 4, [some 61, none, none, none]), (100, 40, []), (9, 4, [some 63, none, none, none]), (100, 7, []), (3, 4, [some 65, some 67, some 69, none]), (9, 4, [some 66, none, none, none]), (100, 96, []), (9, 4, [some 68, none, none, none]), (100, 40, []), (9, 4, [some 70, none, none, none]), (100, 7, []), (3, 4, [some 72, some 74, some 76, none]), (9, 4, [some 73, none, none, none]), (100, 96, []), (9, 4, [some 75, none, none, none]), (100, 40, []), (9, 4, [some 77, none, none, none]), (100, 7, []), (3, 4, [some 79, some 81, some 83, none]), (9, 4, [some 80, none, none, none]), (100, 96, []), (9, 4, [some 82, none, none, none]), (100, 40, []), (9, 4, [some 84, none, none, none]), (100, 7, []), (3, 4, [some 86, some 88, some 90, none]), (9, 4, [some 87, none, none, none]), (100, 96, []), (9, 4, [some 89, none, none, none]), (100, 40, []), (9, 4, [some 91, none, none, none]), (100, 7, []), (3, 4, [some 93, none, none, none]), (9, 4, [some 94, none, none, none]), (100, 96, []), (9, 4, [some 96, none, none, none]), (100, 40, [])]
def S_192 : List SE := [(11, 13, [some 2, some 25, none, some 48, none, none, none, none, none, none, none, none, some 1]), (100, 12, []), (1, 11, [some 3, some 5, some 7, some 9, some 11, some 13, some 15, some 17, some 19, some 21, some 23]), (9, 4, [some 4, none, none, none]), (100, 96, []), (9, 4, [some 6, none, none, none]), (100, 40, []), (9, 4, [some 8, none, none, none]), (100, 7, []), (9, 4, [some 10, none, none, none]), (100, 600, []), (9, 4, [some 12, none, none, none]), (100, 64, []), (9, 4, [some 14, none, none, none]), (100, 800, []), (9, 4, [some 16, none, none, none]), (100, 64, []), (9, 4, [some 18, none, none, none]), (100, 64, []), (9, 4, [some 20, none, none, none]), (100, 64, []), (9, 4, [some 22, none, none, none]), (100, 16, []), (9, 4, [some 24, none, none, none]), (100, 10, []), (1, 11, [some 26, some 28, some 30, some 32, some 34, some 36, some 38, some 40, some 42, some 44, some 46]), (9, 4, [some 27, none, none, none]), (100, 96, []), (9, 4, [some 29, none, none, none]), (100, 40, []), (9, 4, [some 31, none, none, none]), (100, 7, []), (9, 4, [some 33, none, none, none]), (100, 600, []), (9, 4, [some 35, none, none, none]), (100, 64, []), (9, 4, [some 37, none, none, none]), (100, 800, []), (9, 4, [some 39, none, none, none]), (100, 64, []), (9, 4, [some 41, none, none, none]), (100, 64, []), (9, 4, [some 43, none, none, none]), (100, 64, []), (9, 4, [some 45, none, none, none]), (100, 16, []), (9, 4, [some 47, none, none, none]), (100, 10, []), (4, 3, [some 49, none, none]), (101, 6, [some 50, some 57, some 64, some 71, some 78, some 85]), (3, 4, [some 51, some 53, some 55, none]), (9, 4, [some 52, none, none, none]), (100, 96, []), (9, 4, [some 54, none, none, none]), (100, 40, []), (9, 4, [some 56, none, none, none]), (100, 7, []), (3, 4, [some 58, some 60, some 62, none]), (9, 4, [some 59, none, none, none]), (100, 96, []), (9, 4, [some 61, none, none, none]), (100, 40, []), (9, 4, [some 63, none, none, none]), (100, 7, []), (3, 4, [some 65, some 67, some 69, none]), (9, 4, [some 66, none, none, none]), (100, 96, []), (9, 4, [some 68, none, none, none]), (100, 40, []), (9, 4, [some 70, none, none, none]), (100, 7, []), (3, 4, [some 72, some 74, some 76, none]), (9, 4, [some 73, none, none, none]), (100, 96, []), (9, 4, [some 75, none, none, none]), (100, 40, []), (9, 4, [some 77, none, none, none]), (100, 7, []), (3, 4, [some 79, some 81, some 83, none]), (9, 4, [some 80, none, none, none]), (100, 96, []), (9, 4, [some 82, none, none, none]), (100, 40, []), (9, 4, [some 84, none, none, none]), (100, 7, []), (3, 4, [some 86, some 88, some 90, none]), (9, 4, [some 87, none, none, none]), (100, 96, []), (9, 4, [some 89, none, none, none]), (100, 40, []), (9, 4, [some 91, none, none, none]), (100, 7, []), (3, 4, [some 93, some 95, none, none]), (9, 4, [some 94, none, none, none]), (100, 96, []), (9, 4, [some 96, none, none, none]), (100, 40, [])]
def S_193 : List SE := [(11, 13, [some 2, some 25, none, some 48, none, none, none, none, none, none, none, none, some 1]), (100, 12, []), (1, 11, [some 3, some 5, some 7, some 9, some 11, some 13, some 15, some 17, some 19, some 21, some 23]), (9, 4, [some 4, none, none, none]), (100, 96, []), (9, 4, [some 6, none, none, none]), (100, 40, []), (9, 4, [some 8, none, none, none]), (100, 7, []), (9, 4, [some 10, none, none, none]), (100, 600, []), (9, 4, [some 12, none, none, none]), (100, 64, []), (9, 4, [some 14, none, none, none]), (100, 800, []), (9, 4, [some 16, none, none, none]), (100, 64, []), (9, 4, [some 18, none, none, none]), (100, 64, []), (9, 4, [some 20, none, none, none]), (100, 64, []), (9, 4, [some 22, none, none, none]), (100, 16, []), (9, 4, [some 24, none, none, none]), (100, 10, []), (1, 11, [some 26, some 28, some 30, some 32, some 34, some 36, some 38, some 40, some 42, some 44, some 46]), (9, 4, [some 27, none, none, none]), (100, 96, []), (9, 4, [some 29, none, none, none]), (100, 40, []), (9, 4, [some 31, none, none, none]), (100, 7, []), (9, 4, [some 33, none, none, none]), (100, 600, []), (9, 4, [some 35, none, none, none]), (100, 64, []), (9, 4, [some 37, none, none, none]), (100, 800, []), (9, 4, [some 39, none, none, none]), (100, 64, []), (9, 4, [some 41, none, none, none]), (100, 64, []), (9, 4, [some 43, none, none, none]), (100, 64, []), (9, 4, [some 45, none, none, none]), (100, 16, []), (9, 4, [some 47, none, none, none]), (100, 10, []), (4, 3, [some 49, none, none]), (101, 6, [some 50, some 57, some 64, some 71, some 78, some 85]), (3, 4, [some 51, some 53, some 55, none]), (9, 4, [some 52, none, none, none]), (100, 96, []), (9, 4, [some 54, none, none, none]), (100, 40, []), (9, 4, [some 56, none, none, none]), (100, 7, []), (3, 4, [some 58, some 60, some 62, none]), (9, 4, [some 59, none, none, none]), (100, 96, []), (9, 4, [some 61, none, none, none]), (100, 40, []), (9, 4, [some 63, none, none, none]), (100, 7, []), (3, 4, [some 65, some 67, some 69, none]), (9, 4, [some 66, none, none, none]), (100, 96, []), (9, 4, [some 68, none, none, none]), (100, 40, []), (9, 4, [some 70, none, none, none]), (100, 7, []), (3, 4, [some 72, some 74, some 76, none]), (9, 4, [some 73, none, none, none]), (100, 96, []), (9, 4, [some 75, none, none, none]), (100, 40, []), (9, 4, [some 77, none, none, none]), (100, 7, []), (3, 4, [some 79, some 81, some 83, none]), (9, 4, [some 80, none, none, none]), (100, 96, []), (9, 4, [some 82, none, none, none]), (100, 40, []), (9, 4, [some 84, none, none, none]), (100, 7, []), (3, 4, [some 86, some 88, some 90, none]), (9, 4, [some 87, none, none, none]), (100, 96, []), (9, 4, [some 89, none, none, none]), (100, 40, []), (9, 4, [some 91, none, none, none]), (100, 7, []), (3, 4, [some 93, some 95, none, none]), (9, 4, [some 94, none, none, none]), (100, 96, []), (9, 4, [some 96, none, none, none]), (100, 40, []), (9, 4, [none, none, none, none])]
def S_194 : List SE := [(11, 13, [some 2, some 25, none, some 48, none, none, none, none, none, none, none, none, some 1]), (100, 12, []), (1, 11, [some 3, some 5, some 7, some 9, some 11, some 13, some 15, some 17, some 19, some 21, some 23]), (9, 4, [some 4, none, none, none]), (100, 96, []), (9, 4, [some 6, none, none, none]), (100, 40, []), (9, 4, [some 8, none, none, none]), (100, 7, []), (9, 4, [some 10, none, none, none]), (100, 600, []), (9, 4, [some 12, none, none, none]), (100, 64, []), (9, 4, [some 14, none, none, none]), (100, 800, []), (9, 4, [some 16, none, none, none]), (100, 64, []), (9, 4, [some 18, none, none, none]), (100, 64, []), (9, 4, [some 20, none, none, none]), (100, 64, []), (9, 4, [some 22, none, none, none]), (100, 16, []), (9, 4, [some 24, none, none, none]), (100, 10, []), (1, 11, [some 26, some 28, some 30, some 32, some 34, some 36, some 38, some 40, some 42, some 44, some 46]), (9, 4, [some 27, none, none, none]), (100, 96, []), (9, 4, [some 29, none, none, none]), (100, 40, []), (9, 4, [some 31, none, none, none]), (100, 7, []), (9, 4, [some 33, none, none, none]), (100, 600, []), (9, 4, [some 35, none, none, none]), (100, 64, []), (9, 4, [some 37, none, none, none]), (100, 800, []), (9, 4, [some 39, none, none, none]), (100, 64, []), (9, 4, [some 41, none, none, none]), (100, 64, []), (9, 4, [some 43, none, none, none]), (100, 64, []), (9, 4, [some 45, none, none, none]), (100, 16, []), (9, 4, [some 47, none, none, none]), (100, 10, []), (4, 3, [some 49, none, none]), (101, 6, [some 50, some 57, some 64, some 71, some 78, some 85]), (3, 4, [some 51, some 53, some 55, none]), (9, 4, [some 52, none, none, none]), (100, 96, []), (9, 4, [some 54, none, none, none]), (100, 40, []), (9, 4, [some 56, none, none, none]), (100, 7, []), (3, 4, [some 58, some 60, some 62, none]), (9, 4, [some 59, none, none, none]), (100, 96, []), (9, 4, [some 61, none, none, none]), (100, 40, []), (9, 4, [some 63, none, none, none]), (100, 7, []), (3, 4, [some 65, some 67, some 69, none]), (9, 4, [some 66, none, none, none]), (100, 96, []), (9, 4, [some 68, none, none, none]), (100, 40, []), (9, 4, [some 70, none, none, none]), (100, 7, []), (3, 4, [some 72, some 74, some 76, none]), (9, 4, [some 73, none, none, none]), (100, 96, []), (9, 4, [some 75, none, none, none]), (100, 40, []), (9, 4, [some 77, none, none, none]), (100, 7, []), (3, 4, [some 79, some 81, some 83, none]), (9, 4, [some 80, none, none, none]), (100, 96, []), (9, 4, [some 82, none, none, none]), (100, 40, []), (9, 4, [some 84, none, none, none]), (100, 7, []), (3, 4, [some 86, some 88, some 90, none]), (9, 4, [some 87, none, none, none]), (100, 96, []), (9, 4, [some 89, none, none, none]), (100, 40, []), (9, 4, [some 91, none, none, none]), (100, 7, []), (3, 4, [some 93, some 95, none, none]), (9, 4, [some 94, none, none, none]), (100, 96, []), (9, 4, [some 96, none, none, none]), (100, 40, []), (9, 4, [none, none, none, none]), (100, 7, [])]
def S_195 : List SE := [(11, 13, [some 2, some 25, none, some 48, none, none, none, none, none, none, none, none, some 1]), (100, 12, []), (1, 11, [some 3, some 5, some 7, some 9, some 11, some 13, some 15, some 17, some 19, some 21, some 23]), (9, 4, [some 4, none, none, none]), (100, 96, []), (9, 4, [some 6, none, none, none]), (100, 40, []), (9, 4, [some 8, none, none, none]), (100, 7, []), (9, 4, [some 10, none, none, none]), (100, 600, []), (9, 4, [some 12, none, none, none]), (100, 64, []), (9, 4, [some 14, none, none, none]), (100, 800, []), (9, 4, [some 16, none, none, none]), (100, 64, []), (9, 4, [some 18, none, none, none]), (100, 64, []), (9, 4, [some 20, none, none, none]), (100, 64, []), (9, 4, [some 22, none, none, none]), (100, 16, []), (9, 4, [some 24, none, none, none]), (100, 10, []), (1, 11, [some 26, some 28, some 30, some 32, some 34, some 36, some 38, some 40, some 42, some 44, some 46]), (9, 4, [some 27, none, none, none]), (100, 96, []), (9, 4, [some 29, none, none, none]), (100, 40, []), (9, 4, [some 31, none, none, none]), (100, 7, []), (9, 4, [some 33, none, none, none]), (100, 600, []), (9, 4, [some 35, none, none, none]), (100, 64, []), (9, 4, [some 37, none, none, none]), (100, 800, []), (9, 4, [some 39, none, none, none]), (100, 64, []), (9, 4, [some 41, none, none, none]), (100, 64, []), (9, 4, [some 43, none, none, none]), (100, 64, []), (9, 4, [some 45, none, none, none]), (100, 16, []), (9, 4, [some 47, none, none, none]), (100, 10, []), (4, 3, [some 49, none, none]), (101, 6, [some 50, some 57, some 64, some 71, some 78, some 85]), (3, 4, [some 51, some 53, some 55, none]), (9, 4, [some 52, none, none, none]), (100, 96, []), (9, 4, [some 54, none, none, none]), (100, 40, []), (9, 4, [some 56, none, none, none]), (100, 7, []), (3, 4, [some 58, some 60, some 62, none]), (9, 4, [some 59, none, none, none]), (100, 96, []), (9, 4, [some 61, none, none, none]), (100, 40, []), (9, 4, [some 63, none, none, none]), (100, 7, []), (3, 4, [some 65, some 67, some 69, none]), (9, 4, [some 66, none, none, none]), (100, 96, []), (9, 4, [some 68, none, none, none]), (100, 40, []), (9, 4, [some 70, none, none, none]), (100, 7, []), (3, 4, [some 72, some 74, some 76, none]), (9, 4, [some 73, none, none, none]), (100, 96, []), (9, 4, [some 75, none, none, none]), (100, 40, []), (9, 4, [some 77, none, none, none]), (100, 7, []), (3, 4, [some 79, some 81, some 83, none]), (9, 4, [some 80, none, none, none]), (100, 96, []), (9, 4, [some 82, none, none, none]), (100, 40, []), (9, 4, [some 84, none, none, none]), (100, 7, []), (3, 4, [some 86, some 88, some 90, none]), (9, 4, [some 87, none, none, none]), (100, 96, []), (9, 4, [some 89, none, none, none]), (100, 40, []), (9, 4, [some 91, none, none, none]), (100, 7, []), (3, 4, [some 93, some 95, none, none]), (9, 4, [some 94, none, none, none]), (100, 96, []), (9, 4, [some 96, none, none, none]), (100, 40, []), (9, 4, [some 98, none, none, none]), (100, 7, [])]
def S_196 : List SE := [(11, 13, [some 2, some 25, none, some 48, none, none, none, none, none, none, none, none, some 1]), (100, 12, []), (1, 11, [some 3, some 5, some 7, some 9, some 11, some 13, some 15, some 17, some 19, some 21, some 23]), (9, 4, [some 4, none, none, none]), (100, 96, []), (9, 4, [some 6, none, none, none]), (100, 40, []), (9, 4, [some 8, none, none, none]), (100, 7, []), (9, 4, [some 10, none, none, none]), (100, 600, []), (9, 4, [some 12, none, none, none]), (100, 64, []), (9, 4, [some 14, none, none, none]), (100, 800, []), (9, 4, [some 16, none, none, none]), (100, 64, []), (9, 4, [some 18, none, none, none]), (100, 64, []), (9, 4, [some 20, none, none, none]), (100, 64, []), (9, 4, [some 22, none, none, none]), (100, 16, []), (9, 4, [some 24, none, none, none]), (100, 10, []), (1, 11, [some 26, some 28, some 30, some 32, some 34, some 36, some 38, some 40, some 42, some 44, some 46]), (9, 4, [some 27, none, none, none]), (100, 96, []), (9, 4, [some 29, none, none, none]), (100, 40, []), (9, 4, [some 31, none, none, none]), (100, 7, []), (9, 4, [some 33, none, none, none]), (100, 600, []), (9, 4, [some 35, none, none, none]), (100, 64, []), (9, 4, [some 37, none, none, none]), (100, 800, []), (9, 4, [some 39, none, none, none]), (100, 64, []), (9, 4, [some 41, none, none, none]), (100, 64, []), (9, 4, [some 43, none, none, none]), (100, 64, []), (9, 4, [some 45, none, none, none]), (100, 16, []), (9, 4, [some 47, none, none, none]), (100, 10, []), (4, 3, [some 49, none, none]), (101, 6, [some 50, some 57, some 64, some 71, some 78, some 85]), (3, 4, [some 51, some 53, some 55, none]), (9, 4, [some 52, none, none, none]), (100, 96, []), (9, 4, [some 54, none, none, none]), (100, 40, []), (9, 4, [some 56, none, none, none]), (100, 7, []), (3, 4, [some 58, some 60, some 62, none]), (9, 4, [some 59, none, none, none]), (100, 96, []), (9, 4, [some 61, none, none, none]), (100, 40, []), (9, 4, [some 63, none, none, none]), (100, 7, []), (3, 4, [some 65, some 67, some 69, none]), (9, 4, [some 66, none, none, none]), (100, 96, []), (9, 4, [some 68, none, none, none]), (100, 40, []), (9, 4, [some 70, none, none, none]), (100, 7, []), (3, 4, [some 72, some 74, some 76, none]), (9, 4, [some 73, none, none, none]), (100, 96, []), (9, 4, [some 75, none, none, none]), (100, 40, []), (9, 4, [some 77, none, none, none]), (100, 7, []), (3, 4, [some 79, some 81, some 83, none]), (9, 4, [some 80, none, none, none]), (100, 96, []), (9, 4, [some 82, none, none, none]), (100, 40, []), (9, 4, [some 84, none, none, none]), (100, 7, []), (3, 4, [some 86, some 88, some 90, none]), (9, 4, [some 87, none, none, none]), (100, 96, []), (9, 4, [some 89, none, none, none]), (100, 40, []), (9, 4, [some 91, none, none, none]), (100, 7, []), (3, 4, [some 93, some 95, some 97, none]), (9, 4, [some 94, none, none, none]), (100, 96, []), (9, 4, [some 96, none, none, none]), (100, 40, []), (9, 4, [some 98, none, none, none]), (100, 7, [])]
def S_197 : List SE := [(11, 13, [some 2, some 25, none, some 48, some 92, none, none, none, none, none, none, none, some 1]), (100, 12, []), (1, 11, [some 3, some 5, some 7, some 9, some 11, some 13, some 15, some 17, some 19, some 21, some 23]), (9, 4, [some 4, none, none, none]), (100, 96, []), (9, 4, [some 6, none, none, none]), (100, 40, []), (9, 4, [some 8, none, none, none]), (100, 7, []), (9, 4, [some 10, none, none, none]), (100, 600, []), (9, 4, [some 12, none, none, none]), (100, 64, []), (9, 4, [some 14, none, none, none]), (100, 800, []), (9, 4, [some 16, none, none, none]), (100, 64, []), (9, 4, [some 18, none, none, none]), (100, 64, []), (9, 4, [some 20, none, none, none]), (100, 64, []), (9, 4, [some 22, none, none, none]), (100, 16, []), (9, 4, [some 24, none, none, none]), (100, 10, []), (1, 11, [some 26, some 28, some 30, some 32, some 34, some 36, some 38, some 40, some 42, some 44, some 46]), (9, 4, [some 27, none, none, none]), (100, 96, []), (9, 4, [some 29, none, none, none]), (100, 40, []), (9, 4, [some 31, none, none, none]), (100, 7, []), (9, 4, [some 33, none, none, none]), (100, 600, []), (9, 4, [some 35, none, none, none]), (100, 64, []), (9, 4, [some 37, none, none, none]), (100, 800, []), (9, 4, [some 39, none, none, none]), (100, 64, []), (9, 4, [some 41, none, none, none]), (100, 64, []), (9, 4, [some 43, none, none, none]), (100, 64, []), (9, 4, [some 45, none, none, none]), (100, 16, []), (9, 4, [some 47, none, none, none]), (100, 10, []), (4, 3, [some 49, none, none]), (101, 6, [some 50, some 57, some 64, some 71, some 78, some 85]), (3, 4, [some 51, some 53, some 55, none]), (9, 4, [some 52, none, none, none]), (100, 96, []), (9, 4, [some 54, none, none, none]), (100, 40, []), (9, 4, [some 56, none, none, none]), (100, 7, []), (3, 4, [some 58, some 60, some 62, none]), (9, 4, [some 59, none, none, none]), (100, 96, []), (9, 4, [some 61, none, none, none]), (100, 40, []), (9, 4, [some 63, none, none, none]), (100, 7, []), (3, 4, [some 65, some 67, some 69, none]), (9, 4, [some 66, none, none, none]), (100, 96, []), (9, 4, [some 68, none, none, none]), (100, 40, []), (9, 4, [some 70, none, none, none]), (100, 7, []), (3, 4, [some 72, some 74, some 76, none]), (9, 4, [some 73, none, none, none]), (100, 96, []), (9, 4, [some 75, none, none, none]), (100, 40, []), (9, 4, [some 77, none, none, none]), (100, 7, []), (3, 4, [some 79, some 81, some 83, none]), (9, 4, [some 80, none, none, none]), (100, 96, []), (9, 4, [some 82, none, none, none]), (100, 40, []), (9, 4, [some 84, none, none, none]), (100, 7, []), (3, 4, [some 86, some 88, some 90, none]), (9, 4, [some 87, none, none, none]), (100, 96, []), (9, 4, [some 89, none, none, none]), (100, 40, []), (9, 4, [some 91, none, none, none]), (100, 7, []), (3, 4, [some 93, some 95, some 97, none]), (9, 4, [some 94, none, none, none]), (100, 96, []), (9, 4, [some 96, none, none, none]), (100, 40, []), (9, 4, [some 98, none, none, none]), (100, 7, [])]
def S_198 : List SE := [(11, 13, [some 2, some 25, none, some 48, some 92, none, none, none, none, none, none, none, some 1]), (100, 12, []), (1, 11, [some 3, some 5, some 7, some 9, some 11, some 13, some 15, some 17, some 19, some 21, some 23]), (9, 4, [some 4, none, none, none]), (100, 96, []), (9, 4, [some 6, none, none, none]), (100, 40, []), (9, 4, [some 8, none, none, none]), (100, 7, []), (9, 4, [some 10, none, none, none]), (100, 600, []), (9, 4, [some 12, none, none, none]), (100, 64, []), (9, 4, [some 14, none, none, none]), (100, 800, []), (9, 4, [some 16, none, none, none]), (100, 64, []), (9, 4, [some 18, none, none, none]), (100, 64, []), (9, 4, [some 20, none, none, none]), (100, 64, []), (9, 4, [some 22, none, none, none]), (100, 16, []), (9, 4, [some 24, none, none, none]), (100, 10, []), (1, 11, [some 26, some 28, some 30, some 32, some 34, some 36, some 38, some 40, some 42, some 44, some 46]), (9, 4, [some 27, none, none, none]), (100, 96, []), (9, 4, [some 29, none, none, none]), (100, 40, []), (9, 4, [some 31, none, none, none]), (100, 7, []), (9, 4, [some 33, none, none, none]), (100, 600, []), (9, 4, [some 35, none, none, none]), (100, 64, []), (9, 4, [some 37, none, none, none]), (100, 800, []), (9, 4, [some 39, none, none, none]), (100, 64, []), (9, 4, [some 41, none, none, none]), (100, 64, []), (9, 4, [some 43, none, none, none]), (100, 64, []), (9, 4, [some 45, none, none, none]), (100, 16, []), (9, 4, [some 47, none, none, none]), (100, 10, []), (4, 3, [some 49, none, none]), (101, 6, [some 50, some 57, some 64, some 71, some 78, some 85]), (3, 4, [some 51, some 53, some 55, none]), (9, 4, [some 52, none, none, none]), (100, 96, []), (9, 4, [some 54, none, none, none]), (100, 40, []), (9, 4, [some 56, none, none, none]), (100, 7, []), (3, 4, [some 58, some 60, some 62, none]), (9, 4, [some 59, none, none, none]), (100, 96, []), (9, 4, [some 61, none, none, none]), (100, 40, []), (9, 4, [some 63, none, none, none]), (100, 7, []), (3, 4, [some 65, some 67, some 69, none]), (9, 4, [some 66, none, none, none]), (100, 96, []), (9, 4, [some 68, none, none, none]), (100, 40, []), (9, 4, [some 70, none, none, none]), (100, 7, []), (3, 4, [some 72, some 74, some 76, none]), (9, 4, [some 73, none, none, none]), (100, 96, []), (9, 4, [some 75, none, none, none]), (100, 40, []), (9, 4, [some 77, none, none, none]), (100, 7, []), (3, 4, [some 79, some 81, some 83, none]), (9, 4, [some 80, none, none, none]), (100, 96, []), (9, 4, [some 82, none, none, none]), (100, 40, []), (9, 4, [some 84, none, none, none]), (100, 7, []), (3, 4, [some 86, some 88, some 90, none]), (9, 4, [some 87, none, none, none]), (100, 96, []), (9, 4, [some 89, none, none, none]), (100, 40, []), (9, 4, [some 91, none, none, none]), (100, 7, []), (3, 4, [some 93, some 95, some 97, none]), (9, 4, [some 94, none, none, none]), (100, 96, []), (9, 4, [some 96, none, none, none]), (100, 40, []), (9, 4, [some 98, none, none, none]), (100, 7, []), (10, 7, [none, none, none, none, none, none, none])]
def S_199 : List SE := [(11, 13, [some 2, some 25, none, some 48, some 92, none, none, none, none, none, none, none, some 1]), (100, 12, []), (1, 11, [some 3, some 5, some 7, some 9, some 11, some 13, some 15, some 17, some 19, some 21, some 23]), (9, 4, [some 4, none, none, none]), (100, 96, []), (9, 4, [some 6, none, none, none]), (100, 40, []), (9, 4, [some 8, none, none, none]), (100, 7, []), (9, 4, [some 10, none, none, none]), (100, 600, []), (9, 4, [some 12, none, none, none]), (100, 64, []), (9, 4, [some 14, none, none, none]), (100, 800, []), (9, 4, [some 16, none, none, none]), (100, 64, []), (9, 4, [some 18, none, none, none]), (100, 64, []), (9, 4, [some 20, none, none, none]), (100, 64, []), (9, 4, [some 22, none, none, none]), (100, 16, []), (9, 4, [some 24, none, none, none]), (100, 10, []), (1, 11, [some 26, some 28, some 30, some 32, some 34, some 36, some 38, some 40, some 42, some 44, some 46]), (9, 4, [some 27, none, none, none]), (100, 96, []), (9, 4, [some 29, none, none, none]), (100, 40, []), (9, 4, [some 31, none, none, none]), (100, 7, []), (9, 4, [some 33, none, none, none]), (100, 600, []), (9, 4, [some 35, none, none, none]), (100, 64, []), (9, 4, [some 37, none, none, none]), (100, 800, []), (9, 4, [some 39, none, none, none]), (100, 64, []), (9, 4, [some 41, none, none, none]), (100, 64, []), (9, 4, [some 43, none, none, none]), (100, 64, []), (9, 4, [some 45, none, none, none]), (100, 16, []), (9, 4, [some 47, none, none, none]), (100, 10, []), (4, 3, [some 49, none, none]), (101, 6, [some 50, some 57, some 64, some 71, some 78, some 85]), (3, 4, [some 51, some 53, some 55, none]), (9, 4, [some 52, none, none, none]), (100, 96, []), (9, 4, [some 54, none, none, none]), (100, 40, []), (9, 4, [some 56, none, none, none]), (100, 7, []), (3, 4, [some 58, some 60, some 62, none]), (9, 4, [some 59, none, none, none]), (100, 96, []), (9, 4, [some 61, none, none, none]), (100, 40, []), (9, 4, [some 63, none, none, none]), (100, 7, []), (3, 4, [some 65, some 67, some 69, none]), (9, 4, [some 66, none, none, none]), (100, 96, []), (9, 4, [some 68, none, none, none]), (100, 40, []), (9, 4, [some 70, none, none, none]), (100, 7, []), (3, 4, [some 72, some 74, some 76, none]), (9, 4, [some 73, none, none, none]), (100, 96, []), (9, 4, [some 75, none, none, none]), (100, 40, []), (9, 4, [some 77, none, none, none]), (100, 7, []), (3, 4, [some 79, some 81, some 83, none]), (9, 4, [some 80, none, none, none]), (100, 96, []), (9, 4, [some 82, none, none, none]), (100, 40, []), (9, 4, [some 84, none, none, none]), (100, 7, []), (3, 4, [some 86, some 88, some 90, none]), (9, 4, [some 87, none, none, none]), (100, 96, []), (9, 4, [some 89, none, none, none]), (100, 40, []), (9, 4, [some 91, none, none, none]), (100, 7, []), (3, 4, [some 93, some 95, some 97, none]), (9, 4, [some 94, none, none, none]), (100, 96, []), (9, 4, [some 96, none, none, none]), (100, 40, []), (9, 4, [some 98, none, none, none]), (100, 7, []), (10, 7, [none, none, none, none, none, none, none]), (100, 400, [])]
def S_200 : List SE := [(11, 13, [some 2, some 25, none, some 48, some 92, none, none, none, none, none, none, none, some 1]), (100, 12, []), (1, 11, [some 3, some 5, some 7, some 9, some 11, some 13, some 15, some 17, some 19, some 21, some 23]), (9, 4, [some 4, none, none, none]), (100, 96, []), (9, 4, [some 6, none, none, none]), (100, 40, []), (9, 4, [some 8, none, none, none]), (100, 7, []), (9, 4, [some 10, none, none, none]), (100, 600, []), (9, 4, [some 12, none, none, none]), (100, 64, []), (9, 4, [some 14, none, none, none]), (100, 800, []), (9, 4, [some 16, none, none, none]), (100, 64, []), (9, 4, [some 18, none, none, none]), (100, 64, []), (9, 4, [some 20, none, none, none]), (100, 64, []), (9, 4, [some 22, none, none, none]), (100, 16, []), (9, 4, [some 24, none, none, none]), (100, 10, []), (1, 11, [some 26, some 28, some 30, some 32, some 34, some 36, some 38, some 40, some 42, some 44, some 46]), (9, 4, [some 27, none, none, none]), (100, 96, []), (9, 4, [some 29, none, none, none]), (100, 40, []), (9, 4, [some 31, none, none, none]), (100, 7, []), (9, 4, [some 33, none, none, none]), (100, 600, []), (9, 4, [some 35, none, none, none]), (100, 64, []), (9, 4, [some 37, none, none, none]), (100, 800, []), (9, 4, [some 39, none, none, none]), (100, 64, []), (9, 4, [some 41, none, none, none]), (100, 64, []), (9, 4, [some 43, none, none, none]), (100, 64, []), (9, 4, [some 45, none, none, none]), (100, 16, []), (9, 4, [some 47, none, none, none]), (100, 10, []), (4, 3, [some 49, none, none]), (101, 6, [some 50, some 57, some 64, some 71, some 78, some 85]), (3, 4, [some 51, some 53, some 55, none]), (9, 4, [some 52, none, none, none]), (100, 96, []), (9, 4, [some 54, none, none, none]), (100, 40, []), (9, 4, [some 56, none, none, none]), (100, 7, []), (3, 4, [some 58, some 60, some 62, none]), (9, 4, [some 59, none, none, none]), (100, 96, []), (9, 4, [some 61, none, none, none]), (100, 40, []), (9, 4, [some 63, none, none, none]), (100, 7, []), (3, 4, [some 65, some 67, some 69, none]), (9, 4, [some 66, none, none, none]), (100, 96, []), (9, 4, [some 68, none, none, none]), (100, 40, []), (9, 4, [some 70, none, none, none]), (100, 7, []), (3, 4, [some 72, some 74, some 76, none]), (9, 4, [some 73, none, none, none]), (100, 96, []), (9, 4, [some 75, none, none, none]), (100, 40, []), (9, 4, [some 77, none, none, none]), (100, 7, []), (3, 4, [some 79, some 81, some 83, none]), (9, 4, [some 80, none, none, none]), (100, 96, []), (9, 4, [some 82, none, none, none]), (100, 40, []), (9, 4, [some 84, none, none, none]), (100, 7, []), (3, 4, [some 86, some 88, some 90, none]), (9, 4, [some 87, none, none, none]), (100, 96, []), (9, 4, [some 89, none, none, none]), (100, 40, []), (9, 4, [some 91, none, none, none]), (100, 7, []), (3, 4, [some 93, some 95, some 97, none]), (9, 4, [some 94, none, none, none]), (100, 96, []), (9, 4, [some 96, none, none, none]), (100, 40, []), (9, 4, [some 98, none, none, none]), (100, 7, []), (10, 7, [some 100, none, none, none, none, none, none]), (100, 400, [])]
def S_201 : List SE := [(11, 13, [some 2, some 25, none, some 48, some 92, none, none, none, none, none, none, none, some 1]), (100, 12, []), (1, 11, [some 3, some 5, some 7, some 9, some 11, some 13, some 15, some 17, some 19, some 21, some 23]), (9, 4, [some 4, none, none, none]), (100, 96, []), (9, 4, [some 6, none, none, none]), (100, 40, []), (9, 4, [some 8, none, none, none]), (100, 7, []), (9, 4, [some 10, none, none, none]), (100, 600, []), (9, 4, [some 12, none, none, none]), (100, 64, []), (9, 4, [some 14, none, none, none]), (100, 800, []), (9, 4, [some 16, none, none, none]), (100, 64, []), (9, 4, [some 18, none, none, none]), (100, 64, []), (9, 4, [some 20, none, none, none]), (100, 64, []), (9, 4, [some 22, none, none, none]), (100, 16, []), (9, 4, [some 24, none, none, none]), (100, 10, []), (1, 11, [some 26, some 28, some 30, some 32, some 34, some 36, some 38, some 40, some 42, some 44, some 46]), (9, 4, [some 27, none, none, none]), (100, 96, []), (9, 4, [some 29, none, none, none]), (100, 40, []), (9, 4, [some 31, none, none, none]), (100, 7, []), (9, 4, [some 33, none, none, none]), (100, 600, []), (9, 4, [some 35, none, none, none]), (100, 64, []), (9, 4, [some 37, none, none, none]), (100, 800, []), (9, 4, [some 39, none, none, none]), (100, 64, []), (9, 4, [some 41, none, none, none]), (100, 64, []), (9, 4, [some 43, none, none, none]), (100, 64, []), (9, 4, [some 45, none, none, none]), (100, 16, []), (9, 4, [some 47, none, none, none]), (100, 10, []), (4, 3, [some 49, none, none]), (101, 6, [some 50, some 57, some 64, some 71, some 78, some 85]), (3, 4, [some 51, some 53, some 55, none]), (9, 4, [some 52, none, none, none]), (100, 96, []), (9, 4, [some 54, none, none, none]), (100, 40, []), (9, 4, [some 56, none, none, none]), (100, 7, []), (3, 4, [some 58, some 60, some 62, none]), (9, 4, [some 59, none, none, none]), (100, 96, []), (9, 4, [some 61, none, none, none]), (100, 40, []), (9, 4, [some 63, none, none, none]), (100, 7, []), (3, 4, [some 65, some 67, some 69, none]), (9, 4, [some 66, none, none, none]), (100, 96, []), (9, 4, [some 68, none, none, none]), (100, 40, []), (9, 4, [some 70, none, none, none]), (100, 7, []), (3, 4, [some 72, some 74, some 76, none]), (9, 4, [some 73, none, none, none]), (100, 96, []), (9, 4, [some 75, none, none, none]), (100, 40, []), (9, 4, [some 77, none, none, none]), (100, 7, []), (3, 4, [some 79, some 81, some 83, none]), (9, 4, [some 80, none, none, none]), (100, 96, []), (9, 4, [some 82, none, none, none]), (100, 40, []), (9, 4, [some 84, none, none, none]), (100, 7, []), (3, 4, [some 86, some 88, some 90, none]), (9, 4, [some 87, none, none, none]), (100, 96, []), (9, 4, [some 89, none, none, none]), (100, 40, []), (9, 4, [some 91, none, none, none]), (100, 7, []), (3, 4, [some 93, some 95, some 97, none]), (9, 4, [some 94, none, none, none]), (100, 96, []), (9, 4, [some 96, none, none, none]), (100, 40, []), (9, 4, [some 98, none, none, none]), (100, 7, []), (10, 7, [some 100, none, none, none, none, none, none]), (100, 400, []), (9, 4, [none, none, none, none])]
def S_202 : List SE := [(11, 13, [some 2, some 25, none, some 48, some 92, none, none, none, none, none, none, none, some 1]), (100, 12, []), (1, 11, [some 3, some 5, some 7, some 9, some 11, some 13, some 15, some 17, some 19, some 21, some 23]), (9, 4, [some 4, none, none, none]), (100, 96, []), (9, 4, [some 6, none, none, none]), (100, 40, []), (9, 4, [some 8, none, none, none]), (100, 7, []), (9, 4, [some 10, none, none, none]), (100, 600, []), (9, 4, [some 12, none, none, none]), (100, 64, []), (9, 4, [some 14, none, none, none]), (100, 800, []), (9, 4, [some 16, none, none, none]), (100, 64, []), (9, 4, [some 18, none, none, none]), (100, 64, []), (9, 4, [some 20, none, none, none]), (100, 64, []), (9, 4, [some 22, none, none, none]), (100, 16, []), (9, 4, [some 24, none, none, none]), (100, 10, []), (1, 11, [some 26, some 28, some 30, some 32, some 34, some 36, some 38, some 40, some 42, some 44, some 46]), (9, 4, [some 27, none, none, none]), (100, 96, []), (9, 4, [some 29, none, none, none]), (100, 40, []), (9, 4, [some 31, none, none, none]), (100, 7, []), (9, 4, [some 33, none, none, none]), (100, 600, []), (9, 4, [some 35, none, none, none]), (100, 64, []), (9, 4, [some 37, none, none, none]), (100, 800, []), (9, 4, [some 39, none, none, none]), (100, 64, []), (9, 4, [some 41, none, none, none]), (100, 64, []), (9, 4, [some 43, none, none, none]), (100, 64, []), (9, 4, [some 45, none, none, none]), (100, 16, []), (9, 4, [some 47, none, none, none]), (100, 10, []), (4, 3, [some 49, none, none]), (101, 6, [some 50, some 57, some 64, some 71, some 78, some 85]), (3, 4, [some 51, some 53, some 55, none]), (9, 4, [some 52, none, none, none]), (100, 96, []), (9, 4, [some 54, none, none, none]), (100, 40, []), (9, 4, [some 56, none, none, none]), (100, 7, []), (3, 4, [some 58, some 60, some 62, none]), (9, 4, [some 59, none, none, none]), (100, 96, []), (9, 4, [some 61, none, none, none]), (100, 40, []), (9, 4, [some 63, none, none, none]), (100, 7, []), (3, 4, [some 65, some 67, some 69, none]), (9, 4, [some 66, none, none, none]), (100, 96, []), (9, 4, [some 68, none, none, none]), (100, 40, []), (9, 4, [some 70, none, none, none]), (100, 7, []), (3, 4, [some 72, some 74, some 76, none]), (9, 4, [some 73, none, none, none]), (100, 96, []), (9, 4, [some 75, none, none, none]), (100, 40, []), (9, 4, [some 77, none, none, none]), (100, 7, []), (3, 4, [some 79, some 81, some 83, none]), (9, 4, [some 80, none, none, none]), (100, 96, []), (9, 4, [some 82, none, none, none]), (100, 40, []), (9, 4, [some 84, none, none, none]), (100, 7, []), (3, 4, [some 86, some 88, some 90, none]), (9, 4, [some 87, none, none, none]), (100, 96, []), (9, 4, [some 89, none, none, none]), (100, 40, []), (9, 4, [some 91, none, none, none]), (100, 7, []), (3, 4, [some 93, some 95, some 97, none]), (9, 4, [some 94, none, none, none]), (100, 96, []), (9, 4, [some 96, none, none, none]), (100, 40, []), (9, 4, [some 98, none, none, none]), (100, 7, []), (10, 7, [some 100, none, none, none, none, none, none]), (100, 400, []), (9, 4, [none, none, none, none]), (100, 1203, [])]
def S_203 : List SE := [(11, 13, [some 2, some 25, none, some 48, some 92, none, none, none, none, none, none, none, some 1]), (100, 12, []), (1, 11, [some 3, some 5, some 7, some 9, some 11, some 13, some 15, some 17, some 19, some 21, some 23]), (9, 4, [some 4, none, none, none]), (100, 96, []), (9, 4, [some 6, none, none, none]), (100, 40, []), (9, 4, [some 8, none, none, none]), (100, 7, []), (9, 4, [some 10, none, none, none]), (100, 600, []), (9, 4, [some 12, none, none, none]), (100, 64, []), (9, 4, [some 14, none, none, none]), (100, 800, []), (9, 4, [some 16, none, none, none]), (100, 64, []), (9, 4, [some 18, none, none, none]), (100, 64, []), (9, 4, [some 20, none, none, none]), (100, 64, []), (9, 4, [some 22, none, none, none]), (100, 16, []), (9, 4, [some 24, none, none, none]), (100, 10, []), (1, 11, [some 26, some 28, some 30, some 32, some 34, some 36, some 38, some 40, some 42, some 44, some 46]), (9, 4, [some 27, none, none, none]), (100, 96, []), (9, 4, [some 29, none, none, none]), (100, 40, []), (9, 4, [some 31, none, none, none]), (100, 7, []), (9, 4, [some 33, none, none, none]), (100, 600, []), (9, 4, [some 35, none, none, none]), (100, 64, []), (9, 4, [some 37, none, none, none]), (100, 800, []), (9, 4, [some 39, none, none, none]), (100, 64, []), (9, 4, [some 41, none, none, none]), (100, 64, []), (9, 4, [some 43, none, none, none]), (100, 64, []), (9, 4, [some 45, none, none, none]), (100, 16, []), (9, 4, [some 47, none, none, none]), (100, 10, []), (4, 3, [some 49, none, none]), (101, 6, [some 50, some 57, some 64, some 71, some 78, some 85]), (3, 4, [some 51, some 53, some 55, none]), (9, 4, [some 52, none, none, none]), (100, 96, []), (9, 4, [some 54, none, none, none]), (100, 40, []), (9, 4, [some 56, none, none, none]), (100, 7, []), (3, 4, [some 58, some 60, some 62, none]), (9, 4, [some 59, none, none, none]), (100, 96, []), (9, 4, [some 61, none, none, none]), (100, 40, []), (9, 4, [some 63, none, none, none]), (100, 7, []), (3, 4, [some 65, some 67, some 69, none]), (9, 4, [some 66, none, none, none]), (100, 96, []), (9, 4, [some 68, none, none, none]), (100, 40, []), (9, 4, [some 70, none, none, none]), (100, 7, []), (3, 4, [some 72, some 74, some 76, none]), (9, 4, [some 73, none, none, none]), (100, 96, []), (9, 4, [some 75, none, none, none]), (100, 40, []), (9, 4, [some 77, none, none, none]), (100, 7, []), (3, 4, [some 79, some 81, some 83, none]), (9, 4, [some 80, none, none, none]), (100, 96, []), (9, 4, [some 82, none, none, none]), (100, 40, []), (9, 4, [some 84, none, none, none]), (100, 7, []), (3, 4, [some 86, some 88, some 90, none]), (9, 4, [some 87, none, none, none]), (100, 96, []), (9, 4, [some 89, none, none, none]), (100, 40, []), (9, 4, [some 91, none, none, none]), (100, 7, []), (3, 4, [some 93, some 95, some 97, none]), (9, 4, [some 94, none, none, none]), (100, 96, []), (9, 4, [some 96, none, none, none]), (100, 40, []), (9, 4, [some 98, none, none, none]), (100, 7, []), (10, 7, [some 100, none, none, none, none, none, none]), (100, 400, []), (9, 4, [some 102, none, none, none]), (100, 1203, [])]
def S_204 : List SE := [(11, 13, [some 2, some 25, none, some 48, some 92, none, none, none, none, none, none, none, some 1]), (100, 12, []), (1, 11, [some 3, some 5, some 7, some 9, some 11, some 13, some 15, some 17, some 19, some 21, some 23]), (9, 4, [some 4, none, none, none]), (100, 96, []), (9, 4, [some 6, none, none, none]), (100, 40, []), (9, 4, [some 8, none, none, none]), (100, 7, []), (9, 4, [some 10, none, none, none]), (100, 600, []), (9, 4, [some 12, none, none, none]), (100, 64, []), (9, 4, [some 14, none, none, none]), (100, 800, []), (9, 4, [some 16, none, none, none]), (100, 64, []), (9, 4, [some 18, none, none, none]), (100, 64, []), (9, 4, [some 20, none, none, none]), (100, 64, []), (9, 4, [some 22, none, none, none]), (100, 16, []), (9, 4, [some 24, none, none, none]), (100, 10, []), (1, 11, [some 26, some 28, some 30, some 32, some 34, some 36, some 38, some 40, some 42, some 44, some 46]), (9, 4, [some 27, none, none, none]), (100, 96, []), (9, 4, [some 29, none, none, none]), (100, 40, []), (9, 4, [some 31, none, none, none]), (100, 7, []), (9, 4, [some 33, none, none, none]), (100, 600, []), (9, 4, [some 35, none, none, none]), (100, 64, []), (9, 4, [some 37, none, none, none]), (100, 800, []), (9, 4, [some 39, none, none, none]), (100, 64, []), (9, 4, [some 41, none, none, none]), (100, 64, []), (9, 4, [some 43, none, none, none]), (100, 64, []), (9, 4, [some 45, none, none, none]), (100, 16, []), (9, 4, [some 47, none, none, none]), (100, 10, []), (4, 3, [some 49, none, none]), (101, 6, [some 50, some 57, some 64, some 71, some 78, some 85]), (3, 4, [some 51, some 53, some 55, none]), (9, 4, [some 52, none, none, none]), (100, 96, []), (9, 4, [some 54, none, none, none]), (100, 40, []), (9, 4, [some 56, none, none, none]), (100, 7, []), (3, 4, [some 58, some 60, some 62, none]), (9, 4, [some 59, none, none, none]), (100, 96, []), (9, 4, [some 61, none, none, none]), (100, 40, []), (9, 4, [some 63, none, none, none]), (100, 7, []), (3, 4, [some 65, some 67, some 69, none]), (9, 4, [some 66, none, none, none]), (100, 96, []), (9, 4, [some 68, none, none, none]), (100, 40, []), (9, 4, [some 70, none, none, none]), (100, 7, []), (3, 4, [some 72, some 74, some 76, none]), (9, 4, [some 73, none, none, none]), (100, 96, []), (9, 4, [some 75, none, none, none]), (100, 40, []), (9, 4, [some 77, none, none, none]), (100, 7, []), (3, 4, [some 79, some 81, some 83, none]), (9, 4, [some 80, none, none, none]), (100, 96, []), (9, 4, [some 82, none, none, none]), (100, 40, []), (9, 4, [some 84, none, none, none]), (100, 7, []), (3, 4, [some 86, some 88, some 90, none]), (9, 4, [some 87, none, none, none]), (100, 96, []), (9, 4, [some 89, none, none, none]), (100, 40, []), (9, 4, [some 91, none, none, none]), (100, 7, []), (3, 4, [some 93, some 95, some 97, none]), (9, 4, [some 94, none, none, none]), (100, 96, []), (9, 4, [some 96, none, none, none]), (100, 40, []), (9, 4, [some 98, none, none, none]), (100, 7, []), (10, 7, [some 100, some 101, none, none, none, none, none]), (100, 400, []), (9, 4, [some 102, none, none, none]), (100, 1203, [])]
def S_205 : List SE := [(11, 13, [some 2, some 25, none, some 48, some 92, some 99, none, none, none, none, none, none, some 1]), (100, 12, []), (1, 11, [some 3, some 5, some 7, some 9, some 11, some 13, some 15, some 17, some 19, some 21, some 23]), (9, 4, [some 4, none, none, none]), (100, 96, []), (9, 4, [some 6, none, none, none]), (100, 40, []), (9, 4, [some 8, none, none, none]), (100, 7, []), (9, 4, [some 10, none, none, none]), (100, 600, []), (9, 4, [some 12, none, none, none]), (100, 64, []), (9, 4, [some 14, none, none, none]), (100, 800, []), (9, 4, [some 16, none, none, none]), (100, 64, []), (9, 4, [some 18, none, none, none]), (100, 64, []), (9, 4, [some 20, none, none, none]), (100, 64, []), (9, 4, [some 22, none, none, none]), (100, 16, []), (9, 4, [some 24, none, none, none]), (100, 10, []), (1, 11, [some 26, some 28, some 30, some 32, some 34, some 36, some 38, some 40, some 42, some 44, some 46]), (9, 4, [some 27, none, none, none]), (100, 96, []), (9, 4, [some 29, none, none, none]), (100, 40, []), (9, 4, [some 31, none, none, none]), (100, 7, []), (9, 4, [some 33, none, none, none]), (100, 600, []), (9, 4, [some 35, none, none, none]), (100, 64, []), (9, 4, [some 37, none, none, none]), (100, 800, []), (9, 4, [some 39, none, none, none]), (100, 64, []), (9, 4, [some 41, none, none, none]), (100, 64, []), (9, 4, [some 43, none, none, none]), (100, 64, []), (9, 4, [some 45, none, none, none]), (100, 16, []), (9, 4, [some 47, none, none, none]), (100, 10, []), (4, 3, [some 49, none, none]), (101, 6, [some 50, some 57, some 64, some 71, some 78, some 85]), (3, 4, [some 51, some 53, some 55, none]), (9, 4, [some 52, none, none, none]), (100, 96, []), (9, 4, [some 54, none, none, none]), (100, 40, []), (9, 4, [some 56, none, none, none]), (100, 7, []), (3, 4, [some 58, some 60, some 62, none]), (9, 4, [some 59, none, none, none]), (100, 96, []), (9, 4, [some 61, none, none, none]), (100, 40, []), (9, 4, [some 63, none, none, none]), (100, 7, []), (3, 4, [some 65, some 67, some 69, none]), (9, 4, [some 66, none, none, none]), (100, 96, []), (9, 4, [some 68, none, none, none]), (100, 40, []), (9, 4, [some 70, none, none, none]), (100, 7, []), (3, 4, [some 72, some 74, some 76, none]), (9, 4, [some 73, none, none, none]), (100, 96, []), (9, 4, [some 75, none, none, none]), (100, 40, []), (9, 4, [some 77, none, none, none]), (100, 7, []), (3, 4, [some 79, some 81, some 83, none]), (9, 4, [some 80, none, none, none]), (100, 96, []), (9, 4, [some 82, none, none, none]), (100, 40, []), (9, 4, [some 84, none, none, none]), (100, 7, []), (3, 4, [some 86, some 88, some 90, none]), (9, 4, [some 87, none, none, none]), (100, 96, []), (9, 4, [some 89, none, none, none]), (100, 40, []), (9, 4, [some 91, none, none, none]), (100, 7, []), (3, 4, [some 93, some 95, some 97, none]), (9, 4, [some 94, none, none, none]), (100, 96, []), (9, 4, [some 96, none, none, none]), (100, 40, []), (9, 4, [some 98, none, none, none]), (100, 7, []), (10, 7, [some 100, some 101, none, none, none, none, none]), (100, 400, []), (9, 4, [some 102, none, none, none]), (100, 1203, [])]
def S_206 : List SE := [(11, 13, [some 2, some 25, none, some 48, some 92, some 99, none, none, none, none, none, none, some 1]), (100, 12, []), (1, 11, [some 3, some 5, some 7, some 9, some 11, some 13, some 15, some 17, some 19, some 21, some 23]), (9, 4, [some 4, none, none, none]), (100, 96, []), (9, 4, [some 6, none, none, none]), (100, 40, []), (9, 4, [some 8, none, none, none]), (100, 7, []), (9, 4, [some 10, none, none, none]), (100, 600, []), (9, 4, [some 12, none, none, none]), (100, 64, []), (9, 4, [some 14, none, none, none]), (100, 800, []), (9, 4, [some 16, none, none, none]), (100, 64, []), (9, 4, [some 18, none, none, none]), (100, 64, []), (9, 4, [some 20, none, none, none]), (100, 64, []), (9, 4, [some 22, none, none, none]), (100, 16, []), (9, 4, [some 24, none, none, none]), (100, 10, []), (1, 11, [some 26, some 28, some 30, some 32, some 34, some 36, some 38, some 40, some 42, some 44, some 46]), (9, 4, [some 27, none, none, none]), (100, 96, []), (9, 4, [some 29, none, none, none]), (100, 40, []), (9, 4, [some 31, none, none, none]), (100, 7, []), (9, 4, [some 33, none, none, none]), (100, 600, []), (9, 4, [some 35, none, none, none]), (100, 64, []), (9, 4, [some 37, none, none, none]), (100, 800, []), (9, 4, [some 39, none, none, none]), (100, 64, []), (9, 4, [some 41, none, none, none]), (100, 64, []), (9, 4, [some 43, none, none, none]), (100, 64, []), (9, 4, [some 45, none, none, none]), (100, 16, []), (9, 4, [some 47, none, none, none]), (100, 10, []), (4, 3, [some 49, none, none]), (101, 6, [some 50, some 57, some 64, some 71, some 78, some 85]), (3, 4, [some 51, some 53, some 55, none]), (9, 4, [some 52, none, none, none]), (100, 96, []), (9, 4, [some 54, none, none, none]), (100, 40, []), (9, 4, [some 56, none, none, none]), (100, 7, []), (3, 4, [some 58, some 60, some 62, none]), (9, 4, [some 59, none, none, none]), (100, 96, []), (9, 4, [some 61, none, none, none]), (100, 40, []), (9, 4, [some 63, none, none, none]), (100, 7, []), (3, 4, [some 65, some 67, some 69, none]), (9, 4, [some 66, none, none, none]), (100, 96, []), (9, 4, [some 68, none, none, none]), (100, 40, []), (9, 4, [some 70, none, none, none]), (100, 7, []), (3, 4, [some 72, some 74, some 76, none]), (9, 4, [some 73, none, none, none]), (100, 96, []), (9, 4, [some 75, none, none, none]), (100, 40, []), (9, 4, [some 77, none, none, none]), (100, 7, []), (3, 4, [some 79, some 81, some 83, none]), (9, 4, [some 80, none, none, none]), (100, 96, []), (9, 4, [some 82, none, none, none]), (100, 40, []), (9, 4, [some 84, none, none, none]), (100, 7, []), (3, 4, [some 86, some 88, some 90, none]), (9, 4, [some 87, none, none, none]), (100, 96, []), (9, 4, [some 89, none, none, none]), (100, 40, []), (9, 4, [some 91, none, none, none]), (100, 7, []), (3, 4, [some 93, some 95, some 97, none]), (9, 4, [some 94, none, none, none]), (100, 96, []), (9, 4, [some 96, none, none, none]), (100, 40, []), (9, 4, [some 98, none, none, none]), (100, 7, []), (10, 7, [some 100, some 101, none, none, none, none, none]), (100, 400, []), (9, 4, [some 102, none, none, none]), (100, 1203, []), (6, 12, [none, none, none, none, none, none, none, none, none, none, none, none])]
def S_207 : List SE := [(11, 13, [some 2, some 25, none, some 48, some 92, some 99, none, none, none, none, none, none, some 1]), (100, 12, []), (1, 11, [some 3, some 5, some 7, some 9, some 11, some 13, some 15, some 17, some 19, some 21, some 23]), (9, 4, [some 4, none, none, none]), (100, 96, []), (9, 4, [some 6, none, none, none]), (100, 40, []), (9, 4, [some 8, none, none, none]), (100, 7, []), (9, 4, [some 10, none, none, none]), (100, 600, []), (9, 4, [some 12, none, none, none]), (100, 64, []), (9, 4, [some 14, none, none, none]), (100, 800, []), (9, 4, [some 16, none, none, none]), (100, 64, []), (9, 4, [some 18, none, none, none]), (100, 64, []), (9, 4, [some 20, none, none, none]), (100, 64, []), (9, 4, [some 22, none, none, none]), (100, 16, []), (9, 4, [some 24, none, none, none]), (100, 10, []), (1, 11, [some 26, some 28, some 30, some 32, some 34, some 36, some 38, some 40, some 42, some 44, some 46]), (9, 4, [some 27, none, none, none]), (100, 96, []), (9, 4, [some 29, none, none, none]), (100, 40, []), (9, 4, [some 31, none, none, none]), (100, 7, []), (9, 4, [some 33, none, none, none]), (100, 600, []), (9, 4, [some 35, none, none, none]), (100, 64, []), (9, 4, [some 37, none, none, none]), (100, 800, []), (9, 4, [some 39, none, none, none]), (100, 64, []), (9, 4, [some 41, none, none, none]), (100, 64, []), (9, 4, [some 43, none, none, none]), (100, 64, []), (9, 4, [some 45, none, none, none]), (100, 16, []), (9, 4, [some 47, none, none, none]), (100, 10, []), (4, 3, [some 49, none, none]), (101, 6, [some 50, some 57, some 64, some 71, some 78, some 85]), (3, 4, [some 51, some 53, some 55, none]), (9, 4, [some 52, none, none, none]), (100, 96, []), (9, 4, [some 54, none, none, none]), (100, 40, []), (9, 4, [some 56, none, none, none]), (100, 7, []), (3, 4, [some 58, some 60, some 62, none]), (9, 4, [some 59, none, none, none]), (100, 96, []), (9, 4, [some 61, none, none, none]), (100, 40, []), (9, 4, [some 63, none, none, none]), (100, 7, []), (3, 4, [some 65, some 67, some 69, none]), (9, 4, [some 66, none, none, none]), (100, 96, []), (9, 4, [some 68, none, none, none]), (100, 40, []), (9, 4, [some 70, none, none, none]), (100, 7, []), (3, 4, [some 72, some 74, some 76, none]), (9, 4, [some 73, none, none, none]), (100, 96, []), (9, 4, [some 75, none, none, none]), (100, 40, []), (9, 4, [some 77, none, none, none]), (100, 7, []), (3, 4, [some 79, some 81, some 83, none]), (9, 4, [some 80, none, none, none]), (100, 96, []), (9, 4, [some 82, none, none, none]), (100, 40, []), (9, 4, [some 84, none, none, none]), (100, 7, []), (3, 4, [some 86, some 88, some 90, none]), (9, 4, [some 87, none, none, none]), (100, 96, []), (9, 4, [some 89, none, none, none]), (100, 40, []), (9, 4, [some 91, none, none, none]), (100, 7, []), (3, 4, [some 93, some 95, some 97, none]), (9, 4, [some 94, none, none, none]), (100, 96, []), (9, 4, [some 96, none, none, none]), (100, 40, []), (9, 4, [some 98, none, none, none]), (100, 7, []), (10, 7, [some 100, some 101, none, none, none, none, none]), (100, 400, []), (9, 4, [some 102, none, none, none]), (100, 1203, []), (6, 12, [none, none, none, none, none, none, none, none, none, none, none, none]), (9, 4, [none, none, none, none])]
def S_208 : List SE := [(11, 13, [some 2, some 25, none, some 48, some 92, some 99, none, none, none, none, none, none, some 1]), (100, 12, []), (1, 11, [some 3, some 5, some 7, some 9, some 11, some 13, some 15, some 17, some 19, some 21, some 23]), (9, 4, [some 4, none, none, none]), (100, 96, []), (9, 4, [some 6, none, none, none]), (100, 40, []), (9, 4, [some 8, none, none, none]), (100, 7, []), (9, 4, [some 10, none, none, none]), (100, 600, []), (9, 4, [some 12, none, none, none]), (100, 64, []), (9, 4, [some 14, none, none, none]), (100, 800, []), (9, 4, [some 16, none, none, none]), (100, 64, []), (9, 4, [some 18, none, none, none]), (100, 64, []), (9, 4, [some 20, none, none, none]), (100, 64, []), (9, 4, [some 22, none, none, none]), (100, 16, []), (9, 4, [some 24, none, none, none]), (100, 10, []), (1, 11, [some 26, some 28, some 30, some 32, some 34, some 36, some 38, some 40, some 42, some 44, some 46]), (9, 4, [some 27, none, none, none]), (100, 96, []), (9, 4, [some 29, none, none, none]), (100, 40, []), (9, 4, [some 31, none, none, none]), (100, 7, []), (9, 4, [some 33, none, none, none]), (100, 600, []), (9, 4, [some 35, none, none, none]), (100, 64, []), (9, 4, [some 37, none, none, none]), (100, 800, []), (9, 4, [some 39, none, none, none]), (100, 64, []), (9, 4, [some 41, none, none, none]), (100, 64, []), (9, 4, [some 43, none, none, none]), (100, 64, []), (9, 4, [some 45, none, none, none]), (100, 16, []), (9, 4, [some 47, none, none, none]), (100, 10, []), (4, 3, [some 49, none, none]), (101, 6, [some 50, some 57, some 64, some 71, some 78, some 85]), (3, 4, [some 51, some 53, some 55, none]), (9, 4, [some 52, none, none, none]), (100, 96, []), (9, 4, [some 54, none, none, none]), (100, 40, []), (9, 4, [some 56, none, none, none]), (100, 7, []), (3, 4, [some 58, some 60, some 62, none]), (9, 4, [some 59, none, none, none]), (100, 96, []), (9, 4, [some 61, none, none, none]), (100, 40, []), (9, 4, [some 63, none, none, none]), (100, 7, []), (3, 4, [some 65, some 67, some 69, none]), (9, 4, [some 66, none, none, none]), (100, 96, []), (9, 4, [some 68, none, none, none]), (100, 40, []), (9, 4, [some 70, none, none, none]), (100, 7, []), (3, 4, [some 72, some 74, some 76, none]), (9, 4, [some 73, none, none, none]), (100, 96, []), (9, 4, [some 75, none, none, none]), (100, 40, []), (9, 4, [some 77, none, none, none]), (100, 7, []), (3, 4, [some 79, some 81, some 83, none]), (9, 4, [some 80, none, none, none]), (100, 96, []), (9, 4, [some 82, none, none, none]), (100, 40, []), (9, 4, [some 84, none, none, none]), (100, 7, []), (3, 4, [some 86, some 88, some 90, none]), (9, 4, [some 87, none, none, none]), (100, 96, []), (9, 4, [some 89, none, none, none]), (100, 40, []), (9, 4, [some 91, none, none, none]), (100, 7, []), (3, 4, [some 93, some 95, some 97, none]), (9, 4, [some 94, none, none, none]), (100, 96, []), (9, 4, [some 96, none, none, none]), (100, 40, []), (9, 4, [some 98, none, none, none]), (100, 7, []), (10, 7, [some 100, some 101, none, none, none, none, none]), (100, 400, []), (9, 4, [some 102, none, none, none]), (100, 1203, []), (6, 12, [none, none, none, none, none, none, none, none, none, none, none, none]), (9, 4, [none, none, none, none]), (100, 64, [])]
def S_209 : List SE := [(11, 13, [some 2, some 25, none, some 48, some 92, some 99, none, none, none, none, none, none, some 1]), (100, 12, []), (1, 11, [some 3, some 5, some 7, some 9, some 11, some 13, some 15, some 17, some 19, some 21, some 23]), (9, 4, [some 4, none, none, none]), (100, 96, []), (9, 4, [some 6, none, none, none]), (100, 40, []), (9, 4, [some 8, none, none, none]), (100, 7, []), (9, 4, [some 10, none, none, none]), (100, 600, []), (9, 4, [some 12, none, none, none]), (100, 64, []), (9, 4, [some 14, none, none, none]), (100, 800, []), (9, 4, [some 16, none, none, none]), (100, 64, []), (9, 4, [some 18, none, none, none]), (100, 64, []), (9, 4, [some 20, none, none, none]), (100, 64, []), (9, 4, [some 22, none, none, none]), (100, 16, []), (9, 4, [some 24, none, none, none]), (100, 10, []), (1, 11, [some 26, some 28, some 30, some 32, some 34, some 36, some 38, some 40, some 42, some 44, some 46]), (9, 4, [some 27, none, none, none]), (100, 96, []), (9, 4, [some 29, none, none, none]), (100, 40, []), (9, 4, [some 31, none, none, none]), (100, 7, []), (9, 4, [some 33, none, none, none]), (100, 600, []), (9, 4, [some 35, none, none, none]), (100, 64, []), (9, 4, [some 37, none, none, none]), (100, 800, []), (9, 4, [some 39, none, none, none]), (100, 64, []), (9, 4, [some 41, none, none, none]), (100, 64, []), (9, 4, [some 43, none, none, none]), (100, 64, []), (9, 4, [some 45, none, none, none]), (100, 16, []), (9, 4, [some 47, none, none, none]), (100, 10, []), (4, 3, [some 49, none, none]), (101, 6, [some 50, some 57, some 64, some 71, some 78, some 85]), (3, 4, [some 51, some 53, some 55, none]), (9, 4, [some 52, none, none, none]), (100, 96, []), (9, 4, [some 54, none, none, none]), (100, 40, []), (9, 4, [some 56, none, none, none]), (100, 7, []), (3, 4, [some 58, some 60, some 62, none]), (9, 4, [some 59, none, none, none]), (100, 96, []), (9, 4, [some 61, none, none, none]), (100, 40, []), (9, 4, [some 63, none, none, none]), (100, 7, []), (3, 4, [some 65, some 67, some 69, none]), (9, 4, [some 66, none, none, none]), (100, 96, []), (9, 4, [some 68, none, none, none]), (100, 40, []), (9, 4, [some 70, none, none, none]), (100, 7, []), (3, 4, [some 72, some 74, some 76, none]), (9, 4, [some 73, none, none, none]), (100, 96, []), (9, 4, [some 75, none, none, none]), (100, 40, []), (9, 4, [some 77, none, none, none]), (100, 7, []), (3, 4, [some 79, some 81, some 83, none]), (9, 4, [some 80, none, none, none]), (100, 96, []), (9, 4, [some 82, none, none, none]), (100, 40, []), (9, 4, [some 84, none, none, none]), (100, 7, []), (3, 4, [some 86, some 88, some 90, none]), (9, 4, [some 87, none, none, none]), (100, 96, []), (9, 4, [some 89, none, none, none]), (100, 40, []), (9, 4, [some 91, none, none, none]), (100, 7, []), (3, 4, [some 93, some 95, some 97, none]), (9, 4, [some 94, none, none, none]), (100, 96, []), (9, 4, [some 96, none, none, none]), (100, 40, []), (9, 4, [some 98, none, none, none]), (100, 7, []), (10, 7, [some 100, some 101, none, none, none, none, none]), (100, 400, []), (9, 4, [some 102, none, none, none]), (100, 1203, []), (6, 12, [none, none, none, none, none, none, none, none, none, none, none, none]), (9, 4, [some 105, none, none, none]), (100, 64, [])]
def S_210 : List SE := [(11, 13, [some 2, some 25, none, some 48, some 92, some 99, none, none, none, none, none, none, some 1]), (100, 12, []), (1, 11, [some 3, some 5, some 7, some 9, some 11, some 13, some 15, some 17, some 19, some 21, some 23]), (9, 4, [some 4, none, none, none]), (100, 96, []), (9, 4, [some 6, none, none, none]), (100, 40, []), (9, 4, [some 8, none, none, none]), (100, 7, []), (9, 4, [some 10, none, none, none]), (100, 600, []), (9, 4, [some 12, none, none, none]), (100, 64, []), (9, 4, [some 14, none, none, none]), (100, 800, []), (9, 4, [some 16, none, none, none]), (100, 64, []), (9, 4, [some 18, none, none, none]), (100, 64, []), (9, 4, [some 20, none, none, none]), (100, 64, []), (9, 4, [some 22, none, none, none]), (100, 16, []), (9, 4, [some 24, none, none, none]), (100, 10, []), (1, 11, [some 26, some 28, some 30, some 32, some 34, some 36, some 38, some 40, some 42, some 44, some 46]), (9, 4, [some 27, none, none, none]), (100, 96, []), (9, 4, [some 29, none, none, none]), (100, 40, []), (9, 4, [some 31, none, none, none]), (100, 7, []), (9, 4, [some 33, none, none, none]), (100, 600, []), (9, 4, [some 35, none, none, none]), (100, 64, []), (9, 4, [some 37, none, none, none]), (100, 800, []), (9, 4, [some 39, none, none, none]), (100, 64, []), (9, 4, [some 41, none, none, none]), (100, 64, []), (9, 4, [some 43, none, none, none]), (100, 64, []), (9, 4, [some 45, none, none, none]), (100, 16, []), (9, 4, [some 47, none, none, none]), (100, 10, []), (4, 3, [some 49, none, none]), (101, 6, [some 50, some 57, some 64, some 71, some 78, some 85]), (3, 4, [some 51, some 53, some 55, none]), (9, 4, [some 52, none, none, none]), (100, 96, []), (9, 4, [some 54, none, none, none]), (100, 40, []), (9, 4, [some 56, none, none, none]), (100, 7, []), (3, 4, [some 58, some 60, some 62, none]), (9, 4, [some 59, none, none, none]), (100, 96, []), (9, 4, [some 61, none, none, none]), (100, 40, []), (9, 4, [some 63, none, none, none]), (100, 7, []), (3, 4, [some 65, some 67, some 69, none]), (9, 4, [some 66, none, none, none]), (100, 96, []), (9, 4, [some 68, none, none, none]), (100, 40, []), (9, 4, [some 70, none, none, none]), (100, 7, []), (3, 4, [some 72, some 74, some 76, none]), (9, 4, [some 73, none, none, none]), (100, 96, []), (9, 4, [some 75, none, none, none]), (100, 40, []), (9, 4, [some 77, none, none, none]), (100, 7, []), (3, 4, [some 79, some 81, some 83, none]), (9, 4, [some 80, none, none, none]), (100, 96, []), (9, 4, [some 82, none, none, none]), (100, 40, []), (9, 4, [some 84, none, none, none]), (100, 7, []), (3, 4, [some 86, some 88, some 90, none]), (9, 4, [some 87, none, none, none]), (100, 96, []), (9, 4, [some 89, none, none, none]), (100, 40, []), (9, 4, [some 91, none, none, none]), (100, 7, []), (3, 4, [some 93, some 95, some 97, none]), (9, 4, [some 94, none, none, none]), (100, 96, []), (9, 4, [some 96, none, none, none]), (100, 40, []), (9, 4, [some 98, none, none, none]), (100, 7, []), (10, 7, [some 100, some 101, none, none, none, none, none]), (100, 400, []), (9, 4, [some 102, none, none, none]), (100, 1203, []), (6, 12, [none, some 104, none, none, none, none, none, none, none, none, none, none]), (9, 4, [some 105, none, none, none]), (100, 64, [])]
def S_211 : List SE := [(11, 13, [some 2, some 25, none, some 48, some 92, some 99, none, none, none, none, none, none, some 1]), (100, 12, []), (1, 11, [some 3, some 5, some 7, some 9, some 11, some 13, some 15, some 17, some 19, some 21, some 23]), (9, 4, [some 4, none, none, none]), (100, 96, []), (9, 4, [some 6, none, none, none]), (100, 40, []), (9, 4, [some 8, none, none, none]), (100, 7, []), (9, 4, [some 10, none, none, none]), (100, 600, []), (9, 4, [some 12, none, none, none]), (100, 64, []), (9, 4, [some 14, none, none, none]), (100, 800, []), (9, 4, [some 16, none, none, none]), (100, 64, []), (9, 4, [some 18, none, none, none]), (100, 64, []), (9, 4, [some 20, none, none, none]), (100, 64, []), (9, 4, [some 22, none, none, none]), (100, 16, []), (9, 4, [some 24, none, none, none]), (100, 10, []), (1, 11, [some 26, some 28, some 30, some 32, some 34, some 36, some 38, some 40, some 42, some 44, some 46]), (9, 4, [some 27, none, none, none]), (100, 96, []), (9, 4, [some 29, none, none, none]), (100, 40, []), (9, 4, [some 31, none, none, none]), (100, 7, []), (9, 4, [some 33, none, none, none]), (100, 600, []), (9, 4, [some 35, none, none, none]), (100, 64, []), (9, 4, [some 37, none, none, none]), (100, 800, []), (9, 4, [some 39, none, none, none]), (100, 64, []), (9, 4, [some 41, none, none, none]), (100, 64, []), (9, 4, [some 43, none, none, none]), (100, 64, []), (9, 4, [some 45, none, none, none]), (100, 16, []), (9, 4, [some 47, none, none, none]), (100, 10, []), (4, 3, [some 49, none, none]), (101, 6, [some 50, some 57, some 64, some 71, some 78, some 85]), (3, 4, [some 51, some 53, some 55, none]), (9, 4, [some 52, none, none, none]), (100, 96, []), (9, 4, [some 54, none, none, none]), (100, 40, []), (9, 4, [some 56, none, none, none]), (100, 7, []), (3, 4, [some 58, some 60, some 62, none]), (9, 4, [some 59, none, none, none]), (100, 96, []), (9, 4, [some 61, none, none, none]), (100, 40, []), (9, 4, [some 63, none, none, none]), (100, 7, []), (3, 4, [some 65, some 67, some 69, none]), (9, 4, [some 66, none, none, none]), (100, 96, []), (9, 4, [some 68, none, none, none]), (100, 40, []), (9, 4, [some 70, none, none, none]), (100, 7, []), (3, 4, [some 72, some 74, some 76, none]), (9, 4, [some 73, none, none, none]), (100, 96, []), (9, 4, [some 75, none, none, none]), (100, 40, []), (9, 4, [some 77, none, none, none]), (100, 7, []), (3, 4, [some 79, some 81, some 83, none]), (9, 4, [some 80, none, none, none]), (100, 96, []), (9, 4, [some 82, none, none, none]), (100, 40, []), (9, 4, [some 84, none, none, none]), (100, 7, []), (3, 4, [some 86, some 88, some 90, none]), (9, 4, [some 87, none, none, none]), (100, 96, []), (9, 4, [some 89, none, none, none]), (100, 40, []), (9, 4, [some 91, none, none, none]), (100, 7, []), (3, 4, [some 93, some 95, some 97, none]), (9, 4, [some 94, none, none, none]), (100, 96, []), (9, 4, [some 96, none, none, none]), (100, 40, []), (9, 4, [some 98, none, none, none]), (100, 7, []), (10, 7, [some 100, some 101, none, none, none, none, none]), (100, 400, []), (9, 4, [some 102, none, none, none]), (100, 1203, []), (6, 12, [none, some 104, none, none, none, none, none, none, none, none, none, none]), (9, 4, [some 105, none, none, none]), (100, 64, []), (9, 4, [none, none, none, none])]
def S_212 : List SE := [(11, 13, [some 2, some 25, none, some 48, some 92, some 99, none, none, none, none, none, none, some 1]), (100, 12, []), (1, 11, [some 3, some 5, some 7, some 9, some 11, some 13, some 15, some 17, some 19, some 21, some 23]), (9, 4, [some 4, none, none, none]), (100, 96, []), (9, 4, [some 6, none, none, none]), (100, 40, []), (9, 4, [some 8, none, none, none]), (100, 7, []), (9, 4, [some 10, none, none, none]), (100, 600, []), (9, 4, [some 12, none, none, none]), (100, 64, []), (9, 4, [some 14, none, none, none]), (100, 800, []), (9, 4, [some 16, none, none, none]), (100, 64, []), (9, 4, [some 18, none, none, none]), (100, 64, []), (9, 4, [some 20, none, none, none]), (100, 64, []), (9, 4, [some 22, none, none, none]), (100, 16, []), (9, 4, [some 24, none, none, none]), (100, 10, []), (1, 11, [some 26, some 28, some 30, some 32, some 34, some 36, some 38, some 40, some 42, some 44, some 46]), (9, 4, [some 27, none, none, none]), (100, 96, []), (9, 4, [some 29, none, none, none]), (100, 40, []), (9, 4, [some 31, none, none, none]), (100, 7, []), (9, 4, [some 33, none, none, none]), (100, 600, []), (9, 4, [some 35, none, none, none]), (100, 64, []), (9, 4, [some 37, none, none, none]), (100, 800, []), (9, 4, [some 39, none, none, none]), (100, 64, []), (9, 4, [some 41, none, none, none]), (100, 64, []), (9, 4, [some 43, none, none, none]), (100, 64, []), (9, 4, [some 45, none, none, none]), (100, 16, []), (9, 4, [some 47, none, none, none]), (100, 10, []), (4, 3, [some 49, none, none]), (101, 6, [some 50, some 57, some 64, some 71, some 78, some 85]), (3, 4, [some 51, some 53, some 55, none]), (9, 4, [some 52, none, none, none]), (100, 96, []), (9, 4, [some 54, none, none, none]), (100, 40, []), (9, 4, [some 56, none, none, none]), (100, 7, []), (3, 4, [some 58, some 60, some 62, none]), (9, 4, [some 59, none, none, none]), (100, 96, []), (9, 4, [some 61, none, none, none]), (100, 40, []), (9, 4, [some 63, none, none, none]), (100, 7, []), (3, 4, [some 65, some 67, some 69, none]), (9, 4, [some 66, none, none, none]), (100, 96, []), (9, 4, [some 68, none, none, none]), (100, 40, []), (9, 4, [some 70, none, none, none]), (100, 7, []), (3, 4, [some 72, some 74, some 76, none]), (9, 4, [some 73, none, none, none]), (100, 96, []), (9, 4, [some 75, none, none, none]), (100, 40, []), (9, 4, [some 77, none, none, none]), (100, 7, []), (3, 4, [some 79, some 81, some 83, none]), (9, 4, [some 80, none, none, none]), (100, 96, []), (9, 4, [some 82, none, none, none]), (100, 40, []), (9, 4, [some 84, none, none, none]), (100, 7, []), (3, 4, [some 86, some 88, some 90, none]), (9, 4, [some 87, none, none, none]), (100, 96, []), (9, 4, [some 89, none, none, none]), (100, 40, []), (9, 4, [some 91, none, none, none]), (100, 7, []), (3, 4, [some 93, some 95, some 97, none]), (9, 4, [some 94, none, none, none]), (100, 96, []), (9, 4, [some 96, none, none, none]), (100, 40, []), (9, 4, [some 98, none, none, none]), (100, 7, []), (10, 7, [some 100, some 101, none, none, none, none, none]), (100, 400, []), (9, 4, [some 102, none, none, none]), (100, 1203, []), (6, 12, [none, some 104, none, none, none, none, none, none, none, none, none, none]), (9, 4, [some 105, none, none, none]), (100, 64, []), (9, 4, [none, none, none, none]), (100, 800, [])]
def S_213 : List SE := [(11, 13, [some 2, some 25, none, some 48, some 92, some 99, none, none, none, none, none, none, some 1]), (100, 12, []), (1, 11, [some 3, some 5, some 7, some 9, some 11, some 13, some 15, some 17, some 19, some 21, some 23]), (9, 4, [some 4, none, none, none]), (100, 96, []), (9, 4, [some 6, none, none, none]), (100, 40, []), (9, 4, [some 8, none, none, none]), (100, 7, []), (9, 4, [some 10, none, none, none]), (100, 600, []), (9, 4, [some 12, none, none, none]), (100, 64, []), (9, 4, [some 14, none, none, none]), (100, 800, []), (9, 4, [some 16, none, none, none]), (100, 64, []), (9, 4, [some 18, none, none, none]), (100, 64, []), (9, 4, [some 20, none, none, none]), (100, 64, []), (9, 4, [some 22, none, none, none]), (100, 16, []), (9, 4, [some 24, none, none, none]), (100, 10, []), (1, 11, [some 26, some 28, some 30, some 32, some 34, some 36, some 38, some 40, some 42, some 44, some 46]), (9, 4, [some 27, none, none, none]), (100, 96, []), (9, 4, [some 29, none, none, none]), (100, 40, []), (9, 4, [some 31, none, none, none]), (100, 7, []), (9, 4, [some 33, none, none, none]), (100, 600, []), (9, 4, [some 35, none, none, none]), (100, 64, []), (9, 4, [some 37, none, none, none]), (100, 800, []), (9, 4, [some 39, none, none, none]), (100, 64, []), (9, 4, [some 41, none, none, none]), (100, 64, []), (9, 4, [some 43, none, none, none]), (100, 64, []), (9, 4, [some 45, none, none, none]), (100, 16, []), (9, 4, [some 47, none, none, none]), (100, 10, []), (4, 3, [some 49, none, none]), (101, 6, [some 50, some 57, some 64, some 71, some 78, some 85]), (3, 4, [some 51, some 53, some 55, none]), (9, 4, [some 52, none, none, none]), (100, 96, []), (9, 4, [some 54, none, none, none]), (100, 40, []), (9, 4, [some 56, none, none, none]), (100, 7, []), (3, 4, [some 58, some 60, some 62, none]), (9, 4, [some 59, none, none, none]), (100, 96, []), (9, 4, [some 61, none, none, none]), (100, 40, []), (9, 4, [some 63, none, none, none]), (100, 7, []), (3, 4, [some 65, some 67, some 69, none]), (9, 4, [some 66, none, none, none]), (100, 96, []), (9, 4, [some 68, none, none, none]), (100, 40, []), (9, 4, [some 70, none, none, none]), (100, 7, []), (3, 4, [some 72, some 74, some 76, none]), (9, 4, [some 73, none, none, none]), (100, 96, []), (9, 4, [some 75, none, none, none]), (100, 40, []), (9, 4, [some 77, none, none, none]), (100, 7, []), (3, 4, [some 79, some 81, some 83, none]), (9, 4, [some 80, none, none, none]), (100, 96, []), (9, 4, [some 82, none, none, none]), (100, 40, []), (9, 4, [some 84, none, none, none]), (100, 7, []), (3, 4, [some 86, some 88, some 90, none]), (9, 4, [some 87, none, none, none]), (100, 96, []), (9, 4, [some 89, none, none, none]), (100, 40, []), (9, 4, [some 91, none, none, none]), (100, 7, []), (3, 4, [some 93, some 95, some 97, none]), (9, 4, [some 94, none, none, none]), (100, 96, []), (9, 4, [some 96, none, none, none]), (100, 40, []), (9, 4, [some 98, none, none, none]), (100, 7, []), (10, 7, [some 100, some 101, none, none, none, none, none]), (100, 400, []), (9, 4, [some 102, none, none, none]), (100, 1203, []), (6, 12, [none, some 104, none, none, none, none, none, none, none, none, none, none]), (9, 4, [some 105, none, none, none]), (100, 64, []), (9, 4, [some 107, none, none, none]), (100, 800, [])]
def S_214 : List SE := [(11, 13, [some 2, some 25, none, some 48, some 92, some 99, none, none, none, none, none, none, some 1]), (100, 12, []), (1, 11, [some 3, some 5, some 7, some 9, some 11, some 13, some 15, some 17, some 19, some 21, some 23]), (9, 4, [some 4, none, none, none]), (100, 96, []), (9, 4, [some 6, none, none, none]), (100, 40, []), (9, 4, [some 8, none, none, none]), (100, 7, []), (9, 4, [some 10, none, none, none]), (100, 600, []), (9, 4, [some 12, none, none, none]), (100, 64, []), (9, 4, [some 14, none, none, none]), (100, 800, []), (9, 4, [some 16, none, none, none]), (100, 64, []), (9, 4, [some 18, none, none, none]), (100, 64, []), (9, 4, [some 20, none, none, none]), (100, 64, []), (9, 4, [some 22, none, none, none]), (100, 16, []), (9, 4, [some 24, none, none, none]), (100, 10, []), (1, 11, [some 26, some 28, some 30, some 32, some 34, some 36, some 38, some 40, some 42, some 44, some 46]), (9, 4, [some 27, none, none, none]), (100, 96, []), (9, 4, [some 29, none, none, none]), (100, 40, []), (9, 4, [some 31, none, none, none]), (100, 7, []), (9, 4, [some 33, none, none, none]), (100, 600, []), (9, 4, [some 35, none, none, none]), (100, 64, []), (9, 4, [some 37, none, none, none]), (100, 800, []), (9, 4, [some 39, none, none, none]), (100, 64, []), (9, 4, [some 41, none, none, none]), (100, 64, []), (9, 4, [some 43, none, none, none]), (100, 64, []), (9, 4, [some 45, none, none, none]), (100, 16, []), (9, 4, [some 47, none, none, none]), (100, 10, []), (4, 3, [some 49, none, none]), (101, 6, [some 50, some 57, some 64, some 71, some 78, some 85]), (3, 4, [some 51, some 53, some 55, none]), (9, 4, [some 52, none, none, none]), (100, 96, []), (9, 4, [some 54, none, none, none]), (100, 40, []), (9, 4, [some 56, none, none, none]), (100, 7, []), (3, 4, [some 58, some 60, some 62, none]), (9, 4, [some 59, none, none, none]), (100, 96, []), (9, 4, [some 61, none, none, none]), (100, 40, []), (9, 4, [some 63, none, none, none]), (100, 7, []), (3, 4, [some 65, some 67, some 69, none]), (9, 4, [some 66, none, none, none]), (100, 96, []), (9, 4, [some 68, none, none, none]), (100, 40, []), (9, 4, [some 70, none, none, none]), (100, 7, []), (3, 4, [some 72, some 74, some 76, none]), (9, 4, [some 73, none, none, none]), (100, 96, []), (9, 4, [some 75, none, none, none]), (100, 40, []), (9, 4, [some 77, none, none, none]), (100, 7, []), (3, 4, [some 79, some 81, some 83, none]), (9, 4, [some 80, none, none, none]), (100, 96, []), (9, 4, [some 82, none, none, none]), (100, 40, []), (9, 4, [some 84, none, none, none]), (100, 7, []), (3, 4, [some 86, some 88, some 90, none]), (9, 4, [some 87, none, none, none]), (100, 96, []), (9, 4, [some 89, none, none, none]), (100, 40, []), (9, 4, [some 91, none, none, none]), (100, 7, []), (3, 4, [some 93, some 95, some 97, none]), (9, 4, [some 94, none, none, none]), (100, 96, []), (9, 4, [some 96, none, none, none]), (100, 40, []), (9, 4, [some 98, none, none, none]), (100, 7, []), (10, 7, [some 100, some 101, none, none, none, none, none]), (100, 400, []), (9, 4, [some 102, none, none, none]), (100, 1203, []), (6, 12, [none, some 104, some 106, none, none, none, none, none, none, none, none, none]), (9, 4, [some 105, none, none, none]), (100, 64, []), (9, 4, [some 107, none, none, none]), (100, 800, [])]
def S_215 : List SE := [(11, 13, [some 2, some 25, none, some 48, some 92, some 99, none, none, none, none, none, none, some 1]), (100, 12, []), (1, 11, [some 3, some 5, some 7, some 9, some 11, some 13, some 15, some 17, some 19, some 21, some 23]), (9, 4, [some 4, none, none, none]), (100, 96, []), (9, 4, [some 6, none, none, none]), (100, 40, []), (9, 4, [some 8, none, none, none]), (100, 7, []), (9, 4, [some 10, none, none, none]), (100, 600, []), (9, 4, [some 12, none, none, none]), (100, 64, []), (9, 4, [some 14, none, none, none]), (100, 800, []), (9, 4, [some 16, none, none, none]), (100, 64, []), (9, 4, [some 18, none, none, none]), (100, 64, []), (9, 4, [some 20, none, none, none]), (100, 64, []), (9, 4, [some 22, none, none, none]), (100, 16, []), (9, 4, [some 24, none, none, none]), (100, 10, []), (1, 11, [some 26, some 28, some 30, some 32, some 34, some 36, some 38, some 40, some 42, some 44, some 46]), (9, 4, [some 27, none, none, none]), (100, 96, []), (9, 4, [some 29, none, none, none]), (100, 40, []), (9, 4, [some 31, none, none, none]), (100, 7, []), (9, 4, [some 33, none, none, none]), (100, 600, []), (9, 4, [some 35, none, none, none]), (100, 64, []), (9, 4, [some 37, none, none, none]), (100, 800, []), (9, 4, [some 39, none, none, none]), (100, 64, []), (9, 4, [some 41, none, none, none]), (100, 64, []), (9, 4, [some 43, none, none, none]), (100, 64, []), (9, 4, [some 45, none, none, none]), (100, 16, []), (9, 4, [some 47, none, none, none]), (100, 10, []), (4, 3, [some 49, none, none]), (101, 6, [some 50, some 57, some 64, some 71, some 78, some 85]), (3, 4, [some 51, some 53, some 55, none]), (9, 4, [some 52, none, none, none]), (100, 96, []), (9, 4, [some 54, none, none, none]), (100, 40, []), (9, 4, [some 56, none, none, none]), (100, 7, []), (3, 4, [some 58, some 60, some 62, none]), (9, 4, [some 59, none, none, none]), (100, 96, []), (9, 4, [some 61, none, none, none]), (100, 40, []), (9, 4, [some 63, none, none, none]), (100, 7, []), (3, 4, [some 65, some 67, some 69, none]), (9, 4, [some 66, none, none, none]), (100, 96, []), (9, 4, [some 68, none, none, none]), (100, 40, []), (9, 4, [some 70, none, none, none]), (100, 7, []), (3, 4, [some 72, some 74, some 76, none]), (9, 4, [some 73, none, none, none]), (100, 96, []), (9, 4, [some 75, none, none, none]), (100, 40, []), (9, 4, [some 77, none, none, none]), (100, 7, []), (3, 4, [some 79, some 81, some 83, none]), (9, 4, [some 80, none, none, none]), (100, 96, []), (9, 4, [some 82, none, none, none]), (100, 40, []), (9, 4, [some 84, none, none, none]), (100, 7, []), (3, 4, [some 86, some 88, some 90, none]), (9, 4, [some 87, none, none, none]), (100, 96, []), (9, 4, [some 89, none, none, none]), (100, 40, []), (9, 4, [some 91, none, none, none]), (100, 7, []), (3, 4, [some 93, some 95, some 97, none]), (9, 4, [some 94, none, none, none]), (100, 96, []), (9, 4, [some 96, none, none, none]), (100, 40, []), (9, 4, [some 98, none, none, none]), (100, 7, []), (10, 7, [some 100, some 101, none, none, none, none, none]), (100, 400, []), (9, 4, [some 102, none, none, none]), (100, 1203, []), (6, 12, [none, some 104, some 106, none, none, none, none, none, none, none, none, none]), (9, 4, [some 105, none, none, none]), (100, 64, []), (9, 4, [some 107, none, none, none]), (100, 800, []), (9, 4, [none, none, none, none])]
def S_216 : List SE := [(11, 13, [some 2, some 25, none, some 48, some 92, some 99, none, none, none, none, none, none, some 1]), (100, 12, []), (1, 11, [some 3, some 5, some 7, some 9, some 11, some 13, some 15, some 17, some 19, some 21, some 23]), (9, 4, [some 4, none, none, none]), (100, 96, []), (9, 4, [some 6, none, none, none]), (100, 40, []), (9, 4, [some 8, none, none, none]), (100, 7, []), (9, 4, [some 10, none, none, none]), (100, 600, []), (9, 4, [some 12, none, none, none]), (100, 64, []), (9, 4, [some 14, none, none, none]), (100, 800, []), (9, 4, [some 16, none, none, none]), (100, 64, []), (9, 4, [some 18, none, none, none]), (100, 64, []), (9, 4, [some 20, none, none, none]), (100, 64, []), (9, 4, [some 22, none, none, none]), (100, 16, []), (9, 4, [some 24, none, none, none]), (100, 10, []), (1, 11, [some 26, some 28, some 30, some 32, some 34, some 36, some 38, some 40, some 42, some 44, some 46]), (9, 4, [some 27, none, none, none]), (100, 96, []), (9, 4, [some 29, none, none, none]), (100, 40, []), (9, 4, [some 31, none, none, none]), (100, 7, []), (9, 4, [some 33, none, none, none]), (100, 600, []), (9, 4, [some 35, none, none, none]), (100, 64, []), (9, 4, [some 37, none, none, none]), (100, 800, []), (9, 4, [some 39, none, none, none]), (100, 64, []), (9, 4, [some 41, none, none, none]), (100, 64, []), (9, 4, [some 43, none, none, none]), (100, 64, []), (9, 4, [some 45, none, none, none]), (100, 16, []), (9, 4, [some 47, none, none, none]), (100, 10, []), (4, 3, [some 49, none, none]), (101, 6, [some 50, some 57, some 64, some 71, some 78, some 85]), (3, 4, [some 51, some 53, some 55, none]), (9, 4, [some 52, none, none, none]), (100, 96, []), (9, 4, [some 54, none, none, none]), (100, 40, []), (9, 4, [some 56, none, none, none]), (100, 7, []), (3, 4, [some 58, some 60, some 62, none]), (9, 4, [some 59, none, none, none]), (100, 96, []), (9, 4, [some 61, none, none, none]), (100, 40, []), (9, 4, [some 63, none, none, none]), (100, 7, []), (3, 4, [some 65, some 67, some 69, none]), (9, 4, [some 66, none, none, none]), (100, 96, []), (9, 4, [some 68, none, none, none]), (100, 40, []), (9, 4, [some 70, none, none, none]), (100, 7, []), (3, 4, [some 72, some 74, some 76, none]), (9, 4, [some 73, none, none, none]), (100, 96, []), (9, 4, [some 75, none, none, none]), (100, 40, []), (9, 4, [some 77, none, none, none]), (100, 7, []), (3, 4, [some 79, some 81, some 83, none]), (9, 4, [some 80, none, none, none]), (100, 96, []), (9, 4, [some 82, none, none, none]), (100, 40, []), (9, 4, [some 84, none, none, none]), (100, 7, []), (3, 4, [some 86, some 88, some 90, none]), (9, 4, [some 87, none, none, none]), (100, 96, []), (9, 4, [some 89, none, none, none]), (100, 40, []), (9, 4, [some 91, none, none, none]), (100, 7, []), (3, 4, [some 93, some 95, some 97, none]), (9, 4, [some 94, none, none, none]), (100, 96, []), (9, 4, [some 96, none, none, none]), (100, 40, []), (9, 4, [some 98, none, none, none]), (100, 7, []), (10, 7, [some 100, some 101, none, none, none, none, none]), (100, 400, []), (9, 4, [some 102, none, none, none]), (100, 1203, []), (6, 12, [none, some 104, some 106, none, none, none, none, none, none, none, none, none]), (9, 4, [some 105, none, none, none]), (100, 64, []), (9, 4, [some 107, none, none, none]), (100, 800, []), (9, 4, [none, none, none, none]), (100, 400, [])]
def S_217 : List SE := [(11, 13, [some 2, some 25, none, some 48, some 92, some 99, none, none, none, none, none, none, some 1]), (100, 12, []), (1, 11, [some 3, some 5, some 7, some 9, some 11, some 13, some 15, some 17, some 19, some 21, some 23]), (9, 4, [some 4, none, none, none]), (100, 96, []), (9, 4, [some 6, none, none, none]), (100, 40, []), (9, 4, [some 8, none, none, none]), (100, 7, []), (9, 4, [some 10, none, none, none]), (100, 600, []), (9, 4, [some 12, none, none, none]), (100, 64, []), (9, 4, [some 14, none, none, none]), (100, 800, []), (9, 4, [some 16, none, none, none]), (100, 64, []), (9, 4, [some 18, none, none, none]), (100, 64, []), (9, 4, [some 20, none, none, none]), (100, 64, []), (9, 4, [some 22, none, none, none]), (100, 16, []), (9, 4, [some 24, none, none, none]), (100, 10, []), (1, 11, [some 26, some 28, some 30, some 32, some 34, some 36, some 38, some 40, some 42, some 44, some 46]), (9, 4, [some 27, none, none, none]), (100, 96, []), (9, 4, [some 29, none, none, none]), (100, 40, []), (9, 4, [some 31, none, none, none]), (100, 7, []), (9, 4, [some 33, none, none, none]), (100, 600, []), (9, 4, [some 35, none, none, none]), (100, 64, []), (9, 4, [some 37, none, none, none]), (100, 800, []), (9, 4, [some 39, none, none, none]), (100, 64, []), (9, 4, [some 41, none, none, none]), (100, 64, []), (9, 4, [some 43, none, none, none]), (100, 64, []), (9, 4, [some 45, none, none, none]), (100, 16, []), (9, 4, [some 47, none, none, none]), (100, 10, []), (4, 3, [some 49, none, none]), (101, 6, [some 50, some 57, some 64, some 71, some 78, some 85]), (3, 4, [some 51, some 53, some 55, none]), (9, 4, [some 52, none, none, none]), (100, 96, []), (9, 4, [some 54, none, none, none]), (100, 40, []), (9, 4, [some 56, none, none, none]), (100, 7, []), (3, 4, [some 58, some 60, some 62, none]), (9, 4, [some 59, none, none, none]), (100, 96, []), (9, 4, [some 61, none, none, none]), (100, 40, []), (9, 4, [some 63, none, none, none]), (100, 7, []), (3, 4, [some 65, some 67, some 69, none]), (9, 4, [some 66, none, none, none]), (100, 96, []), (9, 4, [some 68, none, none, none]), (100, 40, []), (9, 4, [some 70, none, none, none]), (100, 7, []), (3, 4, [some 72, some 74, some 76, none]), (9, 4, [some 73, none, none, none]), (100, 96, []), (9, 4, [some 75, none, none, none]), (100, 40, []), (9, 4, [some 77, none, none, none]), (100, 7, []), (3, 4, [some 79, some 81, some 83, none]), (9, 4, [some 80, none, none, none]), (100, 96, []), (9, 4, [some 82, none, none, none]), (100, 40, []), (9, 4, [some 84, none, none, none]), (100, 7, []), (3, 4, [some 86, some 88, some 90, none]), (9, 4, [some 87, none, none, none]), (100, 96, []), (9, 4, [some 89, none, none, none]), (100, 40, []), (9, 4, [some 91, none, none, none]), (100, 7, []), (3, 4, [some 93, some 95, some 97, none]), (9, 4, [some 94, none, none, none]), (100, 96, []), (9, 4, [some 96, none, none, none]), (100, 40, []), (9, 4, [some 98, none, none, none]), (100, 7, []), (10, 7, [some 100, some 101, none, none, none, none, none]), (100, 400, []), (9, 4, [some 102, none, none, none]), (100, 1203, []), (6, 12, [none, some 104, some 106, none, none, none, none, none, none, none, none, none]), (9, 4, [some 105, none, none, none]), (100, 64, []), (9, 4, [some 107, none, none, none]), (100, 800, []), (9, 4, [some 109, none, none, none]), (100, 400, [])]
def S_218 : List SE := [(11, 13, [some 2, some 25, none, some 48, some 92, some 99, none, none, none, none, none, none, some 1]), (100, 12, []), (1, 11, [some 3, some 5, some 7, some 9, some 11, some 13, some 15, some 17, some 19, some 21, some 23]), (9, 4, [some 4, none, none, none]), (100, 96, []), (9, 4, [some 6, none, none, none]), (100, 40, []), (9, 4, [some 8, none, none, none]), (100, 7, []), (9, 4, [some 10, none, none, none]), (100, 600, []), (9, 4, [some 12, none, none, none]), (100, 64, []), (9, 4, [some 14, none, none, none]), (100, 800, []), (9, 4, [some 16, none, none, none]), (100, 64, []), (9, 4, [some 18, none, none, none]), (100, 64, []), (9, 4, [some 20, none, none, none]), (100, 64, []), (9, 4, [some 22, none, none, none]), (100, 16, []), (9, 4, [some 24, none, none, none]), (100, 10, []), (1, 11, [some 26, some 28, some 30, some 32, some 34, some 36, some 38, some 40, some 42, some 44, some 46]), (9, 4, [some 27, none, none, none]), (100, 96, []), (9, 4, [some 29, none, none, none]), (100, 40, []), (9, 4, [some 31, none, none, none]), (100, 7, []), (9, 4, [some 33, none, none, none]), (100, 600, []), (9, 4, [some 35, none, none, none]), (100, 64, []), (9, 4, [some 37, none, none, none]), (100, 800, []), (9, 4, [some 39, none, none, none]), (100, 64, []), (9, 4, [some 41, none, none, none]), (100, 64, []), (9, 4, [some 43, none, none, none]), (100, 64, []), (9, 4, [some 45, none, none, none]), (100, 16, []), (9, 4, [some 47, none, none, none]), (100, 10, []), (4, 3, [some 49, none, none]), (101, 6, [some 50, some 57, some 64, some 71, some 78, some 85]), (3, 4, [some 51, some 53, some 55, none]), (9, 4, [some 52, none, none, none]), (100, 96, []), (9, 4, [some 54, none, none, none]), (100, 40, []), (9, 4, [some 56, none, none, none]), (100, 7, []), (3, 4, [some 58, some 60, some 62, none]), (9, 4, [some 59, none, none, none]), (100, 96, []), (9, 4, [some 61, none, none, none]), (100, 40, []), (9, 4, [some 63, none, none, none]), (100, 7, []), (3, 4, [some 65, some 67, some 69, none]), (9, 4, [some 66, none, none, none]), (100, 96, []), (9, 4, [some 68, none, none, none]), (100, 40, []), (9, 4, [some 70, none, none, none]), (100, 7, []), (3, 4, [some 72, some 74, some 76, none]), (9, 4, [some 73, none, none, none]), (100, 96, []), (9, 4, [some 75, none, none, none]), (100, 40, []), (9, 4, [some 77, none, none, none]), (100, 7, []), (3, 4, [some 79, some 81, some 83, none]), (9, 4, [some 80, none, none, none]), (100, 96, []), (9, 4, [some 82, none, none, none]), (100, 40, []), (9, 4, [some 84, none, none, none]), (100, 7, []), (3, 4, [some 86, some 88, some 90, none]), (9, 4, [some 87, none, none, none]), (100, 96, []), (9, 4, [some 89, none, none, none]), (100, 40, []), (9, 4, [some 91, none, none, none]), (100, 7, []), (3, 4, [some 93, some 95, some 97, none]), (9, 4, [some 94, none, none, none]), (100, 96, []), (9, 4, [some 96, none, none, none]), (100, 40, []), (9, 4, [some 98, none, none, none]), (100, 7, []), (10, 7, [some 100, some 101, none, none, none, none, none]), (100, 400, []), (9, 4, [some 102, none, none, none]), (100, 1203, []), (6, 12, [none, some 104, some 106, none, none, some 108, none, none, none, none, none, none]), (9, 4, [some 105, none, none, none]), (100, 64, []), (9, 4, [some 107, none, none, none]), (100, 800, []), (9, 4, [some 109, none, none, none]), (100, 400, [])]
def S_219 : List SE := [(11, 13, [some 2, some 25, none, some 48, some 92, some 99, none, none, none, none, none, none, some 1]), (100, 12, []), (1, 11, [some 3, some 5, some 7, some 9, some 11, some 13, some 15, some 17, some 19, some 21, some 23]), (9, 4, [some 4, none, none, none]), (100, 96, []), (9, 4, [some 6, none, none, none]), (100, 40, []), (9, 4, [some 8, none, none, none]), (100, 7, []), (9, 4, [some 10, none, none, none]), (100, 600, []), (9, 4, [some 12, none, none, none]), (100, 64, []), (9, 4, [some 14, none, none, none]), (100, 800, []), (9, 4, [some 16, none, none, none]), (100, 64, []), (9, 4, [some 18, none, none, none]), (100, 64, []), (9, 4, [some 20, none, none, none]), (100, 64, []), (9, 4, [some 22, none, none, none]), (100, 16, []), (9, 4, [some 24, none, none, none]), (100, 10, []), (1, 11, [some 26, some 28, some 30, some 32, some 34, some 36, some 38, some 40, some 42, some 44, some 46]), (9, 4, [some 27, none, none, none]), (100, 96, []), (9, 4, [some 29, none, none, none]), (100, 40, []), (9, 4, [some 31, none, none, none]), (100, 7, []), (9, 4, [some 33, none, none, none]), (100, 600, []), (9, 4, [some 35, none, none, none]), (100, 64, []), (9, 4, [some 37, none, none, none]), (100, 800, []), (9, 4, [some 39, none, none, none]), (100, 64, []), (9, 4, [some 41, none, none, none]), (100, 64, []), (9, 4, [some 43, none, none, none]), (100, 64, []), (9, 4, [some 45, none, none, none]), (100, 16, []), (9, 4, [some 47, none, none, none]), (100, 10, []), (4, 3, [some 49, none, none]), (101, 6, [some 50, some 57, some 64, some 71, some 78, some 85]), (3, 4, [some 51, some 53, some 55, none]), (9, 4, [some 52, none, none, none]), (100, 96, []), (9, 4, [some 54, none, none, none]), (100, 40, []), (9, 4, [some 56, none, none, none]), (100, 7, []), (3, 4, [some 58, some 60, some 62, none]), (9, 4, [some 59, none, none, none]), (100, 96, []), (9, 4, [some 61, none, none, none]), (100, 40, []), (9, 4, [some 63, none, none, none]), (100, 7, []), (3, 4, [some 65, some 67, some 69, none]), (9, 4, [some 66, none, none, none]), (100, 96, []), (9, 4, [some 68, none, none, none]), (100, 40, []), (9, 4, [some 70, none, none, none]), (100, 7, []), (3, 4, [some 72, some 74, some 76, none]), (9, 4, [some 73, none, none, none]), (100, 96, []), (9, 4, [some 75, none, none, none]), (100, 40, []), (9, 4, [some 77, none, none, none]), (100, 7, []), (3, 4, [some 79, some 81, some 83, none]), (9, 4, [some 80, none, none, none]), (100, 96, []), (9, 4, [some 82, none, none, none]), (100, 40, []), (9, 4, [some 84, none, none, none]), (100, 7, []), (3, 4, [some 86, some 88, some 90, none]), (9, 4, [some 87, none, none, none]), (100, 96, []), (9, 4, [some 89, none, none, none]), (100, 40, []), (9, 4, [some 91, none, none, none]), (100, 7, []), (3, 4, [some 93, some 95, some 97, none]), (9, 4, [some 94, none, none, none]), (100, 96, []), (9, 4, [some 96, none, none, none]), (100, 40, []), (9, 4, [some 98, none, none, none]), (100, 7, []), (10, 7, [some 100, some 101, none, none, none, none, none]), (100, 400, []), (9, 4, [some 102, none, none, none]), (100, 1203, []), (6, 12, [some 99, some 104, some 106, none, none, some 108, none, none, none, none, none, none]), (9, 4, [some 105, none, none, none]), (100, 64, []), (9, 4, [some 107, none, none, none]), (100, 800, []), (9, 4, [some 109, none, none, none]), (100, 400, [])]
def S_220 : List SE := [(11, 13, [some 2, some 25, none, some 48, some 92, some 99, some 103, none, none, none, none, none, some 1]), (100, 12, []), (1, 11, [some 3, some 5, some 7, some 9, some 11, some 13, some 15, some 17, some 19, some 21, some 23]), (9, 4, [some 4, none, none, none]), (100, 96, []), (9, 4, [some 6, none, none, none]), (100, 40, []), (9, 4, [some 8, none, none, none]), (100, 7, []), (9, 4, [some 10, none, none, none]), (100, 600, []), (9, 4, [some 12, none, none, none]), (100, 64, []), (9, 4, [some 14, none, none, none]), (100, 800, []), (9, 4, [some 16, none, none, none]), (100, 64, []), (9, 4, [some 18, none, none, none]), (100, 64, []), (9, 4, [some 20, none, none, none]), (100, 64, []), (9, 4, [some 22, none, none, none]), (100, 16, []), (9, 4, [some 24, none, none, none]), (100, 10, []), (1, 11, [some 26, some 28, some 30, some 32, some 34, some 36, some 38, some 40, some 42, some 44, some 46]), (9, 4, [some 27, none, none, none]), (100, 96, []), (9, 4, [some 29, none, none, none]), (100, 40, []), (9, 4, [some 31, none, none, none]), (100, 7, []), (9, 4, [some 33, none, none, none]), (100, 600, []), (9, 4, [some 35, none, none, none]), (100, 64, []), (9, 4, [some 37, none, none, none]), (100, 800, []), (9, 4, [some 39, none, none, none]), (100, 64, []), (9, 4, [some 41, none, none, none]), (100, 64, []), (9, 4, [some 43, none, none, none]), (100, 64, []), (9, 4, [some 45, none, none, none]), (100, 16, []), (9, 4, [some 47, none, none, none]), (100, 10, []), (4, 3, [some 49, none, none]), (101, 6, [some 50, some 57, some 64, some 71, some 78, some 85]), (3, 4, [some 51, some 53, some 55, none]), (9, 4, [some 52, none, none, none]), (100, 96, []), (9, 4, [some 54, none, none, none]), (100, 40, []), (9, 4, [some 56, none, none, none]), (100, 7, []), (3, 4, [some 58, some 60, some 62, none]), (9, 4, [some 59, none, none, none]), (100, 96, []), (9, 4, [some 61, none, none, none]), (100, 40, []), (9, 4, [some 63, none, none, none]), (100, 7, []), (3, 4, [some 65, some 67, some 69, none]), (9, 4, [some 66, none, none, none]), (100, 96, []), (9, 4, [some 68, none, none, none]), (100, 40, []), (9, 4, [some 70, none, none, none]), (100, 7, []), (3, 4, [some 72, some 74, some 76, none]), (9, 4, [some 73, none, none, none]), (100, 96, []), (9, 4, [some 75, none, none, none]), (100, 40, []), (9, 4, [some 77, none, none, none]), (100, 7, []), (3, 4, [some 79, some 81, some 83, none]), (9, 4, [some 80, none, none, none]), (100, 96, []), (9, 4, [some 82, none, none, none]), (100, 40, []), (9, 4, [some 84, none, none, none]), (100, 7, []), (3, 4, [some 86, some 88, some 90, none]), (9, 4, [some 87, none, none, none]), (100, 96, []), (9, 4, [some 89, none, none, none]), (100, 40, []), (9, 4, [some 91, none, none, none]), (100, 7, []), (3, 4, [some 93, some 95, some 97, none]), (9, 4, [some 94, none, none, none]), (100, 96, []), (9, 4, [some 96, none, none, none]), (100, 40, []), (9, 4, [some 98, none, none, none]), (100, 7, []), (10, 7, [some 100, some 101, none, none, none, none, none]), (100, 400, []), (9, 4, [some 102, none, none, none]), (100, 1203, []), (6, 12, [some 99, some 104, some 106, none, none, some 108, none, none, none, none, none, none]), (9, 4, [some 105, none, none, none]), (100, 64, []), (9, 4, [some 107, none, none, none]), (100, 800, []), (9, 4, [some 109, none, none, none]), (100, 400, [])]
def S_221 : List SE := [(11, 13, [some 2, some 25, none, some 48, some 92, some 99, some 103, none, none, none, none, none, some 1]), (100, 12, []), (1, 11, [some 3, some 5, some 7, some 9, some 11, some 13, some 15, some 17, some 19, some 21, some 23]), (9, 4, [some 4, none, none, none]), (100, 96, []), (9, 4, [some 6, none, none, none]), (100, 40, []), (9, 4, [some 8, none, none, none]), (100, 7, []), (9, 4, [some 10, none, none, none]), (100, 600, []), (9, 4, [some 12, none, none, none]), (100, 64, []), (9, 4, [some 14, none, none, none]), (100, 800, []), (9, 4, [some 16, none, none, none]), (100, 64, []), (9, 4, [some 18, none, none, none]), (100, 64, []), (9, 4, [some 20, none, none, none]), (100, 64, []), (9, 4, [some 22, none, none, none]), (100, 16, []), (9, 4, [some 24, none, none, none]), (100, 10, []), (1, 11, [some 26, some 28, some 30, some 32, some 34, some 36, some 38, some 40, some 42, some 44, some 46]), (9, 4, [some 27, none, none, none]), (100, 96, []), (9, 4, [some 29, none, none, none]), (100, 40, []), (9, 4, [some 31, none, none, none]), (100, 7, []), (9, 4, [some 33, none, none, none]), (100, 600, []), (9, 4, [some 35, none, none, none]), (100, 64, []), (9, 4, [some 37, none, none, none]), (100, 800, []), (9, 4, [some 39, none, none, none]), (100, 64, []), (9, 4, [some 41, none, none, none]), (100, 64, []), (9, 4, [some 43, none, none, none]), (100, 64, []), (9, 4, [some 45, none, none, none]), (100, 16, []), (9, 4, [some 47, none, none, none]), (100, 10, []), (4, 3, [some 49, none, none]), (101, 6, [some 50, some 57, some 64, some 71, some 78, some 85]), (3, 4, [some 51, some 53, some 55, none]), (9, 4, [some 52, none, none, none]), (100, 96, []), (9, 4, [some 54, none, none, none]), (100, 40, []), (9, 4, [some 56, none, none, none]), (100, 7, []), (3, 4, [some 58, some 60, some 62, none]), (9, 4, [some 59, none, none, none]), (100, 96, []), (9, 4, [some 61, none, none, none]), (100, 40, []), (9, 4, [some 63, none, none, none]), (100, 7, []), (3, 4, [some 65, some 67, some 69, none]), (9, 4, [some 66, none, none, none]), (100, 96, []), (9, 4, [some 68, none, none, none]), (100, 40, []), (9, 4, [some 70, none, none, none]), (100, 7, []), (3, 4, [some 72, some 74, some 76, none]), (9, 4, [some 73, none, none, none]), (100, 96, []), (9, 4, [some 75, none, none, none]), (100, 40, []), (9, 4, [some 77, none, none, none]), (100, 7, []), (3, 4, [some 79, some 81, some 83, none]), (9, 4, [some 80, none, none, none]), (100, 96, []), (9, 4, [some 82, none, none, none]), (100, 40, []), (9, 4, [some 84, none, none, none]), (100, 7, []), (3, 4, [some 86, some 88, some 90, none]), (9, 4, [some 87, none, none, none]), (100, 96, []), (9, 4, [some 89, none, none, none]), (100, 40, []), (9, 4, [some 91, none, none, none]), (100, 7, []), (3, 4, [some 93, some 95, some 97, none]), (9, 4, [some 94, none, none, none]), (100, 96, []), (9, 4, [some 96, none, none, none]), (100, 40, []), (9, 4, [some 98, none, none, none]), (100, 7, []), (10, 7, [some 100, some 101, none, none, none, none, none]), (100, 400, []), (9, 4, [some 102, none, none, none]), (100, 1203, []), (6, 12, [some 99, some 104, some 106, none, none, some 108, none, none, none, none, none, none]), (9, 4, [some 105, none, none, none]), (100, 64, []), (9, 4, [some 107, none, none, none]), (100, 800, []), (9, 4, [some 109, none, none, none]), (100, 400, []), (2, 3, [none, none, none])]
def S_222 : List SE := [(11, 13, [some 2, some 25, none, some 48, some 92, some 99, some 103, none, none, none, none, none, some 1]), (100, 12, []), (1, 11, [some 3, some 5, some 7, some 9, some 11, some 13, some 15, some 17, some 19, some 21, some 23]), (9, 4, [some 4, none, none, none]), (100, 96, []), (9, 4, [some 6, none, none, none]), (100, 40, []), (9, 4, [some 8, none, none, none]), (100, 7, []), (9, 4, [some 10, none, none, none]), (100, 600, []), (9, 4, [some 12, none, none, none]), (100, 64, []), (9, 4, [some 14, none, none, none]), (100, 800, []), (9, 4, [some 16, none, none, none]), (100, 64, []), (9, 4, [some 18, none, none, none]), (100, 64, []), (9, 4, [some 20, none, none, none]), (100, 64, []), (9, 4, [some 22, none, none, none]), (100, 16, []), (9, 4, [some 24, none, none, none]), (100, 10, []), (1, 11, [some 26, some 28, some 30, some 32, some 34, some 36, some 38, some 40, some 42, some 44, some 46]), (9, 4, [some 27, none, none, none]), (100, 96, []), (9, 4, [some 29, none, none, none]), (100, 40, []), (9, 4, [some 31, none, none, none]), (100, 7, []), (9, 4, [some 33, none, none, none]), (100, 600, []), (9, 4, [some 35, none, none, none]), (100, 64, []), (9, 4, [some 37, none, none, none]), (100, 800, []), (9, 4, [some 39, none, none, none]), (100, 64, []), (9, 4, [some 41, none, none, none]), (100, 64, []), (9, 4, [some 43, none, none, none]), (100, 64, []), (9, 4, [some 45, none, none, none]), (100, 16, []), (9, 4, [some 47, none, none, none]), (100, 10, []), (4, 3, [some 49, none, none]), (101, 6, [some 50, some 57, some 64, some 71, some 78, some 85]), (3, 4, [some 51, some 53, some 55, none]), (9, 4, [some 52, none, none, none]), (100, 96, []), (9, 4, [some 54, none, none, none]), (100, 40, []), (9, 4, [some 56, none, none, none]), (100, 7, []), (3, 4, [some 58, some 60, some 62, none]), (9, 4, [some 59, none, none, none]), (100, 96, []), (9, 4, [some 61, none, none, none]), (100, 40, []), (9, 4, [some 63, none, none, none]), (100, 7, []), (3, 4, [some 65, some 67, some 69, none]), (9, 4, [some 66, none, none, none]), (100, 96, []), (9, 4, [some 68, none, none, none]), (100, 40, []), (9, 4, [some 70, none, none, none]), (100, 7, []), (3, 4, [some 72, some 74, some 76, none]), (9, 4, [some 73, none, none, none]), (100, 96, []), (9, 4, [some 75, none, none, none]), (100, 40, []), (9, 4, [some 77, none, none, none]), (100, 7, []), (3, 4, [some 79, some 81, some 83, none]), (9, 4, [some 80, none, none, none]), (100, 96, []), (9, 4, [some 82, none, none, none]), (100, 40, []), (9, 4, [some 84, none, none, none]), (100, 7, []), (3, 4, [some 86, some 88, some 90, none]), (9, 4, [some 87, none, none, none]), (100, 96, []), (9, 4, [some 89, none, none, none]), (100, 40, []), (9, 4, [some 91, none, none, none]), (100, 7, []), (3, 4, [some 93, some 95, some 97, none]), (9, 4, [some 94, none, none, none]), (100, 96, []), (9, 4, [some 96, none, none, none]), (100, 40, []), (9, 4, [some 98, none, none, none]), (100, 7, []), (10, 7, [some 100, some 101, none, none, none, none, none]), (100, 400, []), (9, 4, [some 102, none, none, none]), (100, 1203, []), (6, 12, [some 99, some 104, some 106, none, none, some 108, none, none, none, none, none, none]), (9, 4, [some 105, none, none, none]), (100, 64, []), (9, 4, [some 107, none, none, none]), (100, 800, []), (9, 4, [some 109, none, none, none]), (100, 400, []), (2, 3, [none, none, none]), (100, 10, [])]
def S_223 : List SE := [(11, 13, [some 2, some 25, none, some 48, some 92, some 99, some 103, none, none, none, none, none, some 1]), (100, 12, []), (1, 11, [some 3, some 5, some 7, some 9, some 11, some 13, some 15, some 17, some 19, some 21, some 23]), (9, 4, [some 4, none, none, none]), (100, 96, []), (9, 4, [some 6, none, none, none]), (100, 40, []), (9, 4, [some 8, none, none, none]), (100, 7, []), (9, 4, [some 10, none, none, none]), (100, 600, []), (9, 4, [some 12, none, none, none]), (100, 64, []), (9, 4, [some 14, none, none, none]), (100, 800, []), (9, 4, [some 16, none, none, none]), (100, 64, []), (9, 4, [some 18, none, none, none]), (100, 64, []), (9, 4, [some 20, none, none, none]), (100, 64, []), (9, 4, [some 22, none, none, none]), (100, 16, []), (9, 4, [some 24, none, none, none]), (100, 10, []), (1, 11, [some 26, some 28, some 30, some 32, some 34, some 36, some 38, some 40, some 42, some 44, some 46]), (9, 4, [some 27, none, none, none]), (100, 96, []), (9, 4, [some 29, none, none, none]), (100, 40, []), (9, 4, [some 31, none, none, none]), (100, 7, []), (9, 4, [some 33, none, none, none]), (100, 600, []), (9, 4, [some 35, none, none, none]), (100, 64, []), (9, 4, [some 37, none, none, none]), (100, 800, []), (9, 4, [some 39, none, none, none]), (100, 64, []), (9, 4, [some 41, none, none, none]), (100, 64, []), (9, 4, [some 43, none, none, none]), (100, 64, []), (9, 4, [some 45, none, none, none]), (100, 16, []), (9, 4, [some 47, none, none, none]), (100, 10, []), (4, 3, [some 49, none, none]), (101, 6, [some 50, some 57, some 64, some 71, some 78, some 85]), (3, 4, [some 51, some 53, some 55, none]), (9, 4, [some 52, none, none, none]), (100, 96, []), (9, 4, [some 54, none, none, none]), (100, 40, []), (9, 4, [some 56, none, none, none]), (100, 7, []), (3, 4, [some 58, some 60, some 62, none]), (9, 4, [some 59, none, none, none]), (100, 96, []), (9, 4, [some 61, none, none, none]), (100, 40, []), (9, 4, [some 63, none, none, none]), (100, 7, []), (3, 4, [some 65, some 67, some 69, none]), (9, 4, [some 66, none, none, none]), (100, 96, []), (9, 4, [some 68, none, none, none]), (100, 40, []), (9, 4, [some 70, none, none, none]), (100, 7, []), (3, 4, [some 72, some 74, some 76, none]), (9, 4, [some 73, none, none, none]), (100, 96, []), (9, 4, [some 75, none, none, none]), (100, 40, []), (9, 4, [some 77, none, none, none]), (100, 7, []), (3, 4, [some 79, some 81, some 83, none]), (9, 4, [some 80, none, none, none]), (100, 96, []), (9, 4, [some 82, none, none, none]), (100, 40, []), (9, 4, [some 84, none, none, none]), (100, 7, []), (3, 4, [some 86, some 88, some 90, none]), (9, 4, [some 87, none, none, none]), (100, 96, []), (9, 4, [some 89, none, none, none]), (100, 40, []), (9, 4, [some 91, none, none, none]), (100, 7, []), (3, 4, [some 93, some 95, some 97, none]), (9, 4, [some 94, none, none, none]), (100, 96, []), (9, 4, [some 96, none, none, none]), (100, 40, []), (9, 4, [some 98, none, none, none]), (100, 7, []), (10, 7, [some 100, some 101, none, none, none, none, none]), (100, 400, []), (9, 4, [some 102, none, none, none]), (100, 1203, []), (6, 12, [some 99, some 104, some 106, none, none, some 108, none, none, none, none, none, none]), (9, 4, [some 105, none, none, none]), (100, 64, []), (9, 4, [some 107, none, none, none]), (100, 800, []), (9, 4, [some 109, none, none, none]), (100, 400, []), (2, 3, [none, some 111, none]), (100, 10, [])]
def S_224 : List SE := [(11, 13, [some 2, some 25, none, some 48, some 92, some 99, some 103, none, none, none, none, none, some 1]), (100, 12, []), (1, 11, [some 3, some 5, some 7, some 9, some 11, some 13, some 15, some 17, some 19, some 21, some 23]), (9, 4, [some 4, none, none, none]), (100, 96, []), (9, 4, [some 6, none, none, none]), (100, 40, []), (9, 4, [some 8, none, none, none]), (100, 7, []), (9, 4, [some 10, none, none, none]), (100, 600, []), (9, 4, [some 12, none, none, none]), (100, 64, []), (9, 4, [some 14, none, none, none]), (100, 800, []), (9, 4, [some 16, none, none, none]), (100, 64, []), (9, 4, [some 18, none, none, none]), (100, 64, []), (9, 4, [some 20, none, none, none]), (100, 64, []), (9, 4, [some 22, none, none, none]), (100, 16, []), (9, 4, [some 24, none, none, none]), (100, 10, []), (1, 11, [some 26, some 28, some 30, some 32, some 34, some 36, some 38, some 40, some 42, some 44, some 46]), (9, 4, [some 27, none, none, none]), (100, 96, []), (9, 4, [some 29, none, none, none]), (100, 40, []), (9, 4, [some 31, none, none, none]), (100, 7, []), (9, 4, [some 33, none, none, none]), (100, 600, []), (9, 4, [some 35, none, none, none]), (100, 64, []), (9, 4, [some 37, none, none, none]), (100, 800, []), (9, 4, [some 39, none, none, none]), (100, 64, []), (9, 4, [some 41, none, none, none]), (100, 64, []), (9, 4, [some 43, none, none, none]), (100, 64, []), (9, 4, [some 45, none, none, none]), (100, 16, []), (9, 4, [some 47, none, none, none]), (100, 10, []), (4, 3, [some 49, none, none]), (101, 6, [some 50, some 57, some 64, some 71, some 78, some 85]), (3, 4, [some 51, some 53, some 55, none]), (9, 4, [some 52, none, none, none]), (100, 96, []), (9, 4, [some 54, none, none, none]), (100, 40, []), (9, 4, [some 56, none, none, none]), (100, 7, []), (3, 4, [some 58, some 60, some 62, none]), (9, 4, [some 59, none, none, none]), (100, 96, []), (9, 4, [some 61, none, none, none]), (100, 40, []), (9, 4, [some 63, none, none, none]), (100, 7, []), (3, 4, [some 65, some 67, some 69, none]), (9, 4, [some 66, none, none, none]), (100, 96, []), (9, 4, [some 68, none, none, none]), (100, 40, []), (9, 4, [some 70, none, none, none]), (100, 7, []), (3, 4, [some 72, some 74, some 76, none]), (9, 4, [some 73, none, none, none]), (100, 96, []), (9, 4, [some 75, none, none, none]), (100, 40, []), (9, 4, [some 77, none, none, none]), (100, 7, []), (3, 4, [some 79, some 81, some 83, none]), (9, 4, [some 80, none, none, none]), (100, 96, []), (9, 4, [some 82, none, none, none]), (100, 40, []), (9, 4, [some 84, none, none, none]), (100, 7, []), (3, 4, [some 86, some 88, some 90, none]), (9, 4, [some 87, none, none, none]), (100, 96, []), (9, 4, [some 89, none, none, none]), (100, 40, []), (9, 4, [some 91, none, none, none]), (100, 7, []), (3, 4, [some 93, some 95, some 97, none]), (9, 4, [some 94, none, none, none]), (100, 96, []), (9, 4, [some 96, none, none, none]), (100, 40, []), (9, 4, [some 98, none, none, none]), (100, 7, []), (10, 7, [some 100, some 101, none, none, none, none, none]), (100, 400, []), (9, 4, [some 102, none, none, none]), (100, 1203, []), (6, 12, [some 99, some 104, some 106, none, none, some 108, none, none, none, none, none, none]), (9, 4, [some 105, none, none, none]), (100, 64, []), (9, 4, [some 107, none, none, none]), (100, 800, []), (9, 4, [some 109, none, none, none]), (100, 400, []), (2, 3, [none, some 111, none]), (100, 10, []), (100, 22, [])]
def S_225 : List SE := [(11, 13, [some 2, some 25, none, some 48, some 92, some 99, some 103, none, none, none, none, none, some 1]), (100, 12, []), (1, 11, [some 3, some 5, some 7, some 9, some 11, some 13, some 15, some 17, some 19, some 21, some 23]), (9, 4, [some 4, none, none, none]), (100, 96, []), (9, 4, [some 6, none, none, none]), (100, 40, []), (9, 4, [some 8, none, none, none]), (100, 7, []), (9, 4, [some 10, none, none, none]), (100, 600, []), (9, 4, [some 12, none, none, none]), (100, 64, []), (9, 4, [some 14, none, none, none]), (100, 800, []), (9, 4, [some 16, none, none, none]), (100, 64, []), (9, 4, [some 18, none, none, none]), (100, 64, []), (9, 4, [some 20, none, none, none]), (100, 64, []), (9, 4, [some 22, none, none, none]), (100, 16, []), (9, 4, [some 24, none, none, none]), (100, 10, []), (1, 11, [some 26, some 28, some 30, some 32, some 34, some 36, some 38, some 40, some 42, some 44, some 46]), (9, 4, [some 27, none, none, none]), (100, 96, []), (9, 4, [some 29, none, none, none]), (100, 40, []), (9, 4, [some 31, none, none, none]), (100, 7, []), (9, 4, [some 33, none, none, none]), (100, 600, []), (9, 4, [some 35, none, none, none]), (100, 64, []), (9, 4, [some 37, none, none, none]), (100, 800, []), (9, 4, [some 39, none, none, none]), (100, 64, []), (9, 4, [some 41, none, none, none]), (100, 64, []), (9, 4, [some 43, none, none, none]), (100, 64, []), (9, 4, [some 45, none, none, none]), (100, 16, []), (9, 4, [some 47, none, none, none]), (100, 10, []), (4, 3, [some 49, none, none]), (101, 6, [some 50, some 57, some 64, some 71, some 78, some 85]), (3, 4, [some 51, some 53, some 55, none]), (9, 4, [some 52, none, none, none]), (100, 96, []), (9, 4, [some 54, none, none, none]), (100, 40, []), (9, 4, [some 56, none, none, none]), (100, 7, []), (3, 4, [some 58, some 60, some 62, none]), (9, 4, [some 59, none, none, none]), (100, 96, []), (9, 4, [some 61, none, none, none]), (100, 40, []), (9, 4, [some 63, none, none, none]), (100, 7, []), (3, 4, [some 65, some 67, some 69, none]), (9, 4, [some 66, none, none, none]), (100, 96, []), (9, 4, [some 68, none, none, none]), (100, 40, []), (9, 4, [some 70, none, none, none]), (100, 7, []), (3, 4, [some 72, some 74, some 76, none]), (9, 4, [some 73, none, none, none]), (100, 96, []), (9, 4, [some 75, none, none, none]), (100, 40, []), (9, 4, [some 77, none, none, none]), (100, 7, []), (3, 4, [some 79, some 81, some 83, none]), (9, 4, [some 80, none, none, none]), (100, 96, []), (9, 4, [some 82, none, none, none]), (100, 40, []), (9, 4, [some 84, none, none, none]), (100, 7, []), (3, 4, [some 86, some 88, some 90, none]), (9, 4, [some 87, none, none, none]), (100, 96, []), (9, 4, [some 89, none, none, none]), (100, 40, []), (9, 4, [some 91, none, none, none]), (100, 7, []), (3, 4, [some 93, some 95, some 97, none]), (9, 4, [some 94, none, none, none]), (100, 96, []), (9, 4, [some 96, none, none, none]), (100, 40, []), (9, 4, [some 98, none, none, none]), (100, 7, []), (10, 7, [some 100, some 101, none, none, none, none, none]), (100, 400, []), (9, 4, [some 102, none, none, none]), (100, 1203, []), (6, 12, [some 99, some 104, some 106, none, none, some 108, none, none, none, none, none, none]), (9, 4, [some 105, none, none, none]), (100, 64, []), (9, 4, [some 107, none, none, none]), (100, 800, []), (9, 4, [some 109, none, none, none]), (100, 400, []), (2, 3, [none, some 111, some 112]), (100, 10, []), (100, 22, [])]
def S_226 : List SE := [(11, 13, [some 2, some 25, none, some 48, some 92, some 99, some 103, none, none, none, none, none, some 1]), (100, 12, []), (1, 11, [some 3, some 5, some 7, some 9, some 11, some 13, some 15, some 17, some 19, some 21, some 23]), (9, 4, [some 4, none, none, none]), (100, 96, []), (9, 4, [some 6, none, none, none]), (100, 40, []), (9, 4, [some 8, none, none, none]), (100, 7, []), (9, 4, [some 10, none, none, none]), (100, 600, []), (9, 4, [some 12, none, none, none]), (100, 64, []), (9, 4, [some 14, none, none, none]), (100, 800, []), (9, 4, [some 16, none, none, none]), (100, 64, []), (9, 4, [some 18, none, none, none]), (100, 64, []), (9, 4, [some 20, none, none, none]), (100, 64, []), (9, 4, [some 22, none, none, none]), (100, 16, []), (9, 4, [some 24, none, none, none]), (100, 10, []), (1, 11, [some 26, some 28, some 30, some 32, some 34, some 36, some 38, some 40, some 42, some 44, some 46]), (9, 4, [some 27, none, none, none]), (100, 96, []), (9, 4, [some 29, none, none, none]), (100, 40, []), (9, 4, [some 31, none, none, none]), (100, 7, []), (9, 4, [some 33, none, none, none]), (100, 600, []), (9, 4, [some 35, none, none, none]), (100, 64, []), (9, 4, [some 37, none, none, none]), (100, 800, []), (9, 4, [some 39, none, none, none]), (100, 64, []), (9, 4, [some 41, none, none, none]), (100, 64, []), (9, 4, [some 43, none, none, none]), (100, 64, []), (9, 4, [some 45, none, none, none]), (100, 16, []), (9, 4, [some 47, none, none, none]), (100, 10, []), (4, 3, [some 49, none, none]), (101, 6, [some 50, some 57, some 64, some 71, some 78, some 85]), (3, 4, [some 51, some 53, some 55, none]), (9, 4, [some 52, none, none, none]), (100, 96, []), (9, 4, [some 54, none, none, none]), (100, 40, []), (9, 4, [some 56, none, none, none]), (100, 7, []), (3, 4, [some 58, some 60, some 62, none]), (9, 4, [some 59, none, none, none]), (100, 96, []), (9, 4, [some 61, none, none, none]), (100, 40, []), (9, 4, [some 63, none, none, none]), (100, 7, []), (3, 4, [some 65, some 67, some 69, none]), (9, 4, [some 66, none, none, none]), (100, 96, []), (9, 4, [some 68, none, none, none]), (100, 40, []), (9, 4, [some 70, none, none, none]), (100, 7, []), (3, 4, [some 72, some 74, some 76, none]), (9, 4, [some 73, none, none, none]), (100, 96, []), (9, 4, [some 75, none, none, none]), (100, 40, []), (9, 4, [some 77, none, none, none]), (100, 7, []), (3, 4, [some 79, some 81, some 83, none]), (9, 4, [some 80, none, none, none]), (100, 96, []), (9, 4, [some 82, none, none, none]), (100, 40, []), (9, 4, [some 84, none, none, none]), (100, 7, []), (3, 4, [some 86, some 88, some 90, none]), (9, 4, [some 87, none, none, none]), (100, 96, []), (9, 4, [some 89, none, none, none]), (100, 40, []), (9, 4, [some 91, none, none, none]), (100, 7, []), (3, 4, [some 93, some 95, some 97, none]), (9, 4, [some 94, none, none, none]), (100, 96, []), (9, 4, [some 96, none, none, none]), (100, 40, []), (9, 4, [some 98, none, none, none]), (100, 7, []), (10, 7, [some 100, some 101, none, none, none, none, none]), (100, 400, []), (9, 4, [some 102, none, none, none]), (100, 1203, []), (6, 12, [some 99, some 104, some 106, none, none, some 108, none, none, none, none, none, none]), (9, 4, [some 105, none, none, none]), (100, 64, []), (9, 4, [some 107, none, none, none]), (100, 800, []), (9, 4, [some 109, none, none, none]), (100, 400, []), (2, 3, [some 2, some 111, some 112]), (100, 10, []), (100, 22, [])]
def S_227 : List SE := [(11, 13, [some 2, some 25, none, some 48, some 92, some 99, some 103, some 110, none, none, none, none, some 1]), (100, 12, []), (1, 11, [some 3, some 5, some 7, some 9, some 11, some 13, some 15, some 17, some 19, some 21, some 23]), (9, 4, [some 4, none, none, none]), (100, 96, []), (9, 4, [some 6, none, none, none]), (100, 40, []), (9, 4, [some 8, none, none, none]), (100, 7, []), (9, 4, [some 10, none, none, none]), (100, 600, []), (9, 4, [some 12, none, none, none]), (100, 64, []), (9, 4, [some 14, none, none, none]), (100, 800, []), (9, 4, [some 16, none, none, none]), (100, 64, []), (9, 4, [some 18, none, none, none]), (100, 64, []), (9, 4, [some 20, none, none, none]), (100, 64, []), (9, 4, [some 22, none, none, none]), (100, 16, []), (9, 4, [some 24, none, none, none]), (100, 10, []), (1, 11, [some 26, some 28, some 30, some 32, some 34, some 36, some 38, some 40, some 42, some 44, some 46]), (9, 4, [some 27, none, none, none]), (100, 96, []), (9, 4, [some 29, none, none, none]), (100, 40, []), (9, 4, [some 31, none, none, none]), (100, 7, []), (9, 4, [some 33, none, none, none]), (100, 600, []), (9, 4, [some 35, none, none, none]), (100, 64, []), (9, 4, [some 37, none, none, none]), (100, 800, []), (9, 4, [some 39, none, none, none]), (100, 64, []), (9, 4, [some 41, none, none, none]), (100, 64, []), (9, 4, [some 43, none, none, none]), (100, 64, []), (9, 4, [some 45, none, none, none]), (100, 16, []), (9, 4, [some 47, none, none, none]), (100, 10, []), (4, 3, [some 49, none, none]), (101, 6, [some 50, some 57, some 64, some 71, some 78, some 85]), (3, 4, [some 51, some 53, some 55, none]), (9, 4, [some 52, none, none, none]), (100, 96, []), (9, 4, [some 54, none, none, none]), (100, 40, []), (9, 4, [some 56, none, none, none]), (100, 7, []), (3, 4, [some 58, some 60, some 62, none]), (9, 4, [some 59, none, none, none]), (100, 96, []), (9, 4, [some 61, none, none, none]), (100, 40, []), (9, 4, [some 63, none, none, none]), (100, 7, []), (3, 4, [some 65, some 67, some 69, none]), (9, 4, [some 66, none, none, none]), (100, 96, []), (9, 4, [some 68, none, none, none]), (100, 40, []), (9, 4, [some 70, none, none, none]), (100, 7, []), (3, 4, [some 72, some 74, some 76, none]), (9, 4, [some 73, none, none, none]), (100, 96, []), (9, 4, [some 75, none, none, none]), (100, 40, []), (9, 4, [some 77, none, none, none]), (100, 7, []), (3, 4, [some 79, some 81, some 83, none]), (9, 4, [some 80, none, none, none]), (100, 96, []), (9, 4, [some 82, none, none, none]), (100, 40, []), (9, 4, [some 84, none, none, none]), (100, 7, []), (3, 4, [some 86, some 88, some 90, none]), (9, 4, [some 87, none, none, none]), (100, 96, []), (9, 4, [some 89, none, none, none]), (100, 40, []), (9, 4, [some 91, none, none, none]), (100, 7, []), (3, 4, [some 93, some 95, some 97, none]), (9, 4, [some 94, none, none, none]), (100, 96, []), (9, 4, [some 96, none, none, none]), (100, 40, []), (9, 4, [some 98, none, none, none]), (100, 7, []), (10, 7, [some 100, some 101, none, none, none, none, none]), (100, 400, []), (9, 4, [some 102, none, none, none]), (100, 1203, []), (6, 12, [some 99, some 104, some 106, none, none, some 108, none, none, none, none, none, none]), (9, 4, [some 105, none, none, none]), (100, 64, []), (9, 4, [some 107, none, none, none]), (100, 800, []), (9, 4, [some 109, none, none, none]), (100, 400, []), (2, 3, [some 2, some 111, some 112]), (100, 10, []), (100, 22, [])]
def S_228 : List SE := [(11, 13, [some 2, some 25, none, some 48, some 92, some 99, some 103, some 110, none, none, none, none, some 1]), (100, 12, []), (1, 11, [some 3, some 5, some 7, some 9, some 11, some 13, some 15, some 17, some 19, some 21, some 23]), (9, 4, [some 4, none, none, none]), (100, 96, []), (9, 4, [some 6, none, none, none]), (100, 40, []), (9, 4, [some 8, none, none, none]), (100, 7, []), (9, 4, [some 10, none, none, none]), (100, 600, []), (9, 4, [some 12, none, none, none]), (100, 64, []), (9, 4, [some 14, none, none, none]), (100, 800, []), (9, 4, [some 16, none, none, none]), (100, 64, []), (9, 4, [some 18, none, none, none]), (100, 64, []), (9, 4, [some 20, none, none, none]), (100, 64, []), (9, 4, [some 22, none, none, none]), (100, 16, []), (9, 4, [some 24, none, none, none]), (100, 10, []), (1, 11, [some 26, some 28, some 30, some 32, some 34, some 36, some 38, some 40, some 42, some 44, some 46]), (9, 4, [some 27, none, none, none]), (100, 96, []), (9, 4, [some 29, none, none, none]), (100, 40, []), (9, 4, [some 31, none, none, none]), (100, 7, []), (9, 4, [some 33, none, none, none]), (100, 600, []), (9, 4, [some 35, none, none, none]), (100, 64, []), (9, 4, [some 37, none, none, none]), (100, 800, []), (9, 4, [some 39, none, none, none]), (100, 64, []), (9, 4, [some 41, none, none, none]), (100, 64, []), (9, 4, [some 43, none, none, none]), (100, 64, []), (9, 4, [some 45, none, none, none]), (100, 16, []), (9, 4, [some 47, none, none, none]), (100, 10, []), (4, 3, [some 49, none, none]), (101, 6, [some 50, some 57, some 64, some 71, some 78, some 85]), (3, 4, [some 51, some 53, some 55, none]), (9, 4, [some 52, none, none, none]), (100, 96, []), (9, 4, [some 54, none, none, none]), (100, 40, []), (9, 4, [some 56, none, none, none]), (100, 7, []), (3, 4, [some 58, some 60, some 62, none]), (9, 4, [some 59, none, none, none]), (100, 96, []), (9, 4, [some 61, none, none, none]), (100, 40, []), (9, 4, [some 63, none, none, none]), (100, 7, []), (3, 4, [some 65, some 67, some 69, none]), (9, 4, [some 66, none, none, none]), (100, 96, []), (9, 4, [some 68, none, none, none]), (100, 40, []), (9, 4, [some 70, none, none, none]), (100, 7, []), (3, 4, [some 72, some 74, some 76, none]), (9, 4, [some 73, none, none, none]), (100, 96, []), (9, 4, [some 75, none, none, none]), (100, 40, []), (9, 4, [some 77, none, none, none]), (100, 7, []), (3, 4, [some 79, some 81, some 83, none]), (9, 4, [some 80, none, none, none]), (100, 96, []), (9, 4, [some 82, none, none, none]), (100, 40, []), (9, 4, [some 84, none, none, none]), (100, 7, []), (3, 4, [some 86, some 88, some 90, none]), (9, 4, [some 87, none, none, none]), (100, 96, []), (9, 4, [some 89, none, none, none]), (100, 40, []), (9, 4, [some 91, none, none, none]), (100, 7, []), (3, 4, [some 93, some 95, some 97, none]), (9, 4, [some 94, none, none, none]), (100, 96, []), (9, 4, [some 96, none, none, none]), (100, 40, []), (9, 4, [some 98, none, none, none]), (100, 7, []), (10, 7, [some 100, some 101, none, none, none, none, none]), (100, 400, []), (9, 4, [some 102, none, none, none]), (100, 1203, []), (6, 12, [some 99, some 104, some 106, none, none, some 108, none, none, none, none, none, none]), (9, 4, [some 105, none, none, none]), (100, 64, []), (9, 4, [some 107, none, none, none]), (100, 800, []), (9, 4, [some 109, none, none, none]), (100, 400, []), (2, 3, [some 2, some 111, some 112]), (100, 10, []), (100, 22, []), (8, 7, [none, none, none, none, none, none, none])]
def S_229 : List SE := [(11, 13, [some 2, some 25, none, some 48, some 92, some 99, some 103, some 110, none, none, none, none, some 1]), (100, 12, []), (1, 11, [some 3, some 5, some 7, some 9, some 11, some 13, some 15, some 17, some 19, some 21, some 23]), (9, 4, [some 4, none, none, none]), (100, 96, []), (9, 4, [some 6, none, none, none]), (100, 40, []), (9, 4, [some 8, none, none, none]), (100, 7, []), (9, 4, [some 10, none, none, none]), (100, 600, []), (9, 4, [some 12, none, none, none]), (100, 64, []), (9, 4, [some 14, none, none, none]), (100, 800, []), (9, 4, [some 16, none, none, none]), (100, 64, []), (9, 4, [some 18, none, none, none]), (100, 64, []), (9, 4, [some 20, none, none, none]), (100, 64, []), (9, 4, [some 22, none, none, none]), (100, 16, []), (9, 4, [some 24, none, none, none]), (100, 10, []), (1, 11, [some 26, some 28, some 30, some 32, some 34, some 36, some 38, some 40, some 42, some 44, some 46]), (9, 4, [some 27, none, none, none]), (100, 96, []), (9, 4, [some 29, none, none, none]), (100, 40, []), (9, 4, [some 31, none, none, none]), (100, 7, []), (9, 4, [some 33, none, none, none]), (100, 600, []), (9, 4, [some 35, none, none, none]), (100, 64, []), (9, 4, [some 37, none, none, none]), (100, 800, []), (9, 4, [some 39, none, none, none]), (100, 64, []), (9, 4, [some 41, none, none, none]), (100, 64, []), (9, 4, [some 43, none, none, none]), (100, 64, []), (9, 4, [some 45, none, none, none]), (100, 16, []), (9, 4, [some 47, none, none, none]), (100, 10, []), (4, 3, [some 49, none, none]), (101, 6, [some 50, some 57, some 64, some 71, some 78, some 85]), (3, 4, [some 51, some 53, some 55, none]), (9, 4, [some 52, none, none, none]), (100, 96, []), (9, 4, [some 54, none, none, none]), (100, 40, []), (9, 4, [some 56, none, none, none]), (100, 7, []), (3, 4, [some 58, some 60, some 62, none]), (9, 4, [some 59, none, none, none]), (100, 96, []), (9, 4, [some 61, none, none, none]), (100, 40, []), (9, 4, [some 63, none, none, none]), (100, 7, []), (3, 4, [some 65, some 67, some 69, none]), (9, 4, [some 66, none, none, none]), (100, 96, []), (9, 4, [some 68, none, none, none]), (100, 40, []), (9, 4, [some 70, none, none, none]), (100, 7, []), (3, 4, [some 72, some 74, some 76, none]), (9, 4, [some 73, none, none, none]), (100, 96, []), (9, 4, [some 75, none, none, none]), (100, 40, []), (9, 4, [some 77, none, none, none]), (100, 7, []), (3, 4, [some 79, some 81, some 83, none]), (9, 4, [some 80, none, none, none]), (100, 96, []), (9, 4, [some 82, none, none, none]), (100, 40, []), (9, 4, [some 84, none, none, none]), (100, 7, []), (3, 4, [some 86, some 88, some 90, none]), (9, 4, [some 87, none, none, none]), (100, 96, []), (9, 4, [some 89, none, none, none]), (100, 40, []), (9, 4, [some 91, none, none, none]), (100, 7, []), (3, 4, [some 93, some 95, some 97, none]), (9, 4, [some 94, none, none, none]), (100, 96, []), (9, 4, [some 96, none, none, none]), (100, 40, []), (9, 4, [some 98, none, none, none]), (100, 7, []), (10, 7, [some 100, some 101, none, none, none, none, none]), (100, 400, []), (9, 4, [some 102, none, none, none]), (100, 1203, []), (6, 12, [some 99, some 104, some 106, none, none, some 108, none, none, none, none, none, none]), (9, 4, [some 105, none, none, none]), (100, 64, []), (9, 4, [some 107, none, none, none]), (100, 800, []), (9, 4, [some 109, none, none, none]), (100, 400, []), (2, 3, [some 2, some 111, some 112]), (100, 10, []), (100, 22, []), (8, 7, [none, none, none, none, none, none, none]), (100, 12, [])]
def S_230 : List SE := [(11, 13, [some 2, some 25, none, some 48, some 92, some 99, some 103, some 110, none, none, none, none, some 1]), (100, 12, []), (1, 11, [some 3, some 5, some 7, some 9, some 11, some 13, some 15, some 17, some 19, some 21, some 23]), (9, 4, [some 4, none, none, none]), (100, 96, []), (9, 4, [some 6, none, none, none]), (100, 40, []), (9, 4, [some 8, none, none, none]), (100, 7, []), (9, 4, [some 10, none, none, none]), (100, 600, []), (9, 4, [some 12, none, none, none]), (100, 64, []), (9, 4, [some 14, none, none, none]), (100, 800, []), (9, 4, [some 16, none, none, none]), (100, 64, []), (9, 4, [some 18, none, none, none]), (100, 64, []), (9, 4, [some 20, none, none, none]), (100, 64, []), (9, 4, [some 22, none, none, none]), (100, 16, []), (9, 4, [some 24, none, none, none]), (100, 10, []), (1, 11, [some 26, some 28, some 30, some 32, some 34, some 36, some 38, some 40, some 42, some 44, some 46]), (9, 4, [some 27, none, none, none]), (100, 96, []), (9, 4, [some 29, none, none, none]), (100, 40, []), (9, 4, [some 31, none, none, none]), (100, 7, []), (9, 4, [some 33, none, none, none]), (100, 600, []), (9, 4, [some 35, none, none, none]), (100, 64, []), (9, 4, [some 37, none, none, none]), (100, 800, []), (9, 4, [some 39, none, none, none]), (100, 64, []), (9, 4, [some 41, none, none, none]), (100, 64, []), (9, 4, [some 43, none, none, none]), (100, 64, []), (9, 4, [some 45, none, none, none]), (100, 16, []), (9, 4, [some 47, none, none, none]), (100, 10, []), (4, 3, [some 49, none, none]), (101, 6, [some 50, some 57, some 64, some 71, some 78, some 85]), (3, 4, [some 51, some 53, some 55, none]), (9, 4, [some 52, none, none, none]), (100, 96, []), (9, 4, [some 54, none, none, none]), (100, 40, []), (9, 4, [some 56, none, none, none]), (100, 7, []), (3, 4, [some 58, some 60, some 62, none]), (9, 4, [some 59, none, none, none]), (100, 96, []), (9, 4, [some 61, none, none, none]), (100, 40, []), (9, 4, [some 63, none, none, none]), (100, 7, []), (3, 4, [some 65, some 67, some 69, none]), (9, 4, [some 66, none, none, none]), (100, 96, []), (9, 4, [some 68, none, none, none]), (100, 40, []), (9, 4, [some 70, none, none, none]), (100, 7, []), (3, 4, [some 72, some 74, some 76, none]), (9, 4, [some 73, none, none, none]), (100, 96, []), (9, 4, [some 75, none, none, none]), (100, 40, []), (9, 4, [some 77, none, none, none]), (100, 7, []), (3, 4, [some 79, some 81, some 83, none]), (9, 4, [some 80, none, none, none]), (100, 96, []), (9, 4, [some 82, none, none, none]), (100, 40, []), (9, 4, [some 84, none, none, none]), (100, 7, []), (3, 4, [some 86, some 88, some 90, none]), (9, 4, [some 87, none, none, none]), (100, 96, []), (9, 4, [some 89, none, none, none]), (100, 40, []), (9, 4, [some 91, none, none, none]), (100, 7, []), (3, 4, [some 93, some 95, some 97, none]), (9, 4, [some 94, none, none, none]), (100, 96, []), (9, 4, [some 96, none, none, none]), (100, 40, []), (9, 4, [some 98, none, none, none]), (100, 7, []), (10, 7, [some 100, some 101, none, none, none, none, none]), (100, 400, []), (9, 4, [some 102, none, none, none]), (100, 1203, []), (6, 12, [some 99, some 104, some 106, none, none, some 108, none, none, none, none, none, none]), (9, 4, [some 105, none, none, none]), (100, 64, []), (9, 4, [some 107, none, none, none]), (100, 800, []), (9, 4, [some 109, none, none, none]), (100, 400, []), (2, 3, [some 2, some 111, some 112]), (100, 10, []), (100, 22, []), (8, 7, [none, none, some 114, none, none, none, none]), (100, 12, [])]
def S_231 : List SE := [(11, 13, [some 2, some 25, none, some 48, some 92, some 99, some 103, some 110, none, none, none, none, some 1]), (100, 12, []), (1, 11, [some 3, some 5, some 7, some 9, some 11, some 13, some 15, some 17, some 19, some 21, some 23]), (9, 4, [some 4, none, none, none]), (100, 96, []), (9, 4, [some 6, none, none, none]), (100, 40, []), (9, 4, [some 8, none, none, none]), (100, 7, []), (9, 4, [some 10, none, none, none]), (100, 600, []), (9, 4, [some 12, none, none, none]), (100, 64, []), (9, 4, [some 14, none, none, none]), (100, 800, []), (9, 4, [some 16, none, none, none]), (100, 64, []), (9, 4, [some 18, none, none, none]), (100, 64, []), (9, 4, [some 20, none, none, none]), (100, 64, []), (9, 4, [some 22, none, none, none]), (100, 16, []), (9, 4, [some 24, none, none, none]), (100, 10, []), (1, 11, [some 26, some 28, some 30, some 32, some 34, some 36, some 38, some 40, some 42, some 44, some 46]), (9, 4, [some 27, none, none, none]), (100, 96, []), (9, 4, [some 29, none, none, none]), (100, 40, []), (9, 4, [some 31, none, none, none]), (100, 7, []), (9, 4, [some 33, none, none, none]), (100, 600, []), (9, 4, [some 35, none, none, none]), (100, 64, []), (9, 4, [some 37, none, none, none]), (100, 800, []), (9, 4, [some 39, none, none, none]), (100, 64, []), (9, 4, [some 41, none, none, none]), (100, 64, []), (9, 4, [some 43, none, none, none]), (100, 64, []), (9, 4, [some 45, none, none, none]), (100, 16, []), (9, 4, [some 47, none, none, none]), (100, 10, []), (4, 3, [some 49, none, none]), (101, 6, [some 50, some 57, some 64, some 71, some 78, some 85]), (3, 4, [some 51, some 53, some 55, none]), (9, 4, [some 52, none, none, none]), (100, 96, []), (9, 4, [some 54, none, none, none]), (100, 40, []), (9, 4, [some 56, none, none, none]), (100, 7, []), (3, 4, [some 58, some 60, some 62, none]), (9, 4, [some 59, none, none, none]), (100, 96, []), (9, 4, [some 61, none, none, none]), (100, 40, []), (9, 4, [some 63, none, none, none]), (100, 7, []), (3, 4, [some 65, some 67, some 69, none]), (9, 4, [some 66, none, none, none]), (100, 96, []), (9, 4, [some 68, none, none, none]), (100, 40, []), (9, 4, [some 70, none, none, none]), (100, 7, []), (3, 4, [some 72, some 74, some 76, none]), (9, 4, [some 73, none, none, none]), (100, 96, []), (9, 4, [some 75, none, none, none]), (100, 40, []), (9, 4, [some 77, none, none, none]), (100, 7, []), (3, 4, [some 79, some 81, some 83, none]), (9, 4, [some 80, none, none, none]), (100, 96, []), (9, 4, [some 82, none, none, none]), (100, 40, []), (9, 4, [some 84, none, none, none]), (100, 7, []), (3, 4, [some 86, some 88, some 90, none]), (9, 4, [some 87, none, none, none]), (100, 96, []), (9, 4, [some 89, none, none, none]), (100, 40, []), (9, 4, [some 91, none, none, none]), (100, 7, []), (3, 4, [some 93, some 95, some 97, none]), (9, 4, [some 94, none, none, none]), (100, 96, []), (9, 4, [some 96, none, none, none]), (100, 40, []), (9, 4, [some 98, none, none, none]), (100, 7, []), (10, 7, [some 100, some 101, none, none, none, none, none]), (100, 400, []), (9, 4, [some 102, none, none, none]), (100, 1203, []), (6, 12, [some 99, some 104, some 106, none, none, some 108, none, none, none, none, none, none]), (9, 4, [some 105, none, none, none]), (100, 64, []), (9, 4, [some 107, none, none, none]), (100, 800, []), (9, 4, [some 109, none, none, none]), (100, 400, []), (2, 3, [some 2, some 111, some 112]), (100, 10, []), (100, 22, []), (8, 7, [none, none, some 114, none, none, none, none]), (100, 12, []), (100, 12, [])]
def S_232 : List SE := [(11, 13, [some 2, some 25, none, some 48, some 92, some 99, some 103, some 110, none, none, none, none, some 1]), (100, 12, []), (1, 11, [some 3, some 5, some 7, some 9, some 11, some 13, some 15, some 17, some 19, some 21, some 23]), (9, 4, [some 4, none, none, none]), (100, 96, []), (9, 4, [some 6, none, none, none]), (100, 40, []), (9, 4, [some 8, none, none, none]), (100, 7, []), (9, 4, [some 10, none, none, none]), (100, 600, []), (9, 4, [some 12, none, none, none]), (100, 64, []), (9, 4, [some 14, none, none, none]), (100, 800, []), (9, 4, [some 16, none, none, none]), (100, 64, []), (9, 4, [some 18, none, none, none]), (100, 64, []), (9, 4, [some 20, none, none, none]), (100, 64, []), (9, 4, [some 22, none, none, none]), (100, 16, []), (9, 4, [some 24, none, none, none]), (100, 10, []), (1, 11, [some 26, some 28, some 30, some 32, some 34, some 36, some 38, some 40, some 42, some 44, some 46]), (9, 4, [some 27, none, none, none]), (100, 96, []), (9, 4, [some 29, none, none, none]), (100, 40, []), (9, 4, [some 31, none, none, none]), (100, 7, []), (9, 4, [some 33, none, none, none]), (100, 600, []), (9, 4, [some 35, none, none, none]), (100, 64, []), (9, 4, [some 37, none, none, none]), (100, 800, []), (9, 4, [some 39, none, none, none]), (100, 64, []), (9, 4, [some 41, none, none, none]), (100, 64, []), (9, 4, [some 43, none, none, none]), (100, 64, []), (9, 4, [some 45, none, none, none]), (100, 16, []), (9, 4, [some 47, none, none, none]), (100, 10, []), (4, 3, [some 49, none, none]), (101, 6, [some 50, some 57, some 64, some 71, some 78, some 85]), (3, 4, [some 51, some 53, some 55, none]), (9, 4, [some 52, none, none, none]), (100, 96, []), (9, 4, [some 54, none, none, none]), (100, 40, []), (9, 4, [some 56, none, none, none]), (100, 7, []), (3, 4, [some 58, some 60, some 62, none]), (9, 4, [some 59, none, none, none]), (100, 96, []), (9, 4, [some 61, none, none, none]), (100, 40, []), (9, 4, [some 63, none, none, none]), (100, 7, []), (3, 4, [some 65, some 67, some 69, none]), (9, 4, [some 66, none, none, none]), (100, 96, []), (9, 4, [some 68, none, none, none]), (100, 40, []), (9, 4, [some 70, none, none, none]), (100, 7, []), (3, 4, [some 72, some 74, some 76, none]), (9, 4, [some 73, none, none, none]), (100, 96, []), (9, 4, [some 75, none, none, none]), (100, 40, []), (9, 4, [some 77, none, none, none]), (100, 7, []), (3, 4, [some 79, some 81, some 83, none]), (9, 4, [some 80, none, none, none]), (100, 96, []), (9, 4, [some 82, none, none, none]), (100, 40, []), (9, 4, [some 84, none, none, none]), (100, 7, []), (3, 4, [some 86, some 88, some 90, none]), (9, 4, [some 87, none, none, none]), (100, 96, []), (9, 4, [some 89, none, none, none]), (100, 40, []), (9, 4, [some 91, none, none, none]), (100, 7, []), (3, 4, [some 93, some 95, some 97, none]), (9, 4, [some 94, none, none, none]), (100, 96, []), (9, 4, [some 96, none, none, none]), (100, 40, []), (9, 4, [some 98, none, none, none]), (100, 7, []), (10, 7, [some 100, some 101, none, none, none, none, none]), (100, 400, []), (9, 4, [some 102, none, none, none]), (100, 1203, []), (6, 12, [some 99, some 104, some 106, none, none, some 108, none, none, none, none, none, none]), (9, 4, [some 105, none, none, none]), (100, 64, []), (9, 4, [some 107, none, none, none]), (100, 800, []), (9, 4, [some 109, none, none, none]), (100, 400, []), (2, 3, [some 2, some 111, some 112]), (100, 10, []), (100, 22, []), (8, 7, [none, none, some 114, some 115, none, none, none]), (100, 12, []), (100, 12, [])]
def S_233 : List SE := [(11, 13, [some 2, some 25, none, some 48, some 92, some 99, some 103, some 110, none, none, none, none, some 1]), (100, 12, []), (1, 11, [some 3, some 5, some 7, some 9, some 11, some 13, some 15, some 17, some 19, some 21, some 23]), (9, 4, [some 4, none, none, none]), (100, 96, []), (9, 4, [some 6, none, none, none]), (100, 40, []), (9, 4, [some 8, none, none, none]), (100, 7, []), (9, 4, [some 10, none, none, none]), (100, 600, []), (9, 4, [some 12, none, none, none]), (100, 64, []), (9, 4, [some 14, none, none, none]), (100, 800, []), (9, 4, [some 16, none, none, none]), (100, 64, []), (9, 4, [some 18, none, none, none]), (100, 64, []), (9, 4, [some 20, none, none, none]), (100, 64, []), (9, 4, [some 22, none, none, none]), (100, 16, []), (9, 4, [some 24, none, none, none]), (100, 10, []), (1, 11, [some 26, some 28, some 30, some 32, some 34, some 36, some 38, some 40, some 42, some 44, some 46]), (9, 4, [some 27, none, none, none]), (100, 96, []), (9, 4, [some 29, none, none, none]), (100, 40, []), (9, 4, [some 31, none, none, none]), (100, 7, []), (9, 4, [some 33, none, none, none]), (100, 600, []), (9, 4, [some 35, none, none, none]), (100, 64, []), (9, 4, [some 37, none, none, none]), (100, 800, []), (9, 4, [some 39, none, none, none]), (100, 64, []), (9, 4, [some 41, none, none, none]), (100, 64, []), (9, 4, [some 43, none, none, none]), (100, 64, []), (9, 4, [some 45, none, none, none]), (100, 16, []), (9, 4, [some 47, none, none, none]), (100, 10, []), (4, 3, [some 49, none, none]), (101, 6, [some 50, some 57, some 64, some 71, some 78, some 85]), (3, 4, [some 51, some 53, some 55, none]), (9, 4, [some 52, none, none, none]), (100, 96, []), (9, 4, [some 54, none, none, none]), (100, 40, []), (9, 4, [some 56, none, none, none]), (100, 7, []), (3, 4, [some 58, some 60, some 62, none]), (9, 4, [some 59, none, none, none]), (100, 96, []), (9, 4, [some 61, none, none, none]), (100, 40, []), (9, 4, [some 63, none, none, none]), (100, 7, []), (3, 4, [some 65, some 67, some 69, none]), (9, 4, [some 66, none, none, none]), (100, 96, []), (9, 4, [some 68, none, none, none]), (100, 40, []), (9, 4, [some 70, none, none, none]), (100, 7, []), (3, 4, [some 72, some 74, some 76, none]), (9, 4, [some 73, none, none, none]), (100, 96, []), (9, 4, [some 75, none, none, none]), (100, 40, []), (9, 4, [some 77, none, none, none]), (100, 7, []), (3, 4, [some 79, some 81, some 83, none]), (9, 4, [some 80, none, none, none]), (100, 96, []), (9, 4, [some 82, none, none, none]), (100, 40, []), (9, 4, [some 84, none, none, none]), (100, 7, []), (3, 4, [some 86, some 88, some 90, none]), (9, 4, [some 87, none, none, none]), (100, 96, []), (9, 4, [some 89, none, none, none]), (100, 40, []), (9, 4, [some 91, none, none, none]), (100, 7, []), (3, 4, [some 93, some 95, some 97, none]), (9, 4, [some 94, none, none, none]), (100, 96, []), (9, 4, [some 96, none, none, none]), (100, 40, []), (9, 4, [some 98, none, none, none]), (100, 7, []), (10, 7, [some 100, some 101, none, none, none, none, none]), (100, 400, []), (9, 4, [some 102, none, none, none]), (100, 1203, []), (6, 12, [some 99, some 104, some 106, none, none, some 108, none, none, none, none, none, none]), (9, 4, [some 105, none, none, none]), (100, 64, []), (9, 4, [some 107, none, none, none]), (100, 800, []), (9, 4, [some 109, none, none, none]), (100, 400, []), (2, 3, [some 2, some 111, some 112]), (100, 10, []), (100, 22, []), (8, 7, [some 2, none, some 114, some 115, none, none, none]), (100, 12, []), (100, 12, [])]
def S_234 : List SE := [(11, 13, [some 2, some 25, none, some 48, some 92, some 99, some 103, some 110, none, none, none, none, some 1]), (100, 12, []), (1, 11, [some 3, some 5, some 7, some 9, some 11, some 13, some 15, some 17, some 19, some 21, some 23]), (9, 4, [some 4, none, none, none]), (100, 96, []), (9, 4, [some 6, none, none, none]), (100, 40, []), (9, 4, [some 8, none, none, none]), (100, 7, []), (9, 4, [some 10, none, none, none]), (100, 600, []), (9, 4, [some 12, none, none, none]), (100, 64, []), (9, 4, [some 14, none, none, none]), (100, 800, []), (9, 4, [some 16, none, none, none]), (100, 64, []), (9, 4, [some 18, none, none, none]), (100, 64, []), (9, 4, [some 20, none, none, none]), (100, 64, []), (9, 4, [some 22, none, none, none]), (100, 16, []), (9, 4, [some 24, none, none, none]), (100, 10, []), (1, 11, [some 26, some 28, some 30, some 32, some 34, some 36, some 38, some 40, some 42, some 44, some 46]), (9, 4, [some 27, none, none, none]), (100, 96, []), (9, 4, [some 29, none, none, none]), (100, 40, []), (9, 4, [some 31, none, none, none]), (100, 7, []), (9, 4, [some 33, none, none, none]), (100, 600, []), (9, 4, [some 35, none, none, none]), (100, 64, []), (9, 4, [some 37, none, none, none]), (100, 800, []), (9, 4, [some 39, none, none, none]), (100, 64, []), (9, 4, [some 41, none, none, none]), (100, 64, []), (9, 4, [some 43, none, none, none]), (100, 64, []), (9, 4, [some 45, none, none, none]), (100, 16, []), (9, 4, [some 47, none, none, none]), (100, 10, []), (4, 3, [some 49, none, none]), (101, 6, [some 50, some 57, some 64, some 71, some 78, some 85]), (3, 4, [some 51, some 53, some 55, none]), (9, 4, [some 52, none, none, none]), (100, 96, []), (9, 4, [some 54, none, none, none]), (100, 40, []), (9, 4, [some 56, none, none, none]), (100, 7, []), (3, 4, [some 58, some 60, some 62, none]), (9, 4, [some 59, none, none, none]), (100, 96, []), (9, 4, [some 61, none, none, none]), (100, 40, []), (9, 4, [some 63, none, none, none]), (100, 7, []), (3, 4, [some 65, some 67, some 69, none]), (9, 4, [some 66, none, none, none]), (100, 96, []), (9, 4, [some 68, none, none, none]), (100, 40, []), (9, 4, [some 70, none, none, none]), (100, 7, []), (3, 4, [some 72, some 74, some 76, none]), (9, 4, [some 73, none, none, none]), (100, 96, []), (9, 4, [some 75, none, none, none]), (100, 40, []), (9, 4, [some 77, none, none, none]), (100, 7, []), (3, 4, [some 79, some 81, some 83, none]), (9, 4, [some 80, none, none, none]), (100, 96, []), (9, 4, [some 82, none, none, none]), (100, 40, []), (9, 4, [some 84, none, none, none]), (100, 7, []), (3, 4, [some 86, some 88, some 90, none]), (9, 4, [some 87, none, none, none]), (100, 96, []), (9, 4, [some 89, none, none, none]), (100, 40, []), (9, 4, [some 91, none, none, none]), (100, 7, []), (3, 4, [some 93, some 95, some 97, none]), (9, 4, [some 94, none, none, none]), (100, 96, []), (9, 4, [some 96, none, none, none]), (100, 40, []), (9, 4, [some 98, none, none, none]), (100, 7, []), (10, 7, [some 100, some 101, none, none, none, none, none]), (100, 400, []), (9, 4, [some 102, none, none, none]), (100, 1203, []), (6, 12, [some 99, some 104, some 106, none, none, some 108, none, none, none, none, none, none]), (9, 4, [some 105, none, none, none]), (100, 64, []), (9, 4, [some 107, none, none, none]), (100, 800, []), (9, 4, [some 109, none, none, none]), (100, 400, []), (2, 3, [some 2, some 111, some 112]), (100, 10, []), (100, 22, []), (8, 7, [some 2, some 110, some 114, some 115, none, none, none]), (100, 12, []), (100, 12, [])]
def S_235 : List SE := [(11, 13, [some 2, some 25, none, some 48, some 92, some 99, some 103, some 110, some 113, none, none, none, some 1]), (100, 12, []), (1, 11, [some 3, some 5, some 7, some 9, some 11, some 13, some 15, some 17, some 19, some 21, some 23]), (9, 4, [some 4, none, none, none]), (100, 96, []), (9, 4, [some 6, none, none, none]), (100, 40, []), (9, 4, [some 8, none, none, none]), (100, 7, []), (9, 4, [some 10, none, none, none]), (100, 600, []), (9, 4, [some 12, none, none, none]), (100, 64, []), (9, 4, [some 14, none, none, none]), (100, 800, []), (9, 4, [some 16, none, none, none]), (100, 64, []), (9, 4, [some 18, none, none, none]), (100, 64, []), (9, 4, [some 20, none, none, none]), (100, 64, []), (9, 4, [some 22, none, none, none]), (100, 16, []), (9, 4, [some 24, none, none, none]), (100, 10, []), (1, 11, [some 26, some 28, some 30, some 32, some 34, some 36, some 38, some 40, some 42, some 44, some 46]), (9, 4, [some 27, none, none, none]), (100, 96, []), (9, 4, [some 29, none, none, none]), (100, 40, []), (9, 4, [some 31, none, none, none]), (100, 7, []), (9, 4, [some 33, none, none, none]), (100, 600, []), (9, 4, [some 35, none, none, none]), (100, 64, []), (9, 4, [some 37, none, none, none]), (100, 800, []), (9, 4, [some 39, none, none, none]), (100, 64, []), (9, 4, [some 41, none, none, none]), (100, 64, []), (9, 4, [some 43, none, none, none]), (100, 64, []), (9, 4, [some 45, none, none, none]), (100, 16, []), (9, 4, [some 47, none, none, none]), (100, 10, []), (4, 3, [some 49, none, none]), (101, 6, [some 50, some 57, some 64, some 71, some 78, some 85]), (3, 4, [some 51, some 53, some 55, none]), (9, 4, [some 52, none, none, none]), (100, 96, []), (9, 4, [some 54, none, none, none]), (100, 40, []), (9, 4, [some 56, none, none, none]), (100, 7, []), (3, 4, [some 58, some 60, some 62, none]), (9, 4, [some 59, none, none, none]), (100, 96, []), (9, 4, [some 61, none, none, none]), (100, 40, []), (9, 4, [some 63, none, none, none]), (100, 7, []), (3, 4, [some 65, some 67, some 69, none]), (9, 4, [some 66, none, none, none]), (100, 96, []), (9, 4, [some 68, none, none, none]), (100, 40, []), (9, 4, [some 70, none, none, none]), (100, 7, []), (3, 4, [some 72, some 74, some 76, none]), (9, 4, [some 73, none, none, none]), (100, 96, []), (9, 4, [some 75, none, none, none]), (100, 40, []), (9, 4, [some 77, none, none, none]), (100, 7, []), (3, 4, [some 79, some 81, some 83, none]), (9, 4, [some 80, none, none, none]), (100, 96, []), (9, 4, [some 82, none, none, none]), (100, 40, []), (9, 4, [some 84, none, none, none]), (100, 7, []), (3, 4, [some 86, some 88, some 90, none]), (9, 4, [some 87, none, none, none]), (100, 96, []), (9, 4, [some 89, none, none, none]), (100, 40, []), (9, 4, [some 91, none, none, none]), (100, 7, []), (3, 4, [some 93, some 95, some 97, none]), (9, 4, [some 94, none, none, none]), (100, 96, []), (9, 4, [some 96, none, none, none]), (100, 40, []), (9, 4, [some 98, none, none, none]), (100, 7, []), (10, 7, [some 100, some 101, none, none, none, none, none]), (100, 400, []), (9, 4, [some 102, none, none, none]), (100, 1203, []), (6, 12, [some 99, some 104, some 106, none, none, some 108, none, none, none, none, none, none]), (9, 4, [some 105, none, none, none]), (100, 64, []), (9, 4, [some 107, none, none, none]), (100, 800, []), (9, 4, [some 109, none, none, none]), (100, 400, []), (2, 3, [some 2, some 111, some 112]), (100, 10, []), (100, 22, []), (8, 7, [some 2, some 110, some 114, some 115, none, none, none]), (100, 12, []), (100, 12, [])]
def S_236 : List SE := [(11, 13, [some 2, some 25, none, some 48, some 92, some 99, some 103, some 110, some 113, none, none, none, some 1]), (100, 12, []), (1, 11, [some 3, some 5, some 7, some 9, some 11, some 13, some 15, some 17, some 19, some 21, some 23]), (9, 4, [some 4, none, none, none]), (100, 96, []), (9, 4, [some 6, none, none, none]), (100, 40, []), (9, 4, [some 8, none, none, none]), (100, 7, []), (9, 4, [some 10, none, none, none]), (100, 600, []), (9, 4, [some 12, none, none, none]), (100, 64, []), (9, 4, [some 14, none, none, none]), (100, 800, []), (9, 4, [some 16, none, none, none]), (100, 64, []), (9, 4, [some 18, none, none, none]), (100, 64, []), (9, 4, [some 20, none, none, none]), (100, 64, []), (9, 4, [some 22, none, none, none]), (100, 16, []), (9, 4, [some 24, none, none, none]), (100, 10, []), (1, 11, [some 26, some 28, some 30, some 32, some 34, some 36, some 38, some 40, some 42, some 44, some 46]), (9, 4, [some 27, none, none, none]), (100, 96, []), (9, 4, [some 29, none, none, none]), (100, 40, []), (9, 4, [some 31, none, none, none]), (100, 7, []), (9, 4, [some 33, none, none, none]), (100, 600, []), (9, 4, [some 35, none, none, none]), (100, 64, []), (9, 4, [some 37, none, none, none]), (100, 800, []), (9, 4, [some 39, none, none, none]), (100, 64, []), (9, 4, [some 41, none, none, none]), (100, 64, []), (9, 4, [some 43, none, none, none]), (100, 64, []), (9, 4, [some 45, none, none, none]), (100, 16, []), (9, 4, [some 47, none, none, none]), (100, 10, []), (4, 3, [some 49, none, none]), (101, 6, [some 50, some 57, some 64, some 71, some 78, some 85]), (3, 4, [some 51, some 53, some 55, none]), (9, 4, [some 52, none, none, none]), (100, 96, []), (9, 4, [some 54, none, none, none]), (100, 40, []), (9, 4, [some 56, none, none, none]), (100, 7, []), (3, 4, [some 58, some 60, some 62, none]), (9, 4, [some 59, none, none, none]), (100, 96, []), (9, 4, [some 61, none, none, none]), (100, 40, []), (9, 4, [some 63, none, none, none]), (100, 7, []), (3, 4, [some 65, some 67, some 69, none]), (9, 4, [some 66, none, none, none]), (100, 96, []), (9, 4, [some 68, none, none, none]), (100, 40, []), (9, 4, [some 70, none, none, none]), (100, 7, []), (3, 4, [some 72, some 74, some 76, none]), (9, 4, [some 73, none, none, none]), (100, 96, []), (9, 4, [some 75, none, none, none]), (100, 40, []), (9, 4, [some 77, none, none, none]), (100, 7, []), (3, 4, [some 79, some 81, some 83, none]), (9, 4, [some 80, none, none, none]), (100, 96, []), (9, 4, [some 82, none, none, none]), (100, 40, []), (9, 4, [some 84, none, none, none]), (100, 7, []), (3, 4, [some 86, some 88, some 90, none]), (9, 4, [some 87, none, none, none]), (100, 96, []), (9, 4, [some 89, none, none, none]), (100, 40, []), (9, 4, [some 91, none, none, none]), (100, 7, []), (3, 4, [some 93, some 95, some 97, none]), (9, 4, [some 94, none, none, none]), (100, 96, []), (9, 4, [some 96, none, none, none]), (100, 40, []), (9, 4, [some 98, none, none, none]), (100, 7, []), (10, 7, [some 100, some 101, none, none, none, none, none]), (100, 400, []), (9, 4, [some 102, none, none, none]), (100, 1203, []), (6, 12, [some 99, some 104, some 106, none, none, some 108, none, none, none, none, none, none]), (9, 4, [some 105, none, none, none]), (100, 64, []), (9, 4, [some 107, none, none, none]), (100, 800, []), (9, 4, [some 109, none, none, none]), (100, 400, []), (2, 3, [some 2, some 111, some 112]), (100, 10, []), (100, 22, []), (8, 7, [some 2, some 110, some 114, some 115, none, none, none]), (100, 12, []), (100, 12, []), (0, 7, [none, none, none, none, none, none, none])]
def S_237 : List SE := [(11, 13, [some 2, some 25, none, some 48, some 92, some 99, some 103, some 110, some 113, none, none, none, some 1]), (100, 12, []), (1, 11, [some 3, some 5, some 7, some 9, some 11, some 13, some 15, some 17, some 19, some 21, some 23]), (9, 4, [some 4, none, none, none]), (100, 96, []), (9, 4, [some 6, none, none, none]), (100, 40, []), (9, 4, [some 8, none, none, none]), (100, 7, []), (9, 4, [some 10, none, none, none]), (100, 600, []), (9, 4, [some 12, none, none, none]), (100, 64, []), (9, 4, [some 14, none, none, none]), (100, 800, []), (9, 4, [some 16, none, none, none]), (100, 64, []), (9, 4, [some 18, none, none, none]), (100, 64, []), (9, 4, [some 20, none, none, none]), (100, 64, []), (9, 4, [some 22, none, none, none]), (100, 16, []), (9, 4, [some 24, none, none, none]), (100, 10, []), (1, 11, [some 26, some 28, some 30, some 32, some 34, some 36, some 38, some 40, some 42, some 44, some 46]), (9, 4, [some 27, none, none, none]), (100, 96, []), (9, 4, [some 29, none, none, none]), (100, 40, []), (9, 4, [some 31, none, none, none]), (100, 7, []), (9, 4, [some 33, none, none, none]), (100, 600, []), (9, 4, [some 35, none, none, none]), (100, 64, []), (9, 4, [some 37, none, none, none]), (100, 800, []), (9, 4, [some 39, none, none, none]), (100, 64, []), (9, 4, [some 41, none, none, none]), (100, 64, []), (9, 4, [some 43, none, none, none]), (100, 64, []), (9, 4, [some 45, none, none, none]), (100, 16, []), (9, 4, [some 47, none, none, none]), (100, 10, []), (4, 3, [some 49, none, none]), (101, 6, [some 50, some 57, some 64, some 71, some 78, some 85]), (3, 4, [some 51, some 53, some 55, none]), (9, 4, [some 52, none, none, none]), (100, 96, []), (9, 4, [some 54, none, none, none]), (100, 40, []), (9, 4, [some 56, none, none, none]), (100, 7, []), (3, 4, [some 58, some 60, some 62, none]), (9, 4, [some 59, none, none, none]), (100, 96, []), (9, 4, [some 61, none, none, none]), (100, 40, []), (9, 4, [some 63, none, none, none]), (100, 7, []), (3, 4, [some 65, some 67, some 69, none]), (9, 4, [some 66, none, none, none]), (100, 96, []), (9, 4, [some 68, none, none, none]), (100, 40, []), (9, 4, [some 70, none, none, none]), (100, 7, []), (3, 4, [some 72, some 74, some 76, none]), (9, 4, [some 73, none, none, none]), (100, 96, []), (9, 4, [some 75, none, none, none]), (100, 40, []), (9, 4, [some 77, none, none, none]), (100, 7, []), (3, 4, [some 79, some 81, some 83, none]), (9, 4, [some 80, none, none, none]), (100, 96, []), (9, 4, [some 82, none, none, none]), (100, 40, []), (9, 4, [some 84, none, none, none]), (100, 7, []), (3, 4, [some 86, some 88, some 90, none]), (9, 4, [some 87, none, none, none]), (100, 96, []), (9, 4, [some 89, none, none, none]), (100, 40, []), (9, 4, [some 91, none, none, none]), (100, 7, []), (3, 4, [some 93, some 95, some 97, none]), (9, 4, [some 94, none, none, none]), (100, 96, []), (9, 4, [some 96, none, none, none]), (100, 40, []), (9, 4, [some 98, none, none, none]), (100, 7, []), (10, 7, [some 100, some 101, none, none, none, none, none]), (100, 400, []), (9, 4, [some 102, none, none, none]), (100, 1203, []), (6, 12, [some 99, some 104, some 106, none, none, some 108, none, none, none, none, none, none]), (9, 4, [some 105, none, none, none]), (100, 64, []), (9, 4, [some 107, none, none, none]), (100, 800, []), (9, 4, [some 109, none, none, none]), (100, 400, []), (2, 3, [some 2, some 111, some 112]), (100, 10, []), (100, 22, []), (8, 7, [some 2, some 110, some 114, some 115, none, none, none]), (100, 12, []), (100, 12, []), (0, 7, [none, none, none, none, none, none, none]), (9, 4, [none, none, none, none])]
def S_238 : List SE := [(11, 13, [some 2, some 25, none, some 48, some 92, some 99, some 103, some 110, some 113, none, none, none, some 1]), (100, 12, []), (1, 11, [some 3, some 5, some 7, some 9, some 11, some 13, some 15, some 17, some 19, some 21, some 23]), (9, 4, [some 4, none, none, none]), (100, 96, []), (9, 4, [some 6, none, none, none]), (100, 40, []), (9, 4, [some 8, none, none, none]), (100, 7, []), (9, 4, [some 10, none, none, none]), (100, 600, []), (9, 4, [some 12, none, none, none]), (100, 64, []), (9, 4, [some 14, none, none, none]), (100, 800, []), (9, 4, [some 16, none, none, none]), (100, 64, []), (9, 4, [some 18, none, none, none]), (100, 64, []), (9, 4, [some 20, none, none, none]), (100, 64, []), (9, 4, [some 22, none, none, none]), (100, 16, []), (9, 4, [some 24, none, none, none]), (100, 10, []), (1, 11, [some 26, some 28, some 30, some 32, some 34, some 36, some 38, some 40, some 42, some 44, some 46]), (9, 4, [some 27, none, none, none]), (100, 96, []), (9, 4, [some 29, none, none, none]), (100, 40, []), (9, 4, [some 31, none, none, none]), (100, 7, []), (9, 4, [some 33, none, none, none]), (100, 600, []), (9, 4, [some 35, none, none, none]), (100, 64, []), (9, 4, [some 37, none, none, none]), (100, 800, []), (9, 4, [some 39, none, none, none]), (100, 64, []), (9, 4, [some 41, none, none, none]), (100, 64, []), (9, 4, [some 43, none, none, none]), (100, 64, []), (9, 4, [some 45, none, none, none]), (100, 16, []), (9, 4, [some 47, none, none, none]), (100, 10, []), (4, 3, [some 49, none, none]), (101, 6, [some 50, some 57, some 64, some 71, some 78, some 85]), (3, 4, [some 51, some 53, some 55, none]), (9, 4, [some 52, none, none, none]), (100, 96, []), (9, 4, [some 54, none, none, none]), (100, 40, []), (9, 4, [some 56, none, none, none]), (100, 7, []), (3, 4, [some 58, some 60, some 62, none]), (9, 4, [some 59, none, none, none]), (100, 96, []), (9, 4, [some 61, none, none, none]), (100, 40, []), (9, 4, [some 63, none, none, none]), (100, 7, []), (3, 4, [some 65, some 67, some 69, none]), (9, 4, [some 66, none, none, none]), (100, 96, []), (9, 4, [some 68, none, none, none]), (100, 40, []), (9, 4, [some 70, none, none, none]), (100, 7, []), (3, 4, [some 72, some 74, some 76, none]), (9, 4, [some 73, none, none, none]), (100, 96, []), (9, 4, [some 75, none, none, none]), (100, 40, []), (9, 4, [some 77, none, none, none]), (100, 7, []), (3, 4, [some 79, some 81, some 83, none]), (9, 4, [some 80, none, none, none]), (100, 96, []), (9, 4, [some 82, none, none, none]), (100, 40, []), (9, 4, [some 84, none, none, none]), (100, 7, []), (3, 4, [some 86, some 88, some 90, none]), (9, 4, [some 87, none, none, none]), (100, 96, []), (9, 4, [some 89, none, none, none]), (100, 40, []), (9, 4, [some 91, none, none, none]), (100, 7, []), (3, 4, [some 93, some 95, some 97, none]), (9, 4, [some 94, none, none, none]), (100, 96, []), (9, 4, [some 96, none, none, none]), (100, 40, []), (9, 4, [some 98, none, none, none]), (100, 7, []), (10, 7, [some 100, some 101, none, none, none, none, none]), (100, 400, []), (9, 4, [some 102, none, none, none]), (100, 1203, []), (6, 12, [some 99, some 104, some 106, none, none, some 108, none, none, none, none, none, none]), (9, 4, [some 105, none, none, none]), (100, 64, []), (9, 4, [some 107, none, none, none]), (100, 800, []), (9, 4, [some 109, none, none, none]), (100, 400, []), (2, 3, [some 2, some 111, some 112]), (100, 10, []), (100, 22, []), (8, 7, [some 2, some 110, some 114, some 115, none, none, none]), (100, 12, []), (100, 12, []), (0, 7, [none, none, none, none, none, none, none]), (9, 4, [none, none, none, none]), (100, 60, [])]
def S_239 : List SE := [(11, 13, [some 2, some 25, none, some 48, some 92, some 99, some 103, some 110, some 113, none, none, none, some 1]), (100, 12, []), (1, 11, [some 3, some 5, some 7, some 9, some 11, some 13, some 15, some 17, some 19, some 21, some 23]), (9, 4, [some 4, none, none, none]), (100, 96, []), (9, 4, [some 6, none, none, none]), (100, 40, []), (9, 4, [some 8, none, none, none]), (100, 7, []), (9, 4, [some 10, none, none, none]), (100, 600, []), (9, 4, [some 12, none, none, none]), (100, 64, []), (9, 4, [some 14, none, none, none]), (100, 800, []), (9, 4, [some 16, none, none, none]), (100, 64, []), (9, 4, [some 18, none, none, none]), (100, 64, []), (9, 4, [some 20, none, none, none]), (100, 64, []), (9, 4, [some 22, none, none, none]), (100, 16, []), (9, 4, [some 24, none, none, none]), (100, 10, []), (1, 11, [some 26, some 28, some 30, some 32, some 34, some 36, some 38, some 40, some 42, some 44, some 46]), (9, 4, [some 27, none, none, none]), (100, 96, []), (9, 4, [some 29, none, none, none]), (100, 40, []), (9, 4, [some 31, none, none, none]), (100, 7, []), (9, 4, [some 33, none, none, none]), (100, 600, []), (9, 4, [some 35, none, none, none]), (100, 64, []), (9, 4, [some 37, none, none, none]), (100, 800, []), (9, 4, [some 39, none, none, none]), (100, 64, []), (9, 4, [some 41, none, none, none]), (100, 64, []), (9, 4, [some 43, none, none, none]), (100, 64, []), (9, 4, [some 45, none, none, none]), (100, 16, []), (9, 4, [some 47, none, none, none]), (100, 10, []), (4, 3, [some 49, none, none]), (101, 6, [some 50, some 57, some 64, some 71, some 78, some 85]), (3, 4, [some 51, some 53, some 55, none]), (9, 4, [some 52, none, none, none]), (100, 96, []), (9, 4, [some 54, none, none, none]), (100, 40, []), (9, 4, [some 56, none, none, none]), (100, 7, []), (3, 4, [some 58, some 60, some 62, none]), (9, 4, [some 59, none, none, none]), (100, 96, []), (9, 4, [some 61, none, none, none]), (100, 40, []), (9, 4, [some 63, none, none, none]), (100, 7, []), (3, 4, [some 65, some 67, some 69, none]), (9, 4, [some 66, none, none, none]), (100, 96, []), (9, 4, [some 68, none, none, none]), (100, 40, []), (9, 4, [some 70, none, none, none]), (100, 7, []), (3, 4, [some 72, some 74, some 76, none]), (9, 4, [some 73, none, none, none]), (100, 96, []), (9, 4, [some 75, none, none, none]), (100, 40, []), (9, 4, [some 77, none, none, none]), (100, 7, []), (3, 4, [some 79, some 81, some 83, none]), (9, 4, [some 80, none, none, none]), (100, 96, []), (9, 4, [some 82, none, none, none]), (100, 40, []), (9, 4, [some 84, none, none, none]), (100, 7, []), (3, 4, [some 86, some 88, some 90, none]), (9, 4, [some 87, none, none, none]), (100, 96, []), (9, 4, [some 89, none, none, none]), (100, 40, []), (9, 4, [some 91, none, none, none]), (100, 7, []), (3, 4, [some 93, some 95, some 97, none]), (9, 4, [some 94, none, none, none]), (100, 96, []), (9, 4, [some 96, none, none, none]), (100, 40, []), (9, 4, [some 98, none, none, none]), (100, 7, []), (10, 7, [some 100, some 101, none, none, none, none, none]), (100, 400, []), (9, 4, [some 102, none, none, none]), (100, 1203, []), (6, 12, [some 99, some 104, some 106, none, none, some 108, none, none, none, none, none, none]), (9, 4, [some 105, none, none, none]), (100, 64, []), (9, 4, [some 107, none, none, none]), (100, 800, []), (9, 4, [some 109, none, none, none]), (100, 400, []), (2, 3, [some 2, some 111, some 112]), (100, 10, []), (100, 22, []), (8, 7, [some 2, some 110, some 114, some 115, none, none, none]), (100, 12, []), (100, 12, []), (0, 7, [none, none, none, none, none, none, none]), (9, 4, [some 118, none, none, none]), (100, 60, [])]
def S_240 : List SE := [(11, 13, [some 2, some 25, none, some 48, some 92, some 99, some 103, some 110, some 113, none, none, none, some 1]), (100, 12, []), (1, 11, [some 3, some 5, some 7, some 9, some 11, some 13, some 15, some 17, some 19, some 21, some 23]), (9, 4, [some 4, none, none, none]), (100, 96, []), (9, 4, [some 6, none, none, none]), (100, 40, []), (9, 4, [some 8, none, none, none]), (100, 7, []), (9, 4, [some 10, none, none, none]), (100, 600, []), (9, 4, [some 12, none, none, none]), (100, 64, []), (9, 4, [some 14, none, none, none]), (100, 800, []), (9, 4, [some 16, none, none, none]), (100, 64, []), (9, 4, [some 18, none, none, none]), (100, 64, []), (9, 4, [some 20, none, none, none]), (100, 64, []), (9, 4, [some 22, none, none, none]), (100, 16, []), (9, 4, [some 24, none, none, none]), (100, 10, []), (1, 11, [some 26, some 28, some 30, some 32, some 34, some 36, some 38, some 40, some 42, some 44, some 46]), (9, 4, [some 27, none, none, none]), (100, 96, []), (9, 4, [some 29, none, none, none]), (100, 40, []), (9, 4, [some 31, none, none, none]), (100, 7, []), (9, 4, [some 33, none, none, none]), (100, 600, []), (9, 4, [some 35, none, none, none]), (100, 64, []), (9, 4, [some 37, none, none, none]), (100, 800, []), (9, 4, [some 39, none, none, none]), (100, 64, []), (9, 4, [some 41, none, none, none]), (100, 64, []), (9, 4, [some 43, none, none, none]), (100, 64, []), (9, 4, [some 45, none, none, none]), (100, 16, []), (9, 4, [some 47, none, none, none]), (100, 10, []), (4, 3, [some 49, none, none]), (101, 6, [some 50, some 57, some 64, some 71, some 78, some 85]), (3, 4, [some 51, some 53, some 55, none]), (9, 4, [some 52, none, none, none]), (100, 96, []), (9, 4, [some 54, none, none, none]), (100, 40, []), (9, 4, [some 56, none, none, none]), (100, 7, []), (3, 4, [some 58, some 60, some 62, none]), (9, 4, [some 59, none, none, none]), (100, 96, []), (9, 4, [some 61, none, none, none]), (100, 40, []), (9, 4, [some 63, none, none, none]), (100, 7, []), (3, 4, [some 65, some 67, some 69, none]), (9, 4, [some 66, none, none, none]), (100, 96, []), (9, 4, [some 68, none, none, none]), (100, 40, []), (9, 4, [some 70, none, none, none]), (100, 7, []), (3, 4, [some 72, some 74, some 76, none]), (9, 4, [some 73, none, none, none]), (100, 96, []), (9, 4, [some 75, none, none, none]), (100, 40, []), (9, 4, [some 77, none, none, none]), (100, 7, []), (3, 4, [some 79, some 81, some 83, none]), (9, 4, [some 80, none, none, none]), (100, 96, []), (9, 4, [some 82, none, none, none]), (100, 40, []), (9, 4, [some 84, none, none, none]), (100, 7, []), (3, 4, [some 86, some 88, some 90, none]), (9, 4, [some 87, none, none, none]), (100, 96, []), (9, 4, [some 89, none, none, none]), (100, 40, []), (9, 4, [some 91, none, none, none]), (100, 7, []), (3, 4, [some 93, some 95, some 97, none]), (9, 4, [some 94, none, none, none]), (100, 96, []), (9, 4, [some 96, none, none, none]), (100, 40, []), (9, 4, [some 98, none, none, none]), (100, 7, []), (10, 7, [some 100, some 101, none, none, none, none, none]), (100, 400, []), (9, 4, [some 102, none, none, none]), (100, 1203, []), (6, 12, [some 99, some 104, some 106, none, none, some 108, none, none, none, none, none, none]), (9, 4, [some 105, none, none, none]), (100, 64, []), (9, 4, [some 107, none, none, none]), (100, 800, []), (9, 4, [some 109, none, none, none]), (100, 400, []), (2, 3, [some 2, some 111, some 112]), (100, 10, []), (100, 22, []), (8, 7, [some 2, some 110, some 114, some 115, none, none, none]), (100, 12, []), (100, 12, []), (0, 7, [none, none, none, some 117, none, none, none]), (9, 4, [some 118, none, none, none]), (100, 60, [])]
def S_241 : List SE := [(11, 13, [some 2, some 25, none, some 48, some 92, some 99, some 103, some 110, some 113, none, none, none, some 1]), (100, 12, []), (1, 11, [some 3, some 5, some 7, some 9, some 11, some 13, some 15, some 17, some 19, some 21, some 23]), (9, 4, [some 4, none, none, none]), (100, 96, []), (9, 4, [some 6, none, none, none]), (100, 40, []), (9, 4, [some 8, none, none, none]), (100, 7, []), (9, 4, [some 10, none, none, none]), (100, 600, []), (9, 4, [some 12, none, none, none]), (100, 64, []), (9, 4, [some 14, none, none, none]), (100, 800, []), (9, 4, [some 16, none, none, none]), (100, 64, []), (9, 4, [some 18, none, none, none]), (100, 64, []), (9, 4, [some 20, none, none, none]), (100, 64, []), (9, 4, [some 22, none, none, none]), (100, 16, []), (9, 4, [some 24, none, none, none]), (100, 10, []), (1, 11, [some 26, some 28, some 30, some 32, some 34, some 36, some 38, some 40, some 42, some 44, some 46]), (9, 4, [some 27, none, none, none]), (100, 96, []), (9, 4, [some 29, none, none, none]), (100, 40, []), (9, 4, [some 31, none, none, none]), (100, 7, []), (9, 4, [some 33, none, none, none]), (100, 600, []), (9, 4, [some 35, none, none, none]), (100, 64, []), (9, 4, [some 37, none, none, none]), (100, 800, []), (9, 4, [some 39, none, none, none]), (100, 64, []), (9, 4, [some 41, none, none, none]), (100, 64, []), (9, 4, [some 43, none, none, none]), (100, 64, []), (9, 4, [some 45, none, none, none]), (100, 16, []), (9, 4, [some 47, none, none, none]), (100, 10, []), (4, 3, [some 49, none, none]), (101, 6, [some 50, some 57, some 64, some 71, some 78, some 85]), (3, 4, [some 51, some 53, some 55, none]), (9, 4, [some 52, none, none, none]), (100, 96, []), (9, 4, [some 54, none, none, none]), (100, 40, []), (9, 4, [some 56, none, none, none]), (100, 7, []), (3, 4, [some 58, some 60, some 62, none]), (9, 4, [some 59, none, none, none]), (100, 96, []), (9, 4, [some 61, none, none, none]), (100, 40, []), (9, 4, [some 63, none, none, none]), (100, 7, []), (3, 4, [some 65, some 67, some 69, none]), (9, 4, [some 66, none, none, none]), (100, 96, []), (9, 4, [some 68, none, none, none]), (100, 40, []), (9, 4, [some 70, none, none, none]), (100, 7, []), (3, 4, [some 72, some 74, some 76, none]), (9, 4, [some 73, none, none, none]), (100, 96, []), (9, 4, [some 75, none, none, none]), (100, 40, []), (9, 4, [some 77, none, none, none]), (100, 7, []), (3, 4, [some 79, some 81, some 83, none]), (9, 4, [some 80, none, none, none]), (100, 96, []), (9, 4, [some 82, none, none, none]), (100, 40, []), (9, 4, [some 84, none, none, none]), (100, 7, []), (3, 4, [some 86, some 88, some 90, none]), (9, 4, [some 87, none, none, none]), (100, 96, []), (9, 4, [some 89, none, none, none]), (100, 40, []), (9, 4, [some 91, none, none, none]), (100, 7, []), (3, 4, [some 93, some 95, some 97, none]), (9, 4, [some 94, none, none, none]), (100, 96, []), (9, 4, [some 96, none, none, none]), (100, 40, []), (9, 4, [some 98, none, none, none]), (100, 7, []), (10, 7, [some 100, some 101, none, none, none, none, none]), (100, 400, []), (9, 4, [some 102, none, none, none]), (100, 1203, []), (6, 12, [some 99, some 104, some 106, none, none, some 108, none, none, none, none, none, none]), (9, 4, [some 105, none, none, none]), (100, 64, []), (9, 4, [some 107, none, none, none]), (100, 800, []), (9, 4, [some 109, none, none, none]), (100, 400, []), (2, 3, [some 2, some 111, some 112]), (100, 10, []), (100, 22, []), (8, 7, [some 2, some 110, some 114, some 115, none, none, none]), (100, 12, []), (100, 12, []), (0, 7, [none, none, none, some 117, none, none, none]), (9, 4, [some 118, none, none, none]), (100, 60, []), (9, 4, [none, none, none, none])]
def S_242 : List SE := [(11, 13, [some 2, some 25, none, some 48, some 92, some 99, some 103, some 110, some 113, none, none, none, some 1]), (100, 12, []), (1, 11, [some 3, some 5, some 7, some 9, some 11, some 13, some 15, some 17, some 19, some 21, some 23]), (9, 4, [some 4, none, none, none]), (100, 96, []), (9, 4, [some 6, none, none, none]), (100, 40, []), (9, 4, [some 8, none, none, none]), (100, 7, []), (9, 4, [some 10, none, none, none]), (100, 600, []), (9, 4, [some 12, none, none, none]), (100, 64, []), (9, 4, [some 14, none, none, none]), (100, 800, []), (9, 4, [some 16, none, none, none]), (100, 64, []), (9, 4, [some 18, none, none, none]), (100, 64, []), (9, 4, [some 20, none, none, none]), (100, 64, []), (9, 4, [some 22, none, none, none]), (100, 16, []), (9, 4, [some 24, none, none, none]), (100, 10, []), (1, 11, [some 26, some 28, some 30, some 32, some 34, some 36, some 38, some 40, some 42, some 44, some 46]), (9, 4, [some 27, none, none, none]), (100, 96, []), (9, 4, [some 29, none, none, none]), (100, 40, []), (9, 4, [some 31, none, none, none]), (100, 7, []), (9, 4, [some 33, none, none, none]), (100, 600, []), (9, 4, [some 35, none, none, none]), (100, 64, []), (9, 4, [some 37, none, none, none]), (100, 800, []), (9, 4, [some 39, none, none, none]), (100, 64, []), (9, 4, [some 41, none, none, none]), (100, 64, []), (9, 4, [some 43, none, none, none]), (100, 64, []), (9, 4, [some 45, none, none, none]), (100, 16, []), (9, 4, [some 47, none, none, none]), (100, 10, []), (4, 3, [some 49, none, none]), (101, 6, [some 50, some 57, some 64, some 71, some 78, some 85]), (3, 4, [some 51, some 53, some 55, none]), (9, 4, [some 52, none, none, none]), (100, 96, []), (9, 4, [some 54, none, none, none]), (100, 40, []), (9, 4, [some 56, none, none, none]), (100, 7, []), (3, 4, [some 58, some 60, some 62, none]), (9, 4, [some 59, none, none, none]), (100, 96, []), (9, 4, [some 61, none, none, none]), (100, 40, []), (9, 4, [some 63, none, none, none]), (100, 7, []), (3, 4, [some 65, some 67, some 69, none]), (9, 4, [some 66, none, none, none]), (100, 96, []), (9, 4, [some 68, none, none, none]), (100, 40, []), (9, 4, [some 70, none, none, none]), (100, 7, []), (3, 4, [some 72, some 74, some 76, none]), (9, 4, [some 73, none, none, none]), (100, 96, []), (9, 4, [some 75, none, none, none]), (100, 40, []), (9, 4, [some 77, none, none, none]), (100, 7, []), (3, 4, [some 79, some 81, some 83, none]), (9, 4, [some 80, none, none, none]), (100, 96, []), (9, 4, [some 82, none, none, none]), (100, 40, []), (9, 4, [some 84, none, none, none]), (100, 7, []), (3, 4, [some 86, some 88, some 90, none]), (9, 4, [some 87, none, none, none]), (100, 96, []), (9, 4, [some 89, none, none, none]), (100, 40, []), (9, 4, [some 91, none, none, none]), (100, 7, []), (3, 4, [some 93, some 95, some 97, none]), (9, 4, [some 94, none, none, none]), (100, 96, []), (9, 4, [some 96, none, none, none]), (100, 40, []), (9, 4, [some 98, none, none, none]), (100, 7, []), (10, 7, [some 100, some 101, none, none, none, none, none]), (100, 400, []), (9, 4, [some 102, none, none, none]), (100, 1203, []), (6, 12, [some 99, some 104, some 106, none, none, some 108, none, none, none, none, none, none]), (9, 4, [some 105, none, none, none]), (100, 64, []), (9, 4, [some 107, none, none, none]), (100, 800, []), (9, 4, [some 109, none, none, none]), (100, 400, []), (2, 3, [some 2, some 111, some 112]), (100, 10, []), (100, 22, []), (8, 7, [some 2, some 110, some 114, some 115, none, none, none]), (100, 12, []), (100, 12, []), (0, 7, [none, none, none, some 117, none, none, none]), (9, 4, [some 118, none, none, none]), (100, 60, []), (9, 4, [none, none, none, none]), (100, 5, [])]
def S_243 : List SE := [(11, 13, [some 2, some 25, none, some 48, some 92, some 99, some 103, some 110, some 113, none, none, none, some 1]), (100, 12, []), (1, 11, [some 3, some 5, some 7, some 9, some 11, some 13, some 15, some 17, some 19, some 21, some 23]), (9, 4, [some 4, none, none, none]), (100, 96, []), (9, 4, [some 6, none, none, none]), (100, 40, []), (9, 4, [some 8, none, none, none]), (100, 7, []), (9, 4, [some 10, none, none, none]), (100, 600, []), (9, 4, [some 12, none, none, none]), (100, 64, []), (9, 4, [some 14, none, none, none]), (100, 800, []), (9, 4, [some 16, none, none, none]), (100, 64, []), (9, 4, [some 18, none, none, none]), (100, 64, []), (9, 4, [some 20, none, none, none]), (100, 64, []), (9, 4, [some 22, none, none, none]), (100, 16, []), (9, 4, [some 24, none, none, none]), (100, 10, []), (1, 11, [some 26, some 28, some 30, some 32, some 34, some 36, some 38, some 40, some 42, some 44, some 46]), (9, 4, [some 27, none, none, none]), (100, 96, []), (9, 4, [some 29, none, none, none]), (100, 40, []), (9, 4, [some 31, none, none, none]), (100, 7, []), (9, 4, [some 33, none, none, none]), (100, 600, []), (9, 4, [some 35, none, none, none]), (100, 64, []), (9, 4, [some 37, none, none, none]), (100, 800, []), (9, 4, [some 39, none, none, none]), (100, 64, []), (9, 4, [some 41, none, none, none]), (100, 64, []), (9, 4, [some 43, none, none, none]), (100, 64, []), (9, 4, [some 45, none, none, none]), (100, 16, []), (9, 4, [some 47, none, none, none]), (100, 10, []), (4, 3, [some 49, none, none]), (101, 6, [some 50, some 57, some 64, some 71, some 78, some 85]), (3, 4, [some 51, some 53, some 55, none]), (9, 4, [some 52, none, none, none]), (100, 96, []), (9, 4, [some 54, none, none, none]), (100, 40, []), (9, 4, [some 56, none, none, none]), (100, 7, []), (3, 4, [some 58, some 60, some 62, none]), (9, 4, [some 59, none, none, none]), (100, 96, []), (9, 4, [some 61, none, none, none]), (100, 40, []), (9, 4, [some 63, none, none, none]), (100, 7, []), (3, 4, [some 65, some 67, some 69, none]), (9, 4, [some 66, none, none, none]), (100, 96, []), (9, 4, [some 68, none, none, none]), (100, 40, []), (9, 4, [some 70, none, none, none]), (100, 7, []), (3, 4, [some 72, some 74, some 76, none]), (9, 4, [some 73, none, none, none]), (100, 96, []), (9, 4, [some 75, none, none, none]), (100, 40, []), (9, 4, [some 77, none, none, none]), (100, 7, []), (3, 4, [some 79, some 81, some 83, none]), (9, 4, [some 80, none, none, none]), (100, 96, []), (9, 4, [some 82, none, none, none]), (100, 40, []), (9, 4, [some 84, none, none, none]), (100, 7, []), (3, 4, [some 86, some 88, some 90, none]), (9, 4, [some 87, none, none, none]), (100, 96, []), (9, 4, [some 89, none, none, none]), (100, 40, []), (9, 4, [some 91, none, none, none]), (100, 7, []), (3, 4, [some 93, some 95, some 97, none]), (9, 4, [some 94, none, none, none]), (100, 96, []), (9, 4, [some 96, none, none, none]), (100, 40, []), (9, 4, [some 98, none, none, none]), (100, 7, []), (10, 7, [some 100, some 101, none, none, none, none, none]), (100, 400, []), (9, 4, [some 102, none, none, none]), (100, 1203, []), (6, 12, [some 99, some 104, some 106, none, none, some 108, none, none, none, none, none, none]), (9, 4, [some 105, none, none, none]), (100, 64, []), (9, 4, [some 107, none, none, none]), (100, 800, []), (9, 4, [some 109, none, none, none]), (100, 400, []), (2, 3, [some 2, some 111, some 112]), (100, 10, []), (100, 22, []), (8, 7, [some 2, some 110, some 114, some 115, none, none, none]), (100, 12, []), (100, 12, []), (0, 7, [none, none, none, some 117, none, none, none]), (9, 4, [some 118, none, none, none]), (100, 60, []), (9, 4, [some 120, none, none, none]), (100, 5, [])]
def S_244 : List SE := [(11, 13, [some 2, some 25, none, some 48, some 92, some 99, some 103, some 110, some 113, none, none, none, some 1]), (100, 12, []), (1, 11, [some 3, some 5, some 7, some 9, some 11, some 13, some 15, some 17, some 19, some 21, some 23]), (9, 4, [some 4, none, none, none]), (100, 96, []), (9, 4, [some 6, none, none, none]), (100, 40, []), (9, 4, [some 8, none, none, none]), (100, 7, []), (9, 4, [some 10, none, none, none]), (100, 600, []), (9, 4, [some 12, none, none, none]), (100, 64, []), (9, 4, [some 14, none, none, none]), (100, 800, []), (9, 4, [some 16, none, none, none]), (100, 64, []), (9, 4, [some 18, none, none, none]), (100, 64, []), (9, 4, [some 20, none, none, none]), (100, 64, []), (9, 4, [some 22, none, none, none]), (100, 16, []), (9, 4, [some 24, none, none, none]), (100, 10, []), (1, 11, [some 26, some 28, some 30, some 32, some 34, some 36, some 38, some 40, some 42, some 44, some 46]), (9, 4, [some 27, none, none, none]), (100, 96, []), (9, 4, [some 29, none, none, none]), (100, 40, []), (9, 4, [some 31, none, none, none]), (100, 7, []), (9, 4, [some 33, none, none, none]), (100, 600, []), (9, 4, [some 35, none, none, none]), (100, 64, []), (9, 4, [some 37, none, none, none]), (100, 800, []), (9, 4, [some 39, none, none, none]), (100, 64, []), (9, 4, [some 41, none, none, none]), (100, 64, []), (9, 4, [some 43, none, none, none]), (100, 64, []), (9, 4, [some 45, none, none, none]), (100, 16, []), (9, 4, [some 47, none, none, none]), (100, 10, []), (4, 3, [some 49, none, none]), (101, 6, [some 50, some 57, some 64, some 71, some 78, some 85]), (3, 4, [some 51, some 53, some 55, none]), (9, 4, [some 52, none, none, none]), (100, 96, []), (9, 4, [some 54, none, none, none]), (100, 40, []), (9, 4, [some 56, none, none, none]), (100, 7, []), (3, 4, [some 58, some 60, some 62, none]), (9, 4, [some 59, none, none, none]), (100, 96, []), (9, 4, [some 61, none, none, none]), (100, 40, []), (9, 4, [some 63, none, none, none]), (100, 7, []), (3, 4, [some 65, some 67, some 69, none]), (9, 4, [some 66, none, none, none]), (100, 96, []), (9, 4, [some 68, none, none, none]), (100, 40, []), (9, 4, [some 70, none, none, none]), (100, 7, []), (3, 4, [some 72, some 74, some 76, none]), (9, 4, [some 73, none, none, none]), (100, 96, []), (9, 4, [some 75, none, none, none]), (100, 40, []), (9, 4, [some 77, none, none, none]), (100, 7, []), (3, 4, [some 79, some 81, some 83, none]), (9, 4, [some 80, none, none, none]), (100, 96, []), (9, 4, [some 82, none, none, none]), (100, 40, []), (9, 4, [some 84, none, none, none]), (100, 7, []), (3, 4, [some 86, some 88, some 90, none]), (9, 4, [some 87, none, none, none]), (100, 96, []), (9, 4, [some 89, none, none, none]), (100, 40, []), (9, 4, [some 91, none, none, none]), (100, 7, []), (3, 4, [some 93, some 95, some 97, none]), (9, 4, [some 94, none, none, none]), (100, 96, []), (9, 4, [some 96, none, none, none]), (100, 40, []), (9, 4, [some 98, none, none, none]), (100, 7, []), (10, 7, [some 100, some 101, none, none, none, none, none]), (100, 400, []), (9, 4, [some 102, none, none, none]), (100, 1203, []), (6, 12, [some 99, some 104, some 106, none, none, some 108, none, none, none, none, none, none]), (9, 4, [some 105, none, none, none]), (100, 64, []), (9, 4, [some 107, none, none, none]), (100, 800, []), (9, 4, [some 109, none, none, none]), (100, 400, []), (2, 3, [some 2, some 111, some 112]), (100, 10, []), (100, 22, []), (8, 7, [some 2, some 110, some 114, some 115, none, none, none]), (100, 12, []), (100, 12, []), (0, 7, [none, none, none, some 117, some 119, none, none]), (9, 4, [some 118, none, none, none]), (100, 60, []), (9, 4, [some 120, none, none, none]), (100, 5, [])]
def S_245 : List SE := [(11, 13, [some 2, some 25, none, some 48, some 92, some 99, some 103, some 110, some 113, none, none, none, some 1]), (100, 12, []), (1, 11, [some 3, some 5, some 7, some 9, some 11, some 13, some 15, some 17, some 19, some 21, some 23]), (9, 4, [some 4, none, none, none]), (100, 96, []), (9, 4, [some 6, none, none, none]), (100, 40, []), (9, 4, [some 8, none, none, none]), (100, 7, []), (9, 4, [some 10, none, none, none]), (100, 600, []), (9, 4, [some 12, none, none, none]), (100, 64, []), (9, 4, [some 14, none, none, none]), (100, 800, []), (9, 4, [some 16, none, none, none]), (100, 64, []), (9, 4, [some 18, none, none, none]), (100, 64, []), (9, 4, [some 20, none, none, none]), (100, 64, []), (9, 4, [some 22, none, none, none]), (100, 16, []), (9, 4, [some 24, none, none, none]), (100, 10, []), (1, 11, [some 26, some 28, some 30, some 32, some 34, some 36, some 38, some 40, some 42, some 44, some 46]), (9, 4, [some 27, none, none, none]), (100, 96, []), (9, 4, [some 29, none, none, none]), (100, 40, []), (9, 4, [some 31, none, none, none]), (100, 7, []), (9, 4, [some 33, none, none, none]), (100, 600, []), (9, 4, [some 35, none, none, none]), (100, 64, []), (9, 4, [some 37, none, none, none]), (100, 800, []), (9, 4, [some 39, none, none, none]), (100, 64, []), (9, 4, [some 41, none, none, none]), (100, 64, []), (9, 4, [some 43, none, none, none]), (100, 64, []), (9, 4, [some 45, none, none, none]), (100, 16, []), (9, 4, [some 47, none, none, none]), (100, 10, []), (4, 3, [some 49, none, none]), (101, 6, [some 50, some 57, some 64, some 71, some 78, some 85]), (3, 4, [some 51, some 53, some 55, none]), (9, 4, [some 52, none, none, none]), (100, 96, []), (9, 4, [some 54, none, none, none]), (100, 40, []), (9, 4, [some 56, none, none, none]), (100, 7, []), (3, 4, [some 58, some 60, some 62, none]), (9, 4, [some 59, none, none, none]), (100, 96, []), (9, 4, [some 61, none, none, none]), (100, 40, []), (9, 4, [some 63, none, none, none]), (100, 7, []), (3, 4, [some 65, some 67, some 69, none]), (9, 4, [some 66, none, none, none]), (100, 96, []), (9, 4, [some 68, none, none, none]), (100, 40, []), (9, 4, [some 70, none, none, none]), (100, 7, []), (3, 4, [some 72, some 74, some 76, none]), (9, 4, [some 73, none, none, none]), (100, 96, []), (9, 4, [some 75, none, none, none]), (100, 40, []), (9, 4, [some 77, none, none, none]), (100, 7, []), (3, 4, [some 79, some 81, some 83, none]), (9, 4, [some 80, none, none, none]), (100, 96, []), (9, 4, [some 82, none, none, none]), (100, 40, []), (9, 4, [some 84, none, none, none]), (100, 7, []), (3, 4, [some 86, some 88, some 90, none]), (9, 4, [some 87, none, none, none]), (100, 96, []), (9, 4, [some 89, none, none, none]), (100, 40, []), (9, 4, [some 91, none, none, none]), (100, 7, []), (3, 4, [some 93, some 95, some 97, none]), (9, 4, [some 94, none, none, none]), (100, 96, []), (9, 4, [some 96, none, none, none]), (100, 40, []), (9, 4, [some 98, none, none, none]), (100, 7, []), (10, 7, [some 100, some 101, none, none, none, none, none]), (100, 400, []), (9, 4, [some 102, none, none, none]), (100, 1203, []), (6, 12, [some 99, some 104, some 106, none, none, some 108, none, none, none, none, none, none]), (9, 4, [some 105, none, none, none]), (100, 64, []), (9, 4, [some 107, none, none, none]), (100, 800, []), (9, 4, [some 109, none, none, none]), (100, 400, []), (2, 3, [some 2, some 111, some 112]), (100, 10, []), (100, 22, []), (8, 7, [some 2, some 110, some 114, some 115, none, none, none]), (100, 12, []), (100, 12, []), (0, 7, [some 2, none, none, some 117, some 119, none, none]), (9, 4, [some 118, none, none, none]), (100, 60, []), (9, 4, [some 120, none, none, none]), (100, 5, [])]
def S_246 : List SE := [(11, 13, [some 2, some 25, none, some 48, some 92, some 99, some 103, some 110, some 113, none, none, none, some 1]), (100, 12, []), (1, 11, [some 3, some 5, some 7, some 9, some 11, some 13, some 15, some 17, some 19, some 21, some 23]), (9, 4, [some 4, none, none, none]), (100, 96, []), (9, 4, [some 6, none, none, none]), (100, 40, []), (9, 4, [some 8, none, none, none]), (100, 7, []), (9, 4, [some 10, none, none, none]), (100, 600, []), (9, 4, [some 12, none, none, none]), (100, 64, []), (9, 4, [some 14, none, none, none]), (100, 800, []), (9, 4, [some 16, none, none, none]), (100, 64, []), (9, 4, [some 18, none, none, none]), (100, 64, []), (9, 4, [some 20, none, none, none]), (100, 64, []), (9, 4, [some 22, none, none, none]), (100, 16, []), (9, 4, [some 24, none, none, none]), (100, 10, []), (1, 11, [some 26, some 28, some 30, some 32, some 34, some 36, some 38, some 40, some 42, some 44, some 46]), (9, 4, [some 27, none, none, none]), (100, 96, []), (9, 4, [some 29, none, none, none]), (100, 40, []), (9, 4, [some 31, none, none, none]), (100, 7, []), (9, 4, [some 33, none, none, none]), (100, 600, []), (9, 4, [some 35, none, none, none]), (100, 64, []), (9, 4, [some 37, none, none, none]), (100, 800, []), (9, 4, [some 39, none, none, none]), (100, 64, []), (9, 4, [some 41, none, none, none]), (100, 64, []), (9, 4, [some 43, none, none, none]), (100, 64, []), (9, 4, [some 45, none, none, none]), (100, 16, []), (9, 4, [some 47, none, none, none]), (100, 10, []), (4, 3, [some 49, none, none]), (101, 6, [some 50, some 57, some 64, some 71, some 78, some 85]), (3, 4, [some 51, some 53, some 55, none]), (9, 4, [some 52, none, none, none]), (100, 96, []), (9, 4, [some 54, none, none, none]), (100, 40, []), (9, 4, [some 56, none, none, none]), (100, 7, []), (3, 4, [some 58, some 60, some 62, none]), (9, 4, [some 59, none, none, none]), (100, 96, []), (9, 4, [some 61, none, none, none]), (100, 40, []), (9, 4, [some 63, none, none, none]), (100, 7, []), (3, 4, [some 65, some 67, some 69, none]), (9, 4, [some 66, none, none, none]), (100, 96, []), (9, 4, [some 68, none, none, none]), (100, 40, []), (9, 4, [some 70, none, none, none]), (100, 7, []), (3, 4, [some 72, some 74, some 76, none]), (9, 4, [some 73, none, none, none]), (100, 96, []), (9, 4, [some 75, none, none, none]), (100, 40, []), (9, 4, [some 77, none, none, none]), (100, 7, []), (3, 4, [some 79, some 81, some 83, none]), (9, 4, [some 80, none, none, none]), (100, 96, []), (9, 4, [some 82, none, none, none]), (100, 40, []), (9, 4, [some 84, none, none, none]), (100, 7, []), (3, 4, [some 86, some 88, some 90, none]), (9, 4, [some 87, none, none, none]), (100, 96, []), (9, 4, [some 89, none, none, none]), (100, 40, []), (9, 4, [some 91, none, none, none]), (100, 7, []), (3, 4, [some 93, some 95, some 97, none]), (9, 4, [some 94, none, none, none]), (100, 96, []), (9, 4, [some 96, none, none, none]), (100, 40, []), (9, 4, [some 98, none, none, none]), (100, 7, []), (10, 7, [some 100, some 101, none, none, none, none, none]), (100, 400, []), (9, 4, [some 102, none, none, none]), (100, 1203, []), (6, 12, [some 99, some 104, some 106, none, none, some 108, none, none, none, none, none, none]), (9, 4, [some 105, none, none, none]), (100, 64, []), (9, 4, [some 107, none, none, none]), (100, 800, []), (9, 4, [some 109, none, none, none]), (100, 400, []), (2, 3, [some 2, some 111, some 112]), (100, 10, []), (100, 22, []), (8, 7, [some 2, some 110, some 114, some 115, none, none, none]), (100, 12, []), (100, 12, []), (0, 7, [some 2, some 110, none, some 117, some 119, none, none]), (9, 4, [some 118, none, none, none]), (100, 60, []), (9, 4, [some 120, none, none, none]), (100, 5, [])]
def S_247 : List SE := [(11, 13, [some 2, some 25, none, some 48, some 92, some 99, some 103, some 110, some 113, none, none, none, some 1]), (100, 12, []), (1, 11, [some 3, some 5, some 7, some 9, some 11, some 13, some 15, some 17, some 19, some 21, some 23]), (9, 4, [some 4, none, none, none]), (100, 96, []), (9, 4, [some 6, none, none, none]), (100, 40, []), (9, 4, [some 8, none, none, none]), (100, 7, []), (9, 4, [some 10, none, none, none]), (100, 600, []), (9, 4, [some 12, none, none, none]), (100, 64, []), (9, 4, [some 14, none, none, none]), (100, 800, []), (9, 4, [some 16, none, none, none]), (100, 64, []), (9, 4, [some 18, none, none, none]), (100, 64, []), (9, 4, [some 20, none, none, none]), (100, 64, []), (9, 4, [some 22, none, none, none]), (100, 16, []), (9, 4, [some 24, none, none, none]), (100, 10, []), (1, 11, [some 26, some 28, some 30, some 32, some 34, some 36, some 38, some 40, some 42, some 44, some 46]), (9, 4, [some 27, none, none, none]), (100, 96, []), (9, 4, [some 29, none, none, none]), (100, 40, []), (9, 4, [some 31, none, none, none]), (100, 7, []), (9, 4, [some 33, none, none, none]), (100, 600, []), (9, 4, [some 35, none, none, none]), (100, 64, []), (9, 4, [some 37, none, none, none]), (100, 800, []), (9, 4, [some 39, none, none, none]), (100, 64, []), (9, 4, [some 41, none, none, none]), (100, 64, []), (9, 4, [some 43, none, none, none]), (100, 64, []), (9, 4, [some 45, none, none, none]), (100, 16, []), (9, 4, [some 47, none, none, none]), (100, 10, []), (4, 3, [some 49, none, none]), (101, 6, [some 50, some 57, some 64, some 71, some 78, some 85]), (3, 4, [some 51, some 53, some 55, none]), (9, 4, [some 52, none, none, none]), (100, 96, []), (9, 4, [some 54, none, none, none]), (100, 40, []), (9, 4, [some 56, none, none, none]), (100, 7, []), (3, 4, [some 58, some 60, some 62, none]), (9, 4, [some 59, none, none, none]), (100, 96, []), (9, 4, [some 61, none, none, none]), (100, 40, []), (9, 4, [some 63, none, none, none]), (100, 7, []), (3, 4, [some 65, some 67, some 69, none]), (9, 4, [some 66, none, none, none]), (100, 96, []), (9, 4, [some 68, none, none, none]), (100, 40, []), (9, 4, [some 70, none, none, none]), (100, 7, []), (3, 4, [some 72, some 74, some 76, none]), (9, 4, [some 73, none, none, none]), (100, 96, []), (9, 4, [some 75, none, none, none]), (100, 40, []), (9, 4, [some 77, none, none, none]), (100, 7, []), (3, 4, [some 79, some 81, some 83, none]), (9, 4, [some 80, none, none, none]), (100, 96, []), (9, 4, [some 82, none, none, none]), (100, 40, []), (9, 4, [some 84, none, none, none]), (100, 7, []), (3, 4, [some 86, some 88, some 90, none]), (9, 4, [some 87, none, none, none]), (100, 96, []), (9, 4, [some 89, none, none, none]), (100, 40, []), (9, 4, [some 91, none, none, none]), (100, 7, []), (3, 4, [some 93, some 95, some 97, none]), (9, 4, [some 94, none, none, none]), (100, 96, []), (9, 4, [some 96, none, none, none]), (100, 40, []), (9, 4, [some 98, none, none, none]), (100, 7, []), (10, 7, [some 100, some 101, none, none, none, none, none]), (100, 400, []), (9, 4, [some 102, none, none, none]), (100, 1203, []), (6, 12, [some 99, some 104, some 106, none, none, some 108, none, none, none, none, none, none]), (9, 4, [some 105, none, none, none]), (100, 64, []), (9, 4, [some 107, none, none, none]), (100, 800, []), (9, 4, [some 109, none, none, none]), (100, 400, []), (2, 3, [some 2, some 111, some 112]), (100, 10, []), (100, 22, []), (8, 7, [some 2, some 110, some 114, some 115, none, none, none]), (100, 12, []), (100, 12, []), (0, 7, [some 2, some 110, some 113, some 117, some 119, none, none]), (9, 4, [some 118, none, none, none]), (100, 60, []), (9, 4, [some 120, none, none, none]), (100, 5, [])]
def S_248 : List SE := [(11, 13, [some 2, some 25, none, some 48, some 92, some 99, some 103, some 110, some 113, some 116, none, none, some 1]), (100, 12, []), (1, 11, [some 3, some 5, some 7, some 9, some 11, some 13, some 15, some 17, some 19, some 21, some 23]), (9, 4, [some 4, none, none, none]), (100, 96, []), (9, 4, [some 6, none, none, none]), (100, 40, []), (9, 4, [some 8, none, none, none]), (100, 7, []), (9, 4, [some 10, none, none, none]), (100, 600, []), (9, 4, [some 12, none, none, none]), (100, 64, []), (9, 4, [some 14, none, none, none]), (100, 800, []), (9, 4, [some 16, none, none, none]), (100, 64, []), (9, 4, [some 18, none, none, none]), (100, 64, []), (9, 4, [some 20, none, none, none]), (100, 64, []), (9, 4, [some 22, none, none, none]), (100, 16, []), (9, 4, [some 24, none, none, none]), (100, 10, []), (1, 11, [some 26, some 28, some 30, some 32, some 34, some 36, some 38, some 40, some 42, some 44, some 46]), (9, 4, [some 27, none, none, none]), (100, 96, []), (9, 4, [some 29, none, none, none]), (100, 40, []), (9, 4, [some 31, none, none, none]), (100, 7, []), (9, 4, [some 33, none, none, none]), (100, 600, []), (9, 4, [some 35, none, none, none]), (100, 64, []), (9, 4, [some 37, none, none, none]), (100, 800, []), (9, 4, [some 39, none, none, none]), (100, 64, []), (9, 4, [some 41, none, none, none]), (100, 64, []), (9, 4, [some 43, none, none, none]), (100, 64, []), (9, 4, [some 45, none, none, none]), (100, 16, []), (9, 4, [some 47, none, none, none]), (100, 10, []), (4, 3, [some 49, none, none]), (101, 6, [some 50, some 57, some 64, some 71, some 78, some 85]), (3, 4, [some 51, some 53, some 55, none]), (9, 4, [some 52, none, none, none]), (100, 96, []), (9, 4, [some 54, none, none, none]), (100, 40, []), (9, 4, [some 56, none, none, none]), (100, 7, []), (3, 4, [some 58, some 60, some 62, none]), (9, 4, [some 59, none, none, none]), (100, 96, []), (9, 4, [some 61, none, none, none]), (100, 40, []), (9, 4, [some 63, none, none, none]), (100, 7, []), (3, 4, [some 65, some 67, some 69, none]), (9, 4, [some 66, none, none, none]), (100, 96, []), (9, 4, [some 68, none, none, none]), (100, 40, []), (9, 4, [some 70, none, none, none]), (100, 7, []), (3, 4, [some 72, some 74, some 76, none]), (9, 4, [some 73, none, none, none]), (100, 96, []), (9, 4, [some 75, none, none, none]), (100, 40, []), (9, 4, [some 77, none, none, none]), (100, 7, []), (3, 4, [some 79, some 81, some 83, none]), (9, 4, [some 80, none, none, none]), (100, 96, []), (9, 4, [some 82, none, none, none]), (100, 40, []), (9, 4, [some 84, none, none, none]), (100, 7, []), (3, 4, [some 86, some 88, some 90, none]), (9, 4, [some 87, none, none, none]), (100, 96, []), (9, 4, [some 89, none, none, none]), (100, 40, []), (9, 4, [some 91, none, none, none]), (100, 7, []), (3, 4, [some 93, some 95, some 97, none]), (9, 4, [some 94, none, none, none]), (100, 96, []), (9, 4, [some 96, none, none, none]), (100, 40, []), (9, 4, [some 98, none, none, none]), (100, 7, []), (10, 7, [some 100, some 101, none, none, none, none, none]), (100, 400, []), (9, 4, [some 102, none, none, none]), (100, 1203, []), (6, 12, [some 99, some 104, some 106, none, none, some 108, none, none, none, none, none, none]), (9, 4, [some 105, none, none, none]), (100, 64, []), (9, 4, [some 107, none, none, none]), (100, 800, []), (9, 4, [some 109, none, none, none]), (100, 400, []), (2, 3, [some 2, some 111, some 112]), (100, 10, []), (100, 22, []), (8, 7, [some 2, some 110, some 114, some 115, none, none, none]), (100, 12, []), (100, 12, []), (0, 7, [some 2, some 110, some 113, some 117, some 119, none, none]), (9, 4, [some 118, none, none, none]), (100, 60, []), (9, 4, [some 120, none, none, none]), (100, 5, [])]
def S_249 : List SE := [(11, 13, [some 2, some 25, none, some 48, some 92, some 99, some 103, some 110, some 113, some 116, none, none, some 1]), (100, 12, []), (1, 11, [some 3, some 5, some 7, some 9, some 11, some 13, some 15, some 17, some 19, some 21, some 23]), (9, 4, [some 4, none, none, none]), (100, 96, []), (9, 4, [some 6, none, none, none]), (100, 40, []), (9, 4, [some 8, none, none, none]), (100, 7, []), (9, 4, [some 10, none, none, none]), (100, 600, []), (9, 4, [some 12, none, none, none]), (100, 64, []), (9, 4, [some 14, none, none, none]), (100, 800, []), (9, 4, [some 16, none, none, none]), (100, 64, []), (9, 4, [some 18, none, none, none]), (100, 64, []), (9, 4, [some 20, none, none, none]), (100, 64, []), (9, 4, [some 22, none, none, none]), (100, 16, []), (9, 4, [some 24, none, none, none]), (100, 10, []), (1, 11, [some 26, some 28, some 30, some 32, some 34, some 36, some 38, some 40, some 42, some 44, some 46]), (9, 4, [some 27, none, none, none]), (100, 96, []), (9, 4, [some 29, none, none, none]), (100, 40, []), (9, 4, [some 31, none, none, none]), (100, 7, []), (9, 4, [some 33, none, none, none]), (100, 600, []), (9, 4, [some 35, none, none, none]), (100, 64, []), (9, 4, [some 37, none, none, none]), (100, 800, []), (9, 4, [some 39, none, none, none]), (100, 64, []), (9, 4, [some 41, none, none, none]), (100, 64, []), (9, 4, [some 43, none, none, none]), (100, 64, []), (9, 4, [some 45, none, none, none]), (100, 16, []), (9, 4, [some 47, none, none, none]), (100, 10, []), (4, 3, [some 49, none, none]), (101, 6, [some 50, some 57, some 64, some 71, some 78, some 85]), (3, 4, [some 51, some 53, some 55, none]), (9, 4, [some 52, none, none, none]), (100, 96, []), (9, 4, [some 54, none, none, none]), (100, 40, []), (9, 4, [some 56, none, none, none]), (100, 7, []), (3, 4, [some 58, some 60, some 62, none]), (9, 4, [some 59, none, none, none]), (100, 96, []), (9, 4, [some 61, none, none, none]), (100, 40, []), (9, 4, [some 63, none, none, none]), (100, 7, []), (3, 4, [some 65, some 67, some 69, none]), (9, 4, [some 66, none, none, none]), (100, 96, []), (9, 4, [some 68, none, none, none]), (100, 40, []), (9, 4, [some 70, none, none, none]), (100, 7, []), (3, 4, [some 72, some 74, some 76, none]), (9, 4, [some 73, none, none, none]), (100, 96, []), (9, 4, [some 75, none, none, none]), (100, 40, []), (9, 4, [some 77, none, none, none]), (100, 7, []), (3, 4, [some 79, some 81, some 83, none]), (9, 4, [some 80, none, none, none]), (100, 96, []), (9, 4, [some 82, none, none, none]), (100, 40, []), (9, 4, [some 84, none, none, none]), (100, 7, []), (3, 4, [some 86, some 88, some 90, none]), (9, 4, [some 87, none, none, none]), (100, 96, []), (9, 4, [some 89, none, none, none]), (100, 40, []), (9, 4, [some 91, none, none, none]), (100, 7, []), (3, 4, [some 93, some 95, some 97, none]), (9, 4, [some 94, none, none, none]), (100, 96, []), (9, 4, [some 96, none, none, none]), (100, 40, []), (9, 4, [some 98, none, none, none]), (100, 7, []), (10, 7, [some 100, some 101, none, none, none, none, none]), (100, 400, []), (9, 4, [some 102, none, none, none]), (100, 1203, []), (6, 12, [some 99, some 104, some 106, none, none, some 108, none, none, none, none, none, none]), (9, 4, [some 105, none, none, none]), (100, 64, []), (9, 4, [some 107, none, none, none]), (100, 800, []), (9, 4, [some 109, none, none, none]), (100, 400, []), (2, 3, [some 2, some 111, some 112]), (100, 10, []), (100, 22, []), (8, 7, [some 2, some 110, some 114, some 115, none, none, none]), (100, 12, []), (100, 12, []), (0, 7, [some 2, some 110, some 113, some 117, some 119, none, none]), (9, 4, [some 118, none, none, none]), (100, 60, []), (9, 4, [some 120, none, none, none]), (100, 5, []), (7, 1, [none])]
def S_250 : List SE := [(11, 13, [some 2, some 25, none, some 48, some 92, some 99, some 103, some 110, some 113, some 116, none, none, some 1]), (100, 12, []), (1, 11, [some 3, some 5, some 7, some 9, some 11, some 13, some 15, some 17, some 19, some 21, some 23]), (9, 4, [some 4, none, none, none]), (100, 96, []), (9, 4, [some 6, none, none, none]), (100, 40, []), (9, 4, [some 8, none, none, none]), (100, 7, []), (9, 4, [some 10, none, none, none]), (100, 600, []), (9, 4, [some 12, none, none, none]), (100, 64, []), (9, 4, [some 14, none, none, none]), (100, 800, []), (9, 4, [some 16, none, none, none]), (100, 64, []), (9, 4, [some 18, none, none, none]), (100, 64, []), (9, 4, [some 20, none, none, none]), (100, 64, []), (9, 4, [some 22, none, none, none]), (100, 16, []), (9, 4, [some 24, none, none, none]), (100, 10, []), (1, 11, [some 26, some 28, some 30, some 32, some 34, some 36, some 38, some 40, some 42, some 44, some 46]), (9, 4, [some 27, none, none, none]), (100, 96, []), (9, 4, [some 29, none, none, none]), (100, 40, []), (9, 4, [some 31, none, none, none]), (100, 7, []), (9, 4, [some 33, none, none, none]), (100, 600, []), (9, 4, [some 35, none, none, none]), (100, 64, []), (9, 4, [some 37, none, none, none]), (100, 800, []), (9, 4, [some 39, none, none, none]), (100, 64, []), (9, 4, [some 41, none, none, none]), (100, 64, []), (9, 4, [some 43, none, none, none]), (100, 64, []), (9, 4, [some 45, none, none, none]), (100, 16, []), (9, 4, [some 47, none, none, none]), (100, 10, []), (4, 3, [some 49, none, none]), (101, 6, [some 50, some 57, some 64, some 71, some 78, some 85]), (3, 4, [some 51, some 53, some 55, none]), (9, 4, [some 52, none, none, none]), (100, 96, []), (9, 4, [some 54, none, none, none]), (100, 40, []), (9, 4, [some 56, none, none, none]), (100, 7, []), (3, 4, [some 58, some 60, some 62, none]), (9, 4, [some 59, none, none, none]), (100, 96, []), (9, 4, [some 61, none, none, none]), (100, 40, []), (9, 4, [some 63, none, none, none]), (100, 7, []), (3, 4, [some 65, some 67, some 69, none]), (9, 4, [some 66, none, none, none]), (100, 96, []), (9, 4, [some 68, none, none, none]), (100, 40, []), (9, 4, [some 70, none, none, none]), (100, 7, []), (3, 4, [some 72, some 74, some 76, none]), (9, 4, [some 73, none, none, none]), (100, 96, []), (9, 4, [some 75, none, none, none]), (100, 40, []), (9, 4, [some 77, none, none, none]), (100, 7, []), (3, 4, [some 79, some 81, some 83, none]), (9, 4, [some 80, none, none, none]), (100, 96, []), (9, 4, [some 82, none, none, none]), (100, 40, []), (9, 4, [some 84, none, none, none]), (100, 7, []), (3, 4, [some 86, some 88, some 90, none]), (9, 4, [some 87, none, none, none]), (100, 96, []), (9, 4, [some 89, none, none, none]), (100, 40, []), (9, 4, [some 91, none, none, none]), (100, 7, []), (3, 4, [some 93, some 95, some 97, none]), (9, 4, [some 94, none, none, none]), (100, 96, []), (9, 4, [some 96, none, none, none]), (100, 40, []), (9, 4, [some 98, none, none, none]), (100, 7, []), (10, 7, [some 100, some 101, none, none, none, none, none]), (100, 400, []), (9, 4, [some 102, none, none, none]), (100, 1203, []), (6, 12, [some 99, some 104, some 106, none, none, some 108, none, none, none, none, none, none]), (9, 4, [some 105, none, none, none]), (100, 64, []), (9, 4, [some 107, none, none, none]), (100, 800, []), (9, 4, [some 109, none, none, none]), (100, 400, []), (2, 3, [some 2, some 111, some 112]), (100, 10, []), (100, 22, []), (8, 7, [some 2, some 110, some 114, some 115, none, none, none]), (100, 12, []), (100, 12, []), (0, 7, [some 2, some 110, some 113, some 117, some 119, none, none]), (9, 4, [some 118, none, none, none]), (100, 60, []), (9, 4, [some 120, none, none, none]), (100, 5, []), (7, 1, [some 2])]
def S_251 : List SE := [(11, 13, [some 2, some 25, none, some 48, some 92, some 99, some 103, some 110, some 113, some 116, some 121, none, some 1]), (100, 12, []), (1, 11, [some 3, some 5, some 7, some 9, some 11, some 13, some 15, some 17, some 19, some 21, some 23]), (9, 4, [some 4, none, none, none]), (100, 96, []), (9, 4, [some 6, none, none, none]), (100, 40, []), (9, 4, [some 8, none, none, none]), (100, 7, []), (9, 4, [some 10, none, none, none]), (100, 600, []), (9, 4, [some 12, none, none, none]), (100, 64, []), (9, 4, [some 14, none, none, none]), (100, 800, []), (9, 4, [some 16, none, none, none]), (100, 64, []), (9, 4, [some 18, none, none, none]), (100, 64, []), (9, 4, [some 20, none, none, none]), (100, 64, []), (9, 4, [some 22, none, none, none]), (100, 16, []), (9, 4, [some 24, none, none, none]), (100, 10, []), (1, 11, [some 26, some 28, some 30, some 32, some 34, some 36, some 38, some 40, some 42, some 44, some 46]), (9, 4, [some 27, none, none, none]), (100, 96, []), (9, 4, [some 29, none, none, none]), (100, 40, []), (9, 4, [some 31, none, none, none]), (100, 7, []), (9, 4, [some 33, none, none, none]), (100, 600, []), (9, 4, [some 35, none, none, none]), (100, 64, []), (9, 4, [some 37, none, none, none]), (100, 800, []), (9, 4, [some 39, none, none, none]), (100, 64, []), (9, 4, [some 41, none, none, none]), (100, 64, []), (9, 4, [some 43, none, none, none]), (100, 64, []), (9, 4, [some 45, none, none, none]), (100, 16, []), (9, 4, [some 47, none, none, none]), (100, 10, []), (4, 3, [some 49, none, none]), (101, 6, [some 50, some 57, some 64, some 71, some 78, some 85]), (3, 4, [some 51, some 53, some 55, none]), (9, 4, [some 52, none, none, none]), (100, 96, []), (9, 4, [some 54, none, none, none]), (100, 40, []), (9, 4, [some 56, none, none, none]), (100, 7, []), (3, 4, [some 58, some 60, some 62, none]), (9, 4, [some 59, none, none, none]), (100, 96, []), (9, 4, [some 61, none, none, none]), (100, 40, []), (9, 4, [some 63, none, none, none]), (100, 7, []), (3, 4, [some 65, some 67, some 69, none]), (9, 4, [some 66, none, none, none]), (100, 96, []), (9, 4, [some 68, none, none, none]), (100, 40, []), (9, 4, [some 70, none, none, none]), (100, 7, []), (3, 4, [some 72, some 74, some 76, none]), (9, 4, [some 73, none, none, none]), (100, 96, []), (9, 4, [some 75, none, none, none]), (100, 40, []), (9, 4, [some 77, none, none, none]), (100, 7, []), (3, 4, [some 79, some 81, some 83, none]), (9, 4, [some 80, none, none, none]), (100, 96, []), (9, 4, [some 82, none, none, none]), (100, 40, []), (9, 4, [some 84, none, none, none]), (100, 7, []), (3, 4, [some 86, some 88, some 90, none]), (9, 4, [some 87, none, none, none]), (100, 96, []), (9, 4, [some 89, none, none, none]), (100, 40, []), (9, 4, [some 91, none, none, none]), (100, 7, []), (3, 4, [some 93, some 95, some 97, none]), (9, 4, [some 94, none, none, none]), (100, 96, []), (9, 4, [some 96, none, none, none]), (100, 40, []), (9, 4, [some 98, none, none, none]), (100, 7, []), (10, 7, [some 100, some 101, none, none, none, none, none]), (100, 400, []), (9, 4, [some 102, none, none, none]), (100, 1203, []), (6, 12, [some 99, some 104, some 106, none, none, some 108, none, none, none, none, none, none]), (9, 4, [some 105, none, none, none]), (100, 64, []), (9, 4, [some 107, none, none, none]), (100, 800, []), (9, 4, [some 109, none, none, none]), (100, 400, []), (2, 3, [some 2, some 111, some 112]), (100, 10, []), (100, 22, []), (8, 7, [some 2, some 110, some 114, some 115, none, none, none]), (100, 12, []), (100, 12, []), (0, 7, [some 2, some 110, some 113, some 117, some 119, none, none]), (9, 4, [some 118, none, none, none]), (100, 60, []), (9, 4, [some 120, none, none, none]), (100, 5, []), (7, 1, [some 2])]
def S_252 : List SE := [(11, 13, [some 2, some 25, none, some 48, some 92, some 99, some 103, some 110, some 113, some 116, some 121, none, some 1]), (100, 12, []), (1, 11, [some 3, some 5, some 7, some 9, some 11, some 13, some 15, some 17, some 19, some 21, some 23]), (9, 4, [some 4, none, none, none]), (100, 96, []), (9, 4, [some 6, none, none, none]), (100, 40, []), (9, 4, [some 8, none, none, none]), (100, 7, []), (9, 4, [some 10, none, none, none]), (100, 600, []), (9, 4, [some 12, none, none, none]), (100, 64, []), (9, 4, [some 14, none, none, none]), (100, 800, []), (9, 4, [some 16, none, none, none]), (100, 64, []), (9, 4, [some 18, none, none, none]), (100, 64, []), (9, 4, [some 20, none, none, none]), (100, 64, []), (9, 4, [some 22, none, none, none]), (100, 16, []), (9, 4, [some 24, none, none, none]), (100, 10, []), (1, 11, [some 26, some 28, some 30, some 32, some 34, some 36, some 38, some 40, some 42, some 44, some 46]), (9, 4, [some 27, none, none, none]), (100, 96, []), (9, 4, [some 29, none, none, none]), (100, 40, []), (9, 4, [some 31, none, none, none]), (100, 7, []), (9, 4, [some 33, none, none, none]), (100, 600, []), (9, 4, [some 35, none, none, none]), (100, 64, []), (9, 4, [some 37, none, none, none]), (100, 800, []), (9, 4, [some 39, none, none, none]), (100, 64, []), (9, 4, [some 41, none, none, none]), (100, 64, []), (9, 4, [some 43, none, none, none]), (100, 64, []), (9, 4, [some 45, none, none, none]), (100, 16, []), (9, 4, [some 47, none, none, none]), (100, 10, []), (4, 3, [some 49, none, none]), (101, 6, [some 50, some 57, some 64, some 71, some 78, some 85]), (3, 4, [some 51, some 53, some 55, none]), (9, 4, [some 52, none, none, none]), (100, 96, []), (9, 4, [some 54, none, none, none]), (100, 40, []), (9, 4, [some 56, none, none, none]), (100, 7, []), (3, 4, [some 58, some 60, some 62, none]), (9, 4, [some 59, none, none, none]), (100, 96, []), (9, 4, [some 61, none, none, none]), (100, 40, []), (9, 4, [some 63, none, none, none]), (100, 7, []), (3, 4, [some 65, some 67, some 69, none]), (9, 4, [some 66, none, none, none]), (100, 96, []), (9, 4, [some 68, none, none, none]), (100, 40, []), (9, 4, [some 70, none, none, none]), (100, 7, []), (3, 4, [some 72, some 74, some 76, none]), (9, 4, [some 73, none, none, none]), (100, 96, []), (9, 4, [some 75, none, none, none]), (100, 40, []), (9, 4, [some 77, none, none, none]), (100, 7, []), (3, 4, [some 79, some 81, some 83, none]), (9, 4, [some 80, none, none, none]), (100, 96, []), (9, 4, [some 82, none, none, none]), (100, 40, []), (9, 4, [some 84, none, none, none]), (100, 7, []), (3, 4, [some 86, some 88, some 90, none]), (9, 4, [some 87, none, none, none]), (100, 96, []), (9, 4, [some 89, none, none, none]), (100, 40, []), (9, 4, [some 91, none, none, none]), (100, 7, []), (3, 4, [some 93, some 95, some 97, none]), (9, 4, [some 94, none, none, none]), (100, 96, []), (9, 4, [some 96, none, none, none]), (100, 40, []), (9, 4, [some 98, none, none, none]), (100, 7, []), (10, 7, [some 100, some 101, none, none, none, none, none]), (100, 400, []), (9, 4, [some 102, none, none, none]), (100, 1203, []), (6, 12, [some 99, some 104, some 106, none, none, some 108, none, none, none, none, none, none]), (9, 4, [some 105, none, none, none]), (100, 64, []), (9, 4, [some 107, none, none, none]), (100, 800, []), (9, 4, [some 109, none, none, none]), (100, 400, []), (2, 3, [some 2, some 111, some 112]), (100, 10, []), (100, 22, []), (8, 7, [some 2, some 110, some 114, some 115, none, none, none]), (100, 12, []), (100, 12, []), (0, 7, [some 2, some 110, some 113, some 117, some 119, none, none]), (9, 4, [some 118, none, none, none]), (100, 60, []), (9, 4, [some 120, none, none, none]), (100, 5, []), (7, 1, [some 2]), (5, 1, [none])]
def S_253 : List SE := [(11, 13, [some 2, some 25, none, some 48, some 92, some 99, some 103, some 110, some 113, some 116, some 121, none, some 1]), (100, 12, []), (1, 11, [some 3, some 5, some 7, some 9, some 11, some 13, some 15, some 17, some 19, some 21, some 23]), (9, 4, [some 4, none, none, none]), (100, 96, []), (9, 4, [some 6, none, none, none]), (100, 40, []), (9, 4, [some 8, none, none, none]), (100, 7, []), (9, 4, [some 10, none, none, none]), (100, 600, []), (9, 4, [some 12, none, none, none]), (100, 64, []), (9, 4, [some 14, none, none, none]), (100, 800, []), (9, 4, [some 16, none, none, none]), (100, 64, []), (9, 4, [some 18, none, none, none]), (100, 64, []), (9, 4, [some 20, none, none, none]), (100, 64, []), (9, 4, [some 22, none, none, none]), (100, 16, []), (9, 4, [some 24, none, none, none]), (100, 10, []), (1, 11, [some 26, some 28, some 30, some 32, some 34, some 36, some 38, some 40, some 42, some 44, some 46]), (9, 4, [some 27, none, none, none]), (100, 96, []), (9, 4, [some 29, none, none, none]), (100, 40, []), (9, 4, [some 31, none, none, none]), (100, 7, []), (9, 4, [some 33, none, none, none]), (100, 600, []), (9, 4, [some 35, none, none, none]), (100, 64, []), (9, 4, [some 37, none, none, none]), (100, 800, []), (9, 4, [some 39, none, none, none]), (100, 64, []), (9, 4, [some 41, none, none, none]), (100, 64, []), (9, 4, [some 43, none, none, none]), (100, 64, []), (9, 4, [some 45, none, none, none]), (100, 16, []), (9, 4, [some 47, none, none, none]), (100, 10, []), (4, 3, [some 49, none, none]), (101, 6, [some 50, some 57, some 64, some 71, some 78, some 85]), (3, 4, [some 51, some 53, some 55, none]), (9, 4, [some 52, none, none, none]), (100, 96, []), (9, 4, [some 54, none, none, none]), (100, 40, []), (9, 4, [some 56, none, none, none]), (100, 7, []), (3, 4, [some 58, some 60, some 62, none]), (9, 4, [some 59, none, none, none]), (100, 96, []), (9, 4, [some 61, none, none, none]), (100, 40, []), (9, 4, [some 63, none, none, none]), (100, 7, []), (3, 4, [some 65, some 67, some 69, none]), (9, 4, [some 66, none, none, none]), (100, 96, []), (9, 4, [some 68, none, none, none]), (100, 40, []), (9, 4, [some 70, none, none, none]), (100, 7, []), (3, 4, [some 72, some 74, some 76, none]), (9, 4, [some 73, none, none, none]), (100, 96, []), (9, 4, [some 75, none, none, none]), (100, 40, []), (9, 4, [some 77, none, none, none]), (100, 7, []), (3, 4, [some 79, some 81, some 83, none]), (9, 4, [some 80, none, none, none]), (100, 96, []), (9, 4, [some 82, none, none, none]), (100, 40, []), (9, 4, [some 84, none, none, none]), (100, 7, []), (3, 4, [some 86, some 88, some 90, none]), (9, 4, [some 87, none, none, none]), (100, 96, []), (9, 4, [some 89, none, none, none]), (100, 40, []), (9, 4, [some 91, none, none, none]), (100, 7, []), (3, 4, [some 93, some 95, some 97, none]), (9, 4, [some 94, none, none, none]), (100, 96, []), (9, 4, [some 96, none, none, none]), (100, 40, []), (9, 4, [some 98, none, none, none]), (100, 7, []), (10, 7, [some 100, some 101, none, none, none, none, none]), (100, 400, []), (9, 4, [some 102, none, none, none]), (100, 1203, []), (6, 12, [some 99, some 104, some 106, none, none, some 108, none, none, none, none, none, none]), (9, 4, [some 105, none, none, none]), (100, 64, []), (9, 4, [some 107, none, none, none]), (100, 800, []), (9, 4, [some 109, none, none, none]), (100, 400, []), (2, 3, [some 2, some 111, some 112]), (100, 10, []), (100, 22, []), (8, 7, [some 2, some 110, some 114, some 115, none, none, none]), (100, 12, []), (100, 12, []), (0, 7, [some 2, some 110, some 113, some 117, some 119, none, none]), (9, 4, [some 118, none, none, none]), (100, 60, []), (9, 4, [some 120, none, none, none]), (100, 5, []), (7, 1, [some 2]), (5, 1, [some 2])]
def S_254 : List SE := [(11, 13, [some 2, some 25, none, some 48, some 92, some 99, some 103, some 110, some 113, some 116, some 121, some 122, some 1]), (100, 12, []), (1, 11, [some 3, some 5, some 7, some 9, some 11, some 13, some 15, some 17, some 19, some 21, some 23]), (9, 4, [some 4, none, none, none]), (100, 96, []), (9, 4, [some 6, none, none, none]), (100, 40, []), (9, 4, [some 8, none, none, none]), (100, 7, []), (9, 4, [some 10, none, none, none]), (100, 600, []), (9, 4, [some 12, none, none, none]), (100, 64, []), (9, 4, [some 14, none, none, none]), (100, 800, []), (9, 4, [some 16, none, none, none]), (100, 64, []), (9, 4, [some 18, none, none, none]), (100, 64, []), (9, 4, [some 20, none, none, none]), (100, 64, []), (9, 4, [some 22, none, none, none]), (100, 16, []), (9, 4, [some 24, none, none, none]), (100, 10, []), (1, 11, [some 26, some 28, some 30, some 32, some 34, some 36, some 38, some 40, some 42, some 44, some 46]), (9, 4, [some 27, none, none, none]), (100, 96, []), (9, 4, [some 29, none, none, none]), (100, 40, []), (9, 4, [some 31, none, none, none]), (100, 7, []), (9, 4, [some 33, none, none, none]), (100, 600, []), (9, 4, [some 35, none, none, none]), (100, 64, []), (9, 4, [some 37, none, none, none]), (100, 800, []), (9, 4, [some 39, none, none, none]), (100, 64, []), (9, 4, [some 41, none, none, none]), (100, 64, []), (9, 4, [some 43, none, none, none]), (100, 64, []), (9, 4, [some 45, none, none, none]), (100, 16, []), (9, 4, [some 47, none, none, none]), (100, 10, []), (4, 3, [some 49, none, none]), (101, 6, [some 50, some 57, some 64, some 71, some 78, some 85]), (3, 4, [some 51, some 53, some 55, none]), (9, 4, [some 52, none, none, none]), (100, 96, []), (9, 4, [some 54, none, none, none]), (100, 40, []), (9, 4, [some 56, none, none, none]), (100, 7, []), (3, 4, [some 58, some 60, some 62, none]), (9, 4, [some 59, none, none, none]), (100, 96, []), (9, 4, [some 61, none, none, none]), (100, 40, []), (9, 4, [some 63, none, none, none]), (100, 7, []), (3, 4, [some 65, some 67, some 69, none]), (9, 4, [some 66, none, none, none]), (100, 96, []), (9, 4, [some 68, none, none, none]), (100, 40, []), (9, 4, [some 70, none, none, none]), (100, 7, []), (3, 4, [some 72, some 74, some 76, none]), (9, 4, [some 73, none, none, none]), (100, 96, []), (9, 4, [some 75, none, none, none]), (100, 40, []), (9, 4, [some 77, none, none, none]), (100, 7, []), (3, 4, [some 79, some 81, some 83, none]), (9, 4, [some 80, none, none, none]), (100, 96, []), (9, 4, [some 82, none, none, none]), (100, 40, []), (9, 4, [some 84, none, none, none]), (100, 7, []), (3, 4, [some 86, some 88, some 90, none]), (9, 4, [some 87, none, none, none]), (100, 96, []), (9, 4, [some 89, none, none, none]), (100, 40, []), (9, 4, [some 91, none, none, none]), (100, 7, []), (3, 4, [some 93, some 95, some 97, none]), (9, 4, [some 94, none, none, none]), (100, 96, []), (9, 4, [some 96, none, none, none]), (100, 40, []), (9, 4, [some 98, none, none, none]), (100, 7, []), (10, 7, [some 100, some 101, none, none, none, none, none]), (100, 400, []), (9, 4, [some 102, none, none, none]), (100, 1203, []), (6, 12, [some 99, some 104, some 106, none, none, some 108, none, none, none, none, none, none]), (9, 4, [some 105, none, none, none]), (100, 64, []), (9, 4, [some 107, none, none, none]), (100, 800, []), (9, 4, [some 109, none, none, none]), (100, 400, []), (2, 3, [some 2, some 111, some 112]), (100, 10, []), (100, 22, []), (8, 7, [some 2, some 110, some 114, some 115, none, none, none]), (100, 12, []), (100, 12, []), (0, 7, [some 2, some 110, some 113, some 117, some 119, none, none]), (9, 4, [some 118, none, none, none]), (100, 60, []), (9, 4, [some 120, none, none, none]), (100, 5, []), (7, 1, [some 2]), (5, 1, [some 2])]
def fg_X9_add_L54 (N : Nat) (this cc nn : Nat) (a1 : Int32) (a2 : Int32) (a3 : Int32) (a4 : Int32) (a5_9 : Int32)  (X : Int32 → Mem → Ans) (s6_54 : Int32) (m : Mem) : Ans :=
if (m this 2) ≤ s6_54 then (bnd (mset m this 3 ((m this 3) + (1 : Int32))) fun m_140 =>
some (1, m_140))
else (if (Int32.ofNat nn) ≤ (a5_9 + s6_54) then (bnd (mset m this 3 ((m this 3) + (1 : Int32))) fun m_140 =>
some (1, m_140))
else (if s6_54 = 0 then (chk (inb (a5_9 + s6_54) nn) <|
bnd (mset m cc (a5_9 + s6_54).toNatClampNeg a1) fun m_126 =>
X (s6_54 + 1) m_126)
else (if s6_54 = (1 : Int32) then (chk (inb (a5_9 + s6_54) nn) <|
bnd (mset m cc (a5_9 + s6_54).toNatClampNeg a2) fun m_126 =>
X (s6_54 + 1) m_126)
else (if s6_54 = (2 : Int32) then (chk (inb (a5_9 + s6_54) nn) <|
bnd (mset m cc (a5_9 + s6_54).toNatClampNeg a3) fun m_126 =>
X (s6_54 + 1) m_126)
else (if s6_54 = (3 : Int32) then (chk (inb (a5_9 + s6_54) nn) <|
bnd (mset m cc (a5_9 + s6_54).toNatClampNeg a4) fun m_126 =>
X (s6_54 + 1) m_126)
else (chk (inb (a5_9 + s6_54) nn) <|
bnd (mset m cc (a5_9 + s6_54).toNatClampNeg 0) fun m_126 =>
X (s6_54 + 1) m_126))))))

def fg_X9_add (N : Nat) (this cc nn : Nat) (a1 : Int32) (a2 : Int32) (a3 : Int32) (a4 : Int32) (m : Mem) : Ans :=
bnd ((m this 3) * (m this 2)) fun a5_9 =>
if (m this 3) < 0 then (some (0, m))
else (if (m this 1) ≤ (m this 3) then (some (0, m))
else (if a5_9 < 0 then (some (0, m))
else (if a5_9 ≤ ((Int32.ofNat nn) - (m this 2)) then (it1 (fg_X9_add_L54 N this cc nn a1 a2 a3 a4 a5_9 ) N 0 m)
else (some (0, m)))))

set_option maxRecDepth 100000 in
set_option maxHeartbeats 4000000 in
theorem okg_X9_add_L54 (N d : Nat) (Sh : List SE) (this cc nn : Nat) (a1 : Int32) (a2 : Int32) (a3 : Int32) (a4 : Int32) (hT : Sh[this]? = some (9, 4, [some cc, none, none, none])) (hA : Sh[cc]? = some (100, nn, [])) (a5_9 : Int32)  : ∀ (n : Nat) (s6_54 : Int32) (m : Mem), Ok SX Sh (d + 0) m_X9_add 54 [some (.ref this), some (.int a1), some (.int a2), some (.int a3), some (.int a4), some (.int a5_9), some (.int s6_54)] [] Sh m (it1 (fg_X9_add_L54 N this cc nn a1 a2 a3 a4 a5_9) n s6_54 m) :=
  ok_it1 (fun s6_54 => [some (.ref this), some (.int a1), some (.int a2), some (.int a3), some (.int a4), some (.int a5_9), some (.int s6_54)]) (fun X hX s6_54 m => by
    try unfold fg_X9_add_L54
    refine ok_iload 56 6 dX9_add_54 rfl rfl ?_
    refine ok_aload_n 57 0 dX9_add_56 rfl rfl rfl ?_
    refine ok_getI 60 dX9_add_57 rfl rfl F_Encores_Table_21 hT rfl (Nat.le_of_ble_eq_true rfl) rfl ?_
    refine ok_icmp_ge 133 63 dX9_add_60 (by decide) rfl (fun _ => ?_) (fun _ => ?_)
    · refine ok_aload_n 134 0 dX9_add_133 rfl rfl rfl ?_
      refine ok_dup 135 dX9_add_134 rfl rfl ?_
      refine ok_getI 138 dX9_add_135 rfl rfl F_Encores_Table_28 hT rfl (Nat.le_of_ble_eq_true rfl) rfl ?_
      refine ok_iconst 139 1 dX9_add_138 rfl rfl ?_
      refine ok_iadd 140 dX9_add_139 rfl ?_
      refine ok_putI 143 dX9_add_140 rfl rfl F_Encores_Table_28 hT rfl (Nat.le_of_ble_eq_true rfl) rfl rfl pZ_9_3 rfl rfl ?_
      refine ok_bndM (fun m_140 => ?_)
      refine ok_iconst 144 1 dX9_add_143 rfl rfl ?_
      exact ok_zretc dX9_add_144 rfl rfl
    · refine ok_iload 65 5 dX9_add_63 rfl rfl ?_
      refine ok_iload 67 6 dX9_add_65 rfl rfl ?_
      refine ok_iadd 68 dX9_add_67 rfl ?_
      refine ok_aload_n 69 0 dX9_add_68 rfl rfl rfl ?_
      refine ok_getR 72 dX9_add_69 rfl rfl F_Encores_Table_24 hT rfl (Nat.le_of_ble_eq_true rfl) rfl rfl ?_
      refine ok_alen 73 dX9_add_72 rfl hA ?_
      refine ok_icmp_ge 133 76 dX9_add_73 (by decide) rfl (fun _ => ?_) (fun _ => ?_)
      · refine ok_aload_n 134 0 dX9_add_133 rfl rfl rfl ?_
        refine ok_dup 135 dX9_add_134 rfl rfl ?_
        refine ok_getI 138 dX9_add_135 rfl rfl F_Encores_Table_28 hT rfl (Nat.le_of_ble_eq_true rfl) rfl ?_
        refine ok_iconst 139 1 dX9_add_138 rfl rfl ?_
        refine ok_iadd 140 dX9_add_139 rfl ?_
        refine ok_putI 143 dX9_add_140 rfl rfl F_Encores_Table_28 hT rfl (Nat.le_of_ble_eq_true rfl) rfl rfl pZ_9_3 rfl rfl ?_
        refine ok_bndM (fun m_140 => ?_)
        refine ok_iconst 144 1 dX9_add_143 rfl rfl ?_
        exact ok_zretc dX9_add_144 rfl rfl
      · refine ok_aload_n 77 0 dX9_add_76 rfl rfl rfl ?_
        refine ok_getR 80 dX9_add_77 rfl rfl F_Encores_Table_24 hT rfl (Nat.le_of_ble_eq_true rfl) rfl rfl ?_
        refine ok_iload 82 5 dX9_add_80 rfl rfl ?_
        refine ok_iload 84 6 dX9_add_82 rfl rfl ?_
        refine ok_iadd 85 dX9_add_84 rfl ?_
        refine ok_iload 87 6 dX9_add_85 rfl rfl ?_
        refine ok_if_ne 94 90 dX9_add_87 (by decide) rfl (fun _ => ?_) (fun _ => ?_)
        · refine ok_iload 96 6 dX9_add_94 rfl rfl ?_
          refine ok_iconst 97 1 dX9_add_96 rfl rfl ?_
          refine ok_icmp_ne 104 100 dX9_add_97 (by decide) rfl (fun _ => ?_) (fun _ => ?_)
          · refine ok_iload 106 6 dX9_add_104 rfl rfl ?_
            refine ok_iconst 107 2 dX9_add_106 rfl rfl ?_
            refine ok_icmp_ne 114 110 dX9_add_107 (by decide) rfl (fun _ => ?_) (fun _ => ?_)
            · refine ok_iload 116 6 dX9_add_114 rfl rfl ?_
              refine ok_iconst 117 3 dX9_add_116 rfl rfl ?_
              refine ok_icmp_ne 125 120 dX9_add_117 (by decide) rfl (fun _ => ?_) (fun _ => ?_)
              · refine ok_iconst 126 0 dX9_add_125 rfl rfl ?_
                refine ok_iast 127 dX9_add_126 rfl hA ?_
                refine ok_bndM (fun m_126 => ?_)
                refine ok_iinc 130 6 1 [some (.ref this), some (.int a1), some (.int a2), some (.int a3), some (.int a4), some (.int a5_9), some (.int (s6_54 + 1))] dX9_add_127 rfl rfl rfl (by decide) rfl ?_
                refine ok_goto 54 dX9_add_130 (by decide) ?_
                exact ok_less [some (.ref this), some (.int a1), some (.int a2), some (.int a3), some (.int a4), some (.int a5_9), some (.int (s6_54 + 1))] (And.intro rfl (And.intro rfl (And.intro rfl (And.intro rfl (And.intro rfl (And.intro rfl (And.intro rfl (trivial)))))))) (hX (s6_54 + 1) m_126)
              · refine ok_iload 122 4 dX9_add_120 rfl rfl ?_
                refine ok_goto 126 dX9_add_122 (by decide) ?_
                refine ok_iast 127 dX9_add_126 rfl hA ?_
                refine ok_bndM (fun m_126 => ?_)
                refine ok_iinc 130 6 1 [some (.ref this), some (.int a1), some (.int a2), some (.int a3), some (.int a4), some (.int a5_9), some (.int (s6_54 + 1))] dX9_add_127 rfl rfl rfl (by decide) rfl ?_
                refine ok_goto 54 dX9_add_130 (by decide) ?_
                exact ok_less [some (.ref this), some (.int a1), some (.int a2), some (.int a3), some (.int a4), some (.int a5_9), some (.int (s6_54 + 1))] (And.intro rfl (And.intro rfl (And.intro rfl (And.intro rfl (And.intro rfl (And.intro rfl (And.intro rfl (trivial)))))))) (hX (s6_54 + 1) m_126)
            · refine ok_iload_n 111 3 dX9_add_110 rfl rfl rfl ?_
              refine ok_goto 126 dX9_add_111 (by decide) ?_
              refine ok_iast 127 dX9_add_126 rfl hA ?_
              refine ok_bndM (fun m_126 => ?_)
              refine ok_iinc 130 6 1 [some (.ref this), some (.int a1), some (.int a2), some (.int a3), some (.int a4), some (.int a5_9), some (.int (s6_54 + 1))] dX9_add_127 rfl rfl rfl (by decide) rfl ?_
              refine ok_goto 54 dX9_add_130 (by decide) ?_
              exact ok_less [some (.ref this), some (.int a1), some (.int a2), some (.int a3), some (.int a4), some (.int a5_9), some (.int (s6_54 + 1))] (And.intro rfl (And.intro rfl (And.intro rfl (And.intro rfl (And.intro rfl (And.intro rfl (And.intro rfl (trivial)))))))) (hX (s6_54 + 1) m_126)
          · refine ok_iload_n 101 2 dX9_add_100 rfl rfl rfl ?_
            refine ok_goto 126 dX9_add_101 (by decide) ?_
            refine ok_iast 127 dX9_add_126 rfl hA ?_
            refine ok_bndM (fun m_126 => ?_)
            refine ok_iinc 130 6 1 [some (.ref this), some (.int a1), some (.int a2), some (.int a3), some (.int a4), some (.int a5_9), some (.int (s6_54 + 1))] dX9_add_127 rfl rfl rfl (by decide) rfl ?_
            refine ok_goto 54 dX9_add_130 (by decide) ?_
            exact ok_less [some (.ref this), some (.int a1), some (.int a2), some (.int a3), some (.int a4), some (.int a5_9), some (.int (s6_54 + 1))] (And.intro rfl (And.intro rfl (And.intro rfl (And.intro rfl (And.intro rfl (And.intro rfl (And.intro rfl (trivial)))))))) (hX (s6_54 + 1) m_126)
        · refine ok_iload_n 91 1 dX9_add_90 rfl rfl rfl ?_
          refine ok_goto 126 dX9_add_91 (by decide) ?_
          refine ok_iast 127 dX9_add_126 rfl hA ?_
          refine ok_bndM (fun m_126 => ?_)
          refine ok_iinc 130 6 1 [some (.ref this), some (.int a1), some (.int a2), some (.int a3), some (.int a4), some (.int a5_9), some (.int (s6_54 + 1))] dX9_add_127 rfl rfl rfl (by decide) rfl ?_
          refine ok_goto 54 dX9_add_130 (by decide) ?_
          exact ok_less [some (.ref this), some (.int a1), some (.int a2), some (.int a3), some (.int a4), some (.int a5_9), some (.int (s6_54 + 1))] (And.intro rfl (And.intro rfl (And.intro rfl (And.intro rfl (And.intro rfl (And.intro rfl (And.intro rfl (trivial)))))))) (hX (s6_54 + 1) m_126))

set_option maxRecDepth 100000 in
set_option maxHeartbeats 4000000 in
theorem okg_X9_add (N d : Nat) (Sh : List SE) (this cc nn : Nat) (a1 : Int32) (a2 : Int32) (a3 : Int32) (a4 : Int32) (hT : Sh[this]? = some (9, 4, [some cc, none, none, none])) (hA : Sh[cc]? = some (100, nn, [])) (m : Mem) : Ok SX Sh (d + 0) m_X9_add 0 [some (.ref this), some (.int a1), some (.int a2), some (.int a3), some (.int a4), none, none] [] Sh m (fg_X9_add N this cc nn a1 a2 a3 a4 m) := by
  unfold fg_X9_add
  refine ok_aload_n 1 0 dX9_add_0 rfl rfl rfl ?_
  refine ok_getI 4 dX9_add_1 rfl rfl F_Encores_Table_28 hT rfl (Nat.le_of_ble_eq_true rfl) rfl ?_
  refine ok_aload_n 5 0 dX9_add_4 rfl rfl rfl ?_
  refine ok_getI 8 dX9_add_5 rfl rfl F_Encores_Table_21 hT rfl (Nat.le_of_ble_eq_true rfl) rfl ?_
  refine ok_imul 9 dX9_add_8 rfl ?_
  refine ok_bndI (fun a5_9 => ?_)
  refine ok_istore 11 5 [some (.ref this), some (.int a1), some (.int a2), some (.int a3), some (.int a4), some (.int a5_9), none] dX9_add_9 rfl (by decide) rfl ?_
  refine ok_aload_n 12 0 dX9_add_11 rfl rfl rfl ?_
  refine ok_getI 15 dX9_add_12 rfl rfl F_Encores_Table_28 hT rfl (Nat.le_of_ble_eq_true rfl) rfl ?_
  refine ok_if_lt 49 18 dX9_add_15 (by decide) rfl (fun _ => ?_) (fun _ => ?_)
  · refine ok_iconst 50 0 dX9_add_49 rfl rfl ?_
    exact ok_zretc dX9_add_50 rfl rfl
  · refine ok_aload_n 19 0 dX9_add_18 rfl rfl rfl ?_
    refine ok_getI 22 dX9_add_19 rfl rfl F_Encores_Table_28 hT rfl (Nat.le_of_ble_eq_true rfl) rfl ?_
    refine ok_aload_n 23 0 dX9_add_22 rfl rfl rfl ?_
    refine ok_getI 26 dX9_add_23 rfl rfl F_Encores_Table_15 hT rfl (Nat.le_of_ble_eq_true rfl) rfl ?_
    refine ok_icmp_ge 49 29 dX9_add_26 (by decide) rfl (fun _ => ?_) (fun _ => ?_)
    · refine ok_iconst 50 0 dX9_add_49 rfl rfl ?_
      exact ok_zretc dX9_add_50 rfl rfl
    · refine ok_iload 31 5 dX9_add_29 rfl rfl ?_
      refine ok_if_lt 49 34 dX9_add_31 (by decide) rfl (fun _ => ?_) (fun _ => ?_)
      · refine ok_iconst 50 0 dX9_add_49 rfl rfl ?_
        exact ok_zretc dX9_add_50 rfl rfl
      · refine ok_iload 36 5 dX9_add_34 rfl rfl ?_
        refine ok_aload_n 37 0 dX9_add_36 rfl rfl rfl ?_
        refine ok_getR 40 dX9_add_37 rfl rfl F_Encores_Table_24 hT rfl (Nat.le_of_ble_eq_true rfl) rfl rfl ?_
        refine ok_alen 41 dX9_add_40 rfl hA ?_
        refine ok_aload_n 42 0 dX9_add_41 rfl rfl rfl ?_
        refine ok_getI 45 dX9_add_42 rfl rfl F_Encores_Table_21 hT rfl (Nat.le_of_ble_eq_true rfl) rfl ?_
        refine ok_isub 46 dX9_add_45 rfl ?_
        refine ok_icmp_le 51 49 dX9_add_46 (by decide) rfl (fun _ => ?_) (fun _ => ?_)
        · refine ok_iconst 52 0 dX9_add_51 rfl rfl ?_
          refine ok_istore 54 6 [some (.ref this), some (.int a1), some (.int a2), some (.int a3), some (.int a4), some (.int a5_9), some (.int 0)] dX9_add_52 rfl (by decide) rfl ?_
          refine ok_less [some (.ref this), some (.int a1), some (.int a2), some (.int a3), some (.int a4), some (.int a5_9), some (.int 0)] (And.intro rfl (And.intro rfl (And.intro rfl (And.intro rfl (And.intro rfl (And.intro rfl (And.intro rfl (trivial)))))))) ?_
          exact okg_X9_add_L54 N d Sh this cc nn a1 a2 a3 a4 hT hA a5_9   N 0 m
        · refine ok_iconst 50 0 dX9_add_49 rfl rfl ?_
          exact ok_zretc dX9_add_50 rfl rfl

theorem cg_X9_add (N d : Nat) (Sh : List SE) (this cc nn : Nat) (a1 : Int32) (a2 : Int32) (a3 : Int32) (a4 : Int32) (hT : Sh[this]? = some (9, 4, [some cc, none, none, none])) (hA : Sh[cc]? = some (100, nn, [])) (m : Mem) : CM SX (d + 0) m_X9_add Sh Sh [.ref this, .int a1, .int a2, .int a3, .int a4] m (fg_X9_add N this cc nn a1 a2 a3 a4 m) :=
  CM.ofOk km_X9_add ⟨Nat.le_refl _, Nat.le_refl _⟩ (by simp [Value.category]) (Nat.le_of_ble_eq_true rfl) (okg_X9_add N d Sh this cc nn a1 a2 a3 a4 hT hA m)

def fg_X9_put (N : Nat) (this cc nn : Nat) (a1 : Int32) (a2 : Int32) (a3 : Int32) (m : Mem) : Ans :=
if a1 < 0 then (some (0, m))
else (if (m this 3) ≤ a1 then (some (0, m))
else (if a2 < 0 then (some (0, m))
else (if a2 < (m this 2) then (bnd ((a1 * (m this 2)) + a2) fun a4_33 =>
if a4_33 < 0 then (some (0, m))
else (if (Int32.ofNat nn) ≤ a4_33 then (some (0, m))
else (chk (inb a4_33 nn) <|
bnd (mset m cc a4_33.toNatClampNeg a3) fun m_57 =>
some (0, m_57))))
else (some (0, m)))))

set_option maxRecDepth 100000 in
set_option maxHeartbeats 4000000 in
theorem okg_X9_put (N d : Nat) (Sh : List SE) (this cc nn : Nat) (a1 : Int32) (a2 : Int32) (a3 : Int32) (hT : Sh[this]? = some (9, 4, [some cc, none, none, none])) (hA : Sh[cc]? = some (100, nn, [])) (m : Mem) : Ok SX Sh (d + 0) m_X9_put 0 [some (.ref this), some (.int a1), some (.int a2), some (.int a3), none] [] Sh m (fg_X9_put N this cc nn a1 a2 a3 m) := by
  unfold fg_X9_put
  refine ok_iload_n 1 1 dX9_put_0 rfl rfl rfl ?_
  refine ok_if_lt 24 4 dX9_put_1 (by decide) rfl (fun _ => ?_) (fun _ => ?_)
  · exact ok_vret dX9_put_24 rfl
  · refine ok_iload_n 5 1 dX9_put_4 rfl rfl rfl ?_
    refine ok_aload_n 6 0 dX9_put_5 rfl rfl rfl ?_
    refine ok_getI 9 dX9_put_6 rfl rfl F_Encores_Table_28 hT rfl (Nat.le_of_ble_eq_true rfl) rfl ?_
    refine ok_icmp_ge 24 12 dX9_put_9 (by decide) rfl (fun _ => ?_) (fun _ => ?_)
    · exact ok_vret dX9_put_24 rfl
    · refine ok_iload_n 13 2 dX9_put_12 rfl rfl rfl ?_
      refine ok_if_lt 24 16 dX9_put_13 (by decide) rfl (fun _ => ?_) (fun _ => ?_)
      · exact ok_vret dX9_put_24 rfl
      · refine ok_iload_n 17 2 dX9_put_16 rfl rfl rfl ?_
        refine ok_aload_n 18 0 dX9_put_17 rfl rfl rfl ?_
        refine ok_getI 21 dX9_put_18 rfl rfl F_Encores_Table_21 hT rfl (Nat.le_of_ble_eq_true rfl) rfl ?_
        refine ok_icmp_lt 25 24 dX9_put_21 (by decide) rfl (fun _ => ?_) (fun _ => ?_)
        · refine ok_iload_n 26 1 dX9_put_25 rfl rfl rfl ?_
          refine ok_aload_n 27 0 dX9_put_26 rfl rfl rfl ?_
          refine ok_getI 30 dX9_put_27 rfl rfl F_Encores_Table_21 hT rfl (Nat.le_of_ble_eq_true rfl) rfl ?_
          refine ok_imul 31 dX9_put_30 rfl ?_
          refine ok_iload_n 32 2 dX9_put_31 rfl rfl rfl ?_
          refine ok_iadd 33 dX9_put_32 rfl ?_
          refine ok_bndI (fun a4_33 => ?_)
          refine ok_istore 35 4 [some (.ref this), some (.int a1), some (.int a2), some (.int a3), some (.int a4_33)] dX9_put_33 rfl (by decide) rfl ?_
          refine ok_iload 37 4 dX9_put_35 rfl rfl ?_
          refine ok_if_lt 58 40 dX9_put_37 (by decide) rfl (fun _ => ?_) (fun _ => ?_)
          · exact ok_vret dX9_put_58 rfl
          · refine ok_iload 42 4 dX9_put_40 rfl rfl ?_
            refine ok_aload_n 43 0 dX9_put_42 rfl rfl rfl ?_
            refine ok_getR 46 dX9_put_43 rfl rfl F_Encores_Table_24 hT rfl (Nat.le_of_ble_eq_true rfl) rfl rfl ?_
            refine ok_alen 47 dX9_put_46 rfl hA ?_
            refine ok_icmp_ge 58 50 dX9_put_47 (by decide) rfl (fun _ => ?_) (fun _ => ?_)
            · exact ok_vret dX9_put_58 rfl
            · refine ok_aload_n 51 0 dX9_put_50 rfl rfl rfl ?_
              refine ok_getR 54 dX9_put_51 rfl rfl F_Encores_Table_24 hT rfl (Nat.le_of_ble_eq_true rfl) rfl rfl ?_
              refine ok_iload 56 4 dX9_put_54 rfl rfl ?_
              refine ok_iload_n 57 3 dX9_put_56 rfl rfl rfl ?_
              refine ok_iast 58 dX9_put_57 rfl hA ?_
              refine ok_bndM (fun m_57 => ?_)
              exact ok_vret dX9_put_58 rfl
        · exact ok_vret dX9_put_24 rfl

theorem cg_X9_put (N d : Nat) (Sh : List SE) (this cc nn : Nat) (a1 : Int32) (a2 : Int32) (a3 : Int32) (hT : Sh[this]? = some (9, 4, [some cc, none, none, none])) (hA : Sh[cc]? = some (100, nn, [])) (m : Mem) : CM SX (d + 0) m_X9_put Sh Sh [.ref this, .int a1, .int a2, .int a3] m (fg_X9_put N this cc nn a1 a2 a3 m) :=
  CM.ofOk km_X9_put ⟨Nat.le_refl _, Nat.le_refl _⟩ (by simp [Value.category]) (Nat.le_of_ble_eq_true rfl) (okg_X9_put N d Sh this cc nn a1 a2 a3 hT hA m)

def gi_2 (m : Mem) : Ans :=
bnd (mset m 3 1 12) fun m_10_7 =>
bnd (mset m_10_7 3 2 8) fun m_19_12 =>
bnd (mnew m_19_12 4) fun m_36_21 =>
bnd (mset m_36_21 3 3 0) fun m_43_25 =>
some (0, m_43_25)
set_option maxRecDepth 100000 in
set_option maxHeartbeats 8000000 in
theorem oi_2 (d : Nat) (m : Mem) : Ok SX S_7 (d + 1) m_X9_init 0 [some (.ref 3), some (.int 12), some (.int 8)] [] S_5 m (gi_2 m) := by
  unfold gi_2
  refine ok_aload_n 1 0 dX9_init_0 rfl rfl rfl ?_
  refine ok_objInit 4 (by decide +kernel) dX9_init_1 rfl rfl ml_Encores_Table_3 (Nat.le_of_ble_eq_true rfl) ?_
  refine ok_aload_n 5 0 dX9_init_4 rfl rfl rfl ?_
  refine ok_iconst 6 0 dX9_init_5 rfl rfl ?_
  refine ok_iload_n 7 1 dX9_init_6 rfl rfl rfl ?_
  refine ok_max 10 (by decide +kernel) dX9_init_7 rfl rfl ml_Encores_Table_9 (Nat.le_of_ble_eq_true rfl) ?_
  rw [show (if (0 : Int32) < 12 then (12 : Int32) else 0) = 12 by decide]
  refine ok_putF 13 dX9_init_10 rfl rfl rfl rfl F_Encores_Table_15 (show S_5[3]? = some (9, 4, [none, none, none, none]) from rfl) rfl (Nat.le_of_ble_eq_true rfl) rfl rfl pZ_9_1 rfl rfl ?_
  refine ok_bndME (fun m_10_7 hm_m_10_7 => ?_)
  refine ok_aload_n 14 0 dX9_init_13 rfl rfl rfl ?_
  refine ok_iconst 15 1 dX9_init_14 rfl rfl ?_
  refine ok_iload_n 16 2 dX9_init_15 rfl rfl rfl ?_
  refine ok_max 19 (by decide +kernel) dX9_init_16 rfl rfl ml_Encores_Table_9 (Nat.le_of_ble_eq_true rfl) ?_
  rw [show (if (1 : Int32) < 8 then (8 : Int32) else 1) = 8 by decide]
  refine ok_putF 22 dX9_init_19 rfl rfl rfl rfl F_Encores_Table_21 (show S_5[3]? = some (9, 4, [none, none, none, none]) from rfl) rfl (Nat.le_of_ble_eq_true rfl) rfl rfl pZ_9_2 rfl rfl ?_
  refine ok_bndME (fun m_19_12 hm_m_19_12 => ?_)
  refine ok_aload_n 23 0 dX9_init_22 rfl rfl rfl ?_
  refine ok_iconst 24 0 dX9_init_23 rfl rfl ?_
  refine ok_aload_n 25 0 dX9_init_24 rfl rfl rfl ?_
  refine ok_getI 28 dX9_init_25 rfl rfl F_Encores_Table_15 (show S_5[3]? = some (9, 4, [none, none, none, none]) from rfl) rfl (Nat.le_of_ble_eq_true rfl) rfl ?_
  rw [show m_19_12 3 1 = 12 by subst_vars; rfl]
  refine ok_aload_n 29 0 dX9_init_28 rfl rfl rfl ?_
  refine ok_getI 32 dX9_init_29 rfl rfl F_Encores_Table_21 (show S_5[3]? = some (9, 4, [none, none, none, none]) from rfl) rfl (Nat.le_of_ble_eq_true rfl) rfl ?_
  rw [show m_19_12 3 2 = 8 by subst_vars; rfl]
  refine ok_imul 33 dX9_init_32 rfl ?_
  rw [show (12 * 8 : Int32) = 96 by decide]
  refine ok_max 36 (by decide +kernel) dX9_init_33 rfl rfl ml_Encores_Table_9 (Nat.le_of_ble_eq_true rfl) ?_
  rw [show (if (0 : Int32) < 96 then (96 : Int32) else 0) = 96 by decide]
  refine ok_newa (N := 96) 38 dX9_init_36 rfl (by decide) (by decide) (by decide) (by decide +kernel) (by decide +kernel) rfl (by decide +kernel) ?_
  refine ok_shape (S2 := S_6) rfl ?_
  refine ok_bndME (fun m_36_21 hm_m_36_21 => ?_)
  show Ok _ _ _ _ _ _ (.ref 4 :: _) _ _ _
  refine ok_putFR 41 dX9_init_38 rfl rfl rfl rfl F_Encores_Table_24 (show S_6[3]? = some (9, 4, [none, none, none, none]) from rfl) (Nat.le_of_ble_eq_true rfl) (Nat.le_of_ble_eq_true rfl) rfl rfl pZ_9_0 (fun _ => rfl) (fun _ => rfl) ?_
  refine ok_shape (S2 := S_7) rfl ?_
  refine ok_aload_n 42 0 dX9_init_41 rfl rfl rfl ?_
  refine ok_iconst 43 0 dX9_init_42 rfl rfl ?_
  refine ok_putI 46 dX9_init_43 rfl rfl F_Encores_Table_28 (show S_7[3]? = some (9, 4, [some 4, none, none, none]) from rfl) rfl (Nat.le_of_ble_eq_true rfl) rfl rfl pZ_9_3 rfl rfl ?_
  refine ok_bndME (fun m_43_25 hm_m_43_25 => ?_)
  exact ok_vret dX9_init_46 rfl
theorem ci_2 (d : Nat) (m : Mem) : CM SX (d + 1) m_X9_init S_7 S_5 [.ref 3, .int 12, .int 8] m (gi_2 m) :=
  CM.ofOk km_X9_init (by decide +kernel) (by simp [Value.category]) (Nat.le_of_ble_eq_true rfl) (oi_2 d m)

def gi_3 (m : Mem) : Ans :=
bnd (mset m 5 1 8) fun m_10_7 =>
bnd (mset m_10_7 5 2 5) fun m_19_12 =>
bnd (mnew m_19_12 6) fun m_36_21 =>
bnd (mset m_36_21 5 3 0) fun m_43_25 =>
some (0, m_43_25)
set_option maxRecDepth 100000 in
set_option maxHeartbeats 8000000 in
theorem oi_3 (d : Nat) (m : Mem) : Ok SX S_11 (d + 1) m_X9_init 0 [some (.ref 5), some (.int 8), some (.int 5)] [] S_9 m (gi_3 m) := by
  unfold gi_3
  refine ok_aload_n 1 0 dX9_init_0 rfl rfl rfl ?_
  refine ok_objInit 4 (by decide +kernel) dX9_init_1 rfl rfl ml_Encores_Table_3 (Nat.le_of_ble_eq_true rfl) ?_
  refine ok_aload_n 5 0 dX9_init_4 rfl rfl rfl ?_
  refine ok_iconst 6 0 dX9_init_5 rfl rfl ?_
  refine ok_iload_n 7 1 dX9_init_6 rfl rfl rfl ?_
  refine ok_max 10 (by decide +kernel) dX9_init_7 rfl rfl ml_Encores_Table_9 (Nat.le_of_ble_eq_true rfl) ?_
  rw [show (if (0 : Int32) < 8 then (8 : Int32) else 0) = 8 by decide]
  refine ok_putF 13 dX9_init_10 rfl rfl rfl rfl F_Encores_Table_15 (show S_9[5]? = some (9, 4, [none, none, none, none]) from rfl) rfl (Nat.le_of_ble_eq_true rfl) rfl rfl pZ_9_1 rfl rfl ?_
  refine ok_bndME (fun m_10_7 hm_m_10_7 => ?_)
  refine ok_aload_n 14 0 dX9_init_13 rfl rfl rfl ?_
  refine ok_iconst 15 1 dX9_init_14 rfl rfl ?_
  refine ok_iload_n 16 2 dX9_init_15 rfl rfl rfl ?_
  refine ok_max 19 (by decide +kernel) dX9_init_16 rfl rfl ml_Encores_Table_9 (Nat.le_of_ble_eq_true rfl) ?_
  rw [show (if (1 : Int32) < 5 then (5 : Int32) else 1) = 5 by decide]
  refine ok_putF 22 dX9_init_19 rfl rfl rfl rfl F_Encores_Table_21 (show S_9[5]? = some (9, 4, [none, none, none, none]) from rfl) rfl (Nat.le_of_ble_eq_true rfl) rfl rfl pZ_9_2 rfl rfl ?_
  refine ok_bndME (fun m_19_12 hm_m_19_12 => ?_)
  refine ok_aload_n 23 0 dX9_init_22 rfl rfl rfl ?_
  refine ok_iconst 24 0 dX9_init_23 rfl rfl ?_
  refine ok_aload_n 25 0 dX9_init_24 rfl rfl rfl ?_
  refine ok_getI 28 dX9_init_25 rfl rfl F_Encores_Table_15 (show S_9[5]? = some (9, 4, [none, none, none, none]) from rfl) rfl (Nat.le_of_ble_eq_true rfl) rfl ?_
  rw [show m_19_12 5 1 = 8 by subst_vars; rfl]
  refine ok_aload_n 29 0 dX9_init_28 rfl rfl rfl ?_
  refine ok_getI 32 dX9_init_29 rfl rfl F_Encores_Table_21 (show S_9[5]? = some (9, 4, [none, none, none, none]) from rfl) rfl (Nat.le_of_ble_eq_true rfl) rfl ?_
  rw [show m_19_12 5 2 = 5 by subst_vars; rfl]
  refine ok_imul 33 dX9_init_32 rfl ?_
  rw [show (8 * 5 : Int32) = 40 by decide]
  refine ok_max 36 (by decide +kernel) dX9_init_33 rfl rfl ml_Encores_Table_9 (Nat.le_of_ble_eq_true rfl) ?_
  rw [show (if (0 : Int32) < 40 then (40 : Int32) else 0) = 40 by decide]
  refine ok_newa (N := 40) 38 dX9_init_36 rfl (by decide) (by decide) (by decide) (by decide +kernel) (by decide +kernel) rfl (by decide +kernel) ?_
  refine ok_shape (S2 := S_10) rfl ?_
  refine ok_bndME (fun m_36_21 hm_m_36_21 => ?_)
  show Ok _ _ _ _ _ _ (.ref 6 :: _) _ _ _
  refine ok_putFR 41 dX9_init_38 rfl rfl rfl rfl F_Encores_Table_24 (show S_10[5]? = some (9, 4, [none, none, none, none]) from rfl) (Nat.le_of_ble_eq_true rfl) (Nat.le_of_ble_eq_true rfl) rfl rfl pZ_9_0 (fun _ => rfl) (fun _ => rfl) ?_
  refine ok_shape (S2 := S_11) rfl ?_
  refine ok_aload_n 42 0 dX9_init_41 rfl rfl rfl ?_
  refine ok_iconst 43 0 dX9_init_42 rfl rfl ?_
  refine ok_putI 46 dX9_init_43 rfl rfl F_Encores_Table_28 (show S_11[5]? = some (9, 4, [some 6, none, none, none]) from rfl) rfl (Nat.le_of_ble_eq_true rfl) rfl rfl pZ_9_3 rfl rfl ?_
  refine ok_bndME (fun m_43_25 hm_m_43_25 => ?_)
  exact ok_vret dX9_init_46 rfl
theorem ci_3 (d : Nat) (m : Mem) : CM SX (d + 1) m_X9_init S_11 S_9 [.ref 5, .int 8, .int 5] m (gi_3 m) :=
  CM.ofOk km_X9_init (by decide +kernel) (by simp [Value.category]) (Nat.le_of_ble_eq_true rfl) (oi_3 d m)

def gi_4 (m : Mem) : Ans :=
bnd (mset m 7 1 1) fun m_10_7 =>
bnd (mset m_10_7 7 2 7) fun m_19_12 =>
bnd (mnew m_19_12 8) fun m_36_21 =>
bnd (mset m_36_21 7 3 0) fun m_43_25 =>
some (0, m_43_25)
set_option maxRecDepth 100000 in
set_option maxHeartbeats 8000000 in
theorem oi_4 (d : Nat) (m : Mem) : Ok SX S_15 (d + 1) m_X9_init 0 [some (.ref 7), some (.int 1), some (.int 7)] [] S_13 m (gi_4 m) := by
  unfold gi_4
  refine ok_aload_n 1 0 dX9_init_0 rfl rfl rfl ?_
  refine ok_objInit 4 (by decide +kernel) dX9_init_1 rfl rfl ml_Encores_Table_3 (Nat.le_of_ble_eq_true rfl) ?_
  refine ok_aload_n 5 0 dX9_init_4 rfl rfl rfl ?_
  refine ok_iconst 6 0 dX9_init_5 rfl rfl ?_
  refine ok_iload_n 7 1 dX9_init_6 rfl rfl rfl ?_
  refine ok_max 10 (by decide +kernel) dX9_init_7 rfl rfl ml_Encores_Table_9 (Nat.le_of_ble_eq_true rfl) ?_
  rw [show (if (0 : Int32) < 1 then (1 : Int32) else 0) = 1 by decide]
  refine ok_putF 13 dX9_init_10 rfl rfl rfl rfl F_Encores_Table_15 (show S_13[7]? = some (9, 4, [none, none, none, none]) from rfl) rfl (Nat.le_of_ble_eq_true rfl) rfl rfl pZ_9_1 rfl rfl ?_
  refine ok_bndME (fun m_10_7 hm_m_10_7 => ?_)
  refine ok_aload_n 14 0 dX9_init_13 rfl rfl rfl ?_
  refine ok_iconst 15 1 dX9_init_14 rfl rfl ?_
  refine ok_iload_n 16 2 dX9_init_15 rfl rfl rfl ?_
  refine ok_max 19 (by decide +kernel) dX9_init_16 rfl rfl ml_Encores_Table_9 (Nat.le_of_ble_eq_true rfl) ?_
  rw [show (if (1 : Int32) < 7 then (7 : Int32) else 1) = 7 by decide]
  refine ok_putF 22 dX9_init_19 rfl rfl rfl rfl F_Encores_Table_21 (show S_13[7]? = some (9, 4, [none, none, none, none]) from rfl) rfl (Nat.le_of_ble_eq_true rfl) rfl rfl pZ_9_2 rfl rfl ?_
  refine ok_bndME (fun m_19_12 hm_m_19_12 => ?_)
  refine ok_aload_n 23 0 dX9_init_22 rfl rfl rfl ?_
  refine ok_iconst 24 0 dX9_init_23 rfl rfl ?_
  refine ok_aload_n 25 0 dX9_init_24 rfl rfl rfl ?_
  refine ok_getI 28 dX9_init_25 rfl rfl F_Encores_Table_15 (show S_13[7]? = some (9, 4, [none, none, none, none]) from rfl) rfl (Nat.le_of_ble_eq_true rfl) rfl ?_
  rw [show m_19_12 7 1 = 1 by subst_vars; rfl]
  refine ok_aload_n 29 0 dX9_init_28 rfl rfl rfl ?_
  refine ok_getI 32 dX9_init_29 rfl rfl F_Encores_Table_21 (show S_13[7]? = some (9, 4, [none, none, none, none]) from rfl) rfl (Nat.le_of_ble_eq_true rfl) rfl ?_
  rw [show m_19_12 7 2 = 7 by subst_vars; rfl]
  refine ok_imul 33 dX9_init_32 rfl ?_
  rw [show (1 * 7 : Int32) = 7 by decide]
  refine ok_max 36 (by decide +kernel) dX9_init_33 rfl rfl ml_Encores_Table_9 (Nat.le_of_ble_eq_true rfl) ?_
  rw [show (if (0 : Int32) < 7 then (7 : Int32) else 0) = 7 by decide]
  refine ok_newa (N := 7) 38 dX9_init_36 rfl (by decide) (by decide) (by decide) (by decide +kernel) (by decide +kernel) rfl (by decide +kernel) ?_
  refine ok_shape (S2 := S_14) rfl ?_
  refine ok_bndME (fun m_36_21 hm_m_36_21 => ?_)
  show Ok _ _ _ _ _ _ (.ref 8 :: _) _ _ _
  refine ok_putFR 41 dX9_init_38 rfl rfl rfl rfl F_Encores_Table_24 (show S_14[7]? = some (9, 4, [none, none, none, none]) from rfl) (Nat.le_of_ble_eq_true rfl) (Nat.le_of_ble_eq_true rfl) rfl rfl pZ_9_0 (fun _ => rfl) (fun _ => rfl) ?_
  refine ok_shape (S2 := S_15) rfl ?_
  refine ok_aload_n 42 0 dX9_init_41 rfl rfl rfl ?_
  refine ok_iconst 43 0 dX9_init_42 rfl rfl ?_
  refine ok_putI 46 dX9_init_43 rfl rfl F_Encores_Table_28 (show S_15[7]? = some (9, 4, [some 8, none, none, none]) from rfl) rfl (Nat.le_of_ble_eq_true rfl) rfl rfl pZ_9_3 rfl rfl ?_
  refine ok_bndME (fun m_43_25 hm_m_43_25 => ?_)
  exact ok_vret dX9_init_46 rfl
theorem ci_4 (d : Nat) (m : Mem) : CM SX (d + 1) m_X9_init S_15 S_13 [.ref 7, .int 1, .int 7] m (gi_4 m) :=
  CM.ofOk km_X9_init (by decide +kernel) (by simp [Value.category]) (Nat.le_of_ble_eq_true rfl) (oi_4 d m)

def gi_5 (m : Mem) : Ans :=
bnd (mset m 9 1 150) fun m_10_7 =>
bnd (mset m_10_7 9 2 4) fun m_19_12 =>
bnd (mnew m_19_12 10) fun m_36_21 =>
bnd (mset m_36_21 9 3 0) fun m_43_25 =>
some (0, m_43_25)
set_option maxRecDepth 100000 in
set_option maxHeartbeats 8000000 in
theorem oi_5 (d : Nat) (m : Mem) : Ok SX S_19 (d + 1) m_X9_init 0 [some (.ref 9), some (.int 150), some (.int 4)] [] S_17 m (gi_5 m) := by
  unfold gi_5
  refine ok_aload_n 1 0 dX9_init_0 rfl rfl rfl ?_
  refine ok_objInit 4 (by decide +kernel) dX9_init_1 rfl rfl ml_Encores_Table_3 (Nat.le_of_ble_eq_true rfl) ?_
  refine ok_aload_n 5 0 dX9_init_4 rfl rfl rfl ?_
  refine ok_iconst 6 0 dX9_init_5 rfl rfl ?_
  refine ok_iload_n 7 1 dX9_init_6 rfl rfl rfl ?_
  refine ok_max 10 (by decide +kernel) dX9_init_7 rfl rfl ml_Encores_Table_9 (Nat.le_of_ble_eq_true rfl) ?_
  rw [show (if (0 : Int32) < 150 then (150 : Int32) else 0) = 150 by decide]
  refine ok_putF 13 dX9_init_10 rfl rfl rfl rfl F_Encores_Table_15 (show S_17[9]? = some (9, 4, [none, none, none, none]) from rfl) rfl (Nat.le_of_ble_eq_true rfl) rfl rfl pZ_9_1 rfl rfl ?_
  refine ok_bndME (fun m_10_7 hm_m_10_7 => ?_)
  refine ok_aload_n 14 0 dX9_init_13 rfl rfl rfl ?_
  refine ok_iconst 15 1 dX9_init_14 rfl rfl ?_
  refine ok_iload_n 16 2 dX9_init_15 rfl rfl rfl ?_
  refine ok_max 19 (by decide +kernel) dX9_init_16 rfl rfl ml_Encores_Table_9 (Nat.le_of_ble_eq_true rfl) ?_
  rw [show (if (1 : Int32) < 4 then (4 : Int32) else 1) = 4 by decide]
  refine ok_putF 22 dX9_init_19 rfl rfl rfl rfl F_Encores_Table_21 (show S_17[9]? = some (9, 4, [none, none, none, none]) from rfl) rfl (Nat.le_of_ble_eq_true rfl) rfl rfl pZ_9_2 rfl rfl ?_
  refine ok_bndME (fun m_19_12 hm_m_19_12 => ?_)
  refine ok_aload_n 23 0 dX9_init_22 rfl rfl rfl ?_
  refine ok_iconst 24 0 dX9_init_23 rfl rfl ?_
  refine ok_aload_n 25 0 dX9_init_24 rfl rfl rfl ?_
  refine ok_getI 28 dX9_init_25 rfl rfl F_Encores_Table_15 (show S_17[9]? = some (9, 4, [none, none, none, none]) from rfl) rfl (Nat.le_of_ble_eq_true rfl) rfl ?_
  rw [show m_19_12 9 1 = 150 by subst_vars; rfl]
  refine ok_aload_n 29 0 dX9_init_28 rfl rfl rfl ?_
  refine ok_getI 32 dX9_init_29 rfl rfl F_Encores_Table_21 (show S_17[9]? = some (9, 4, [none, none, none, none]) from rfl) rfl (Nat.le_of_ble_eq_true rfl) rfl ?_
  rw [show m_19_12 9 2 = 4 by subst_vars; rfl]
  refine ok_imul 33 dX9_init_32 rfl ?_
  rw [show (150 * 4 : Int32) = 600 by decide]
  refine ok_max 36 (by decide +kernel) dX9_init_33 rfl rfl ml_Encores_Table_9 (Nat.le_of_ble_eq_true rfl) ?_
  rw [show (if (0 : Int32) < 600 then (600 : Int32) else 0) = 600 by decide]
  refine ok_newa (N := 600) 38 dX9_init_36 rfl (by decide) (by decide) (by decide) (by decide +kernel) (by decide +kernel) rfl (by decide +kernel) ?_
  refine ok_shape (S2 := S_18) rfl ?_
  refine ok_bndME (fun m_36_21 hm_m_36_21 => ?_)
  show Ok _ _ _ _ _ _ (.ref 10 :: _) _ _ _
  refine ok_putFR 41 dX9_init_38 rfl rfl rfl rfl F_Encores_Table_24 (show S_18[9]? = some (9, 4, [none, none, none, none]) from rfl) (Nat.le_of_ble_eq_true rfl) (Nat.le_of_ble_eq_true rfl) rfl rfl pZ_9_0 (fun _ => rfl) (fun _ => rfl) ?_
  refine ok_shape (S2 := S_19) rfl ?_
  refine ok_aload_n 42 0 dX9_init_41 rfl rfl rfl ?_
  refine ok_iconst 43 0 dX9_init_42 rfl rfl ?_
  refine ok_putI 46 dX9_init_43 rfl rfl F_Encores_Table_28 (show S_19[9]? = some (9, 4, [some 10, none, none, none]) from rfl) rfl (Nat.le_of_ble_eq_true rfl) rfl rfl pZ_9_3 rfl rfl ?_
  refine ok_bndME (fun m_43_25 hm_m_43_25 => ?_)
  exact ok_vret dX9_init_46 rfl
theorem ci_5 (d : Nat) (m : Mem) : CM SX (d + 1) m_X9_init S_19 S_17 [.ref 9, .int 150, .int 4] m (gi_5 m) :=
  CM.ofOk km_X9_init (by decide +kernel) (by simp [Value.category]) (Nat.le_of_ble_eq_true rfl) (oi_5 d m)

def gi_6 (m : Mem) : Ans :=
bnd (mset m 11 1 16) fun m_10_7 =>
bnd (mset m_10_7 11 2 4) fun m_19_12 =>
bnd (mnew m_19_12 12) fun m_36_21 =>
bnd (mset m_36_21 11 3 0) fun m_43_25 =>
some (0, m_43_25)
set_option maxRecDepth 100000 in
set_option maxHeartbeats 8000000 in
theorem oi_6 (d : Nat) (m : Mem) : Ok SX S_23 (d + 1) m_X9_init 0 [some (.ref 11), some (.int 16), some (.int 4)] [] S_21 m (gi_6 m) := by
  unfold gi_6
  refine ok_aload_n 1 0 dX9_init_0 rfl rfl rfl ?_
  refine ok_objInit 4 (by decide +kernel) dX9_init_1 rfl rfl ml_Encores_Table_3 (Nat.le_of_ble_eq_true rfl) ?_
  refine ok_aload_n 5 0 dX9_init_4 rfl rfl rfl ?_
  refine ok_iconst 6 0 dX9_init_5 rfl rfl ?_
  refine ok_iload_n 7 1 dX9_init_6 rfl rfl rfl ?_
  refine ok_max 10 (by decide +kernel) dX9_init_7 rfl rfl ml_Encores_Table_9 (Nat.le_of_ble_eq_true rfl) ?_
  rw [show (if (0 : Int32) < 16 then (16 : Int32) else 0) = 16 by decide]
  refine ok_putF 13 dX9_init_10 rfl rfl rfl rfl F_Encores_Table_15 (show S_21[11]? = some (9, 4, [none, none, none, none]) from rfl) rfl (Nat.le_of_ble_eq_true rfl) rfl rfl pZ_9_1 rfl rfl ?_
  refine ok_bndME (fun m_10_7 hm_m_10_7 => ?_)
  refine ok_aload_n 14 0 dX9_init_13 rfl rfl rfl ?_
  refine ok_iconst 15 1 dX9_init_14 rfl rfl ?_
  refine ok_iload_n 16 2 dX9_init_15 rfl rfl rfl ?_
  refine ok_max 19 (by decide +kernel) dX9_init_16 rfl rfl ml_Encores_Table_9 (Nat.le_of_ble_eq_true rfl) ?_
  rw [show (if (1 : Int32) < 4 then (4 : Int32) else 1) = 4 by decide]
  refine ok_putF 22 dX9_init_19 rfl rfl rfl rfl F_Encores_Table_21 (show S_21[11]? = some (9, 4, [none, none, none, none]) from rfl) rfl (Nat.le_of_ble_eq_true rfl) rfl rfl pZ_9_2 rfl rfl ?_
  refine ok_bndME (fun m_19_12 hm_m_19_12 => ?_)
  refine ok_aload_n 23 0 dX9_init_22 rfl rfl rfl ?_
  refine ok_iconst 24 0 dX9_init_23 rfl rfl ?_
  refine ok_aload_n 25 0 dX9_init_24 rfl rfl rfl ?_
  refine ok_getI 28 dX9_init_25 rfl rfl F_Encores_Table_15 (show S_21[11]? = some (9, 4, [none, none, none, none]) from rfl) rfl (Nat.le_of_ble_eq_true rfl) rfl ?_
  rw [show m_19_12 11 1 = 16 by subst_vars; rfl]
  refine ok_aload_n 29 0 dX9_init_28 rfl rfl rfl ?_
  refine ok_getI 32 dX9_init_29 rfl rfl F_Encores_Table_21 (show S_21[11]? = some (9, 4, [none, none, none, none]) from rfl) rfl (Nat.le_of_ble_eq_true rfl) rfl ?_
  rw [show m_19_12 11 2 = 4 by subst_vars; rfl]
  refine ok_imul 33 dX9_init_32 rfl ?_
  rw [show (16 * 4 : Int32) = 64 by decide]
  refine ok_max 36 (by decide +kernel) dX9_init_33 rfl rfl ml_Encores_Table_9 (Nat.le_of_ble_eq_true rfl) ?_
  rw [show (if (0 : Int32) < 64 then (64 : Int32) else 0) = 64 by decide]
  refine ok_newa (N := 64) 38 dX9_init_36 rfl (by decide) (by decide) (by decide) (by decide +kernel) (by decide +kernel) rfl (by decide +kernel) ?_
  refine ok_shape (S2 := S_22) rfl ?_
  refine ok_bndME (fun m_36_21 hm_m_36_21 => ?_)
  show Ok _ _ _ _ _ _ (.ref 12 :: _) _ _ _
  refine ok_putFR 41 dX9_init_38 rfl rfl rfl rfl F_Encores_Table_24 (show S_22[11]? = some (9, 4, [none, none, none, none]) from rfl) (Nat.le_of_ble_eq_true rfl) (Nat.le_of_ble_eq_true rfl) rfl rfl pZ_9_0 (fun _ => rfl) (fun _ => rfl) ?_
  refine ok_shape (S2 := S_23) rfl ?_
  refine ok_aload_n 42 0 dX9_init_41 rfl rfl rfl ?_
  refine ok_iconst 43 0 dX9_init_42 rfl rfl ?_
  refine ok_putI 46 dX9_init_43 rfl rfl F_Encores_Table_28 (show S_23[11]? = some (9, 4, [some 12, none, none, none]) from rfl) rfl (Nat.le_of_ble_eq_true rfl) rfl rfl pZ_9_3 rfl rfl ?_
  refine ok_bndME (fun m_43_25 hm_m_43_25 => ?_)
  exact ok_vret dX9_init_46 rfl
theorem ci_6 (d : Nat) (m : Mem) : CM SX (d + 1) m_X9_init S_23 S_21 [.ref 11, .int 16, .int 4] m (gi_6 m) :=
  CM.ofOk km_X9_init (by decide +kernel) (by simp [Value.category]) (Nat.le_of_ble_eq_true rfl) (oi_6 d m)

def gi_7 (m : Mem) : Ans :=
bnd (mset m 13 1 400) fun m_10_7 =>
bnd (mset m_10_7 13 2 2) fun m_19_12 =>
bnd (mnew m_19_12 14) fun m_36_21 =>
bnd (mset m_36_21 13 3 0) fun m_43_25 =>
some (0, m_43_25)
set_option maxRecDepth 100000 in
set_option maxHeartbeats 8000000 in
theorem oi_7 (d : Nat) (m : Mem) : Ok SX S_27 (d + 1) m_X9_init 0 [some (.ref 13), some (.int 400), some (.int 2)] [] S_25 m (gi_7 m) := by
  unfold gi_7
  refine ok_aload_n 1 0 dX9_init_0 rfl rfl rfl ?_
  refine ok_objInit 4 (by decide +kernel) dX9_init_1 rfl rfl ml_Encores_Table_3 (Nat.le_of_ble_eq_true rfl) ?_
  refine ok_aload_n 5 0 dX9_init_4 rfl rfl rfl ?_
  refine ok_iconst 6 0 dX9_init_5 rfl rfl ?_
  refine ok_iload_n 7 1 dX9_init_6 rfl rfl rfl ?_
  refine ok_max 10 (by decide +kernel) dX9_init_7 rfl rfl ml_Encores_Table_9 (Nat.le_of_ble_eq_true rfl) ?_
  rw [show (if (0 : Int32) < 400 then (400 : Int32) else 0) = 400 by decide]
  refine ok_putF 13 dX9_init_10 rfl rfl rfl rfl F_Encores_Table_15 (show S_25[13]? = some (9, 4, [none, none, none, none]) from rfl) rfl (Nat.le_of_ble_eq_true rfl) rfl rfl pZ_9_1 rfl rfl ?_
  refine ok_bndME (fun m_10_7 hm_m_10_7 => ?_)
  refine ok_aload_n 14 0 dX9_init_13 rfl rfl rfl ?_
  refine ok_iconst 15 1 dX9_init_14 rfl rfl ?_
  refine ok_iload_n 16 2 dX9_init_15 rfl rfl rfl ?_
  refine ok_max 19 (by decide +kernel) dX9_init_16 rfl rfl ml_Encores_Table_9 (Nat.le_of_ble_eq_true rfl) ?_
  rw [show (if (1 : Int32) < 2 then (2 : Int32) else 1) = 2 by decide]
  refine ok_putF 22 dX9_init_19 rfl rfl rfl rfl F_Encores_Table_21 (show S_25[13]? = some (9, 4, [none, none, none, none]) from rfl) rfl (Nat.le_of_ble_eq_true rfl) rfl rfl pZ_9_2 rfl rfl ?_
  refine ok_bndME (fun m_19_12 hm_m_19_12 => ?_)
  refine ok_aload_n 23 0 dX9_init_22 rfl rfl rfl ?_
  refine ok_iconst 24 0 dX9_init_23 rfl rfl ?_
  refine ok_aload_n 25 0 dX9_init_24 rfl rfl rfl ?_
  refine ok_getI 28 dX9_init_25 rfl rfl F_Encores_Table_15 (show S_25[13]? = some (9, 4, [none, none, none, none]) from rfl) rfl (Nat.le_of_ble_eq_true rfl) rfl ?_
  rw [show m_19_12 13 1 = 400 by subst_vars; rfl]
  refine ok_aload_n 29 0 dX9_init_28 rfl rfl rfl ?_
  refine ok_getI 32 dX9_init_29 rfl rfl F_Encores_Table_21 (show S_25[13]? = some (9, 4, [none, none, none, none]) from rfl) rfl (Nat.le_of_ble_eq_true rfl) rfl ?_
  rw [show m_19_12 13 2 = 2 by subst_vars; rfl]
  refine ok_imul 33 dX9_init_32 rfl ?_
  rw [show (400 * 2 : Int32) = 800 by decide]
  refine ok_max 36 (by decide +kernel) dX9_init_33 rfl rfl ml_Encores_Table_9 (Nat.le_of_ble_eq_true rfl) ?_
  rw [show (if (0 : Int32) < 800 then (800 : Int32) else 0) = 800 by decide]
  refine ok_newa (N := 800) 38 dX9_init_36 rfl (by decide) (by decide) (by decide) (by decide +kernel) (by decide +kernel) rfl (by decide +kernel) ?_
  refine ok_shape (S2 := S_26) rfl ?_
  refine ok_bndME (fun m_36_21 hm_m_36_21 => ?_)
  show Ok _ _ _ _ _ _ (.ref 14 :: _) _ _ _
  refine ok_putFR 41 dX9_init_38 rfl rfl rfl rfl F_Encores_Table_24 (show S_26[13]? = some (9, 4, [none, none, none, none]) from rfl) (Nat.le_of_ble_eq_true rfl) (Nat.le_of_ble_eq_true rfl) rfl rfl pZ_9_0 (fun _ => rfl) (fun _ => rfl) ?_
  refine ok_shape (S2 := S_27) rfl ?_
  refine ok_aload_n 42 0 dX9_init_41 rfl rfl rfl ?_
  refine ok_iconst 43 0 dX9_init_42 rfl rfl ?_
  refine ok_putI 46 dX9_init_43 rfl rfl F_Encores_Table_28 (show S_27[13]? = some (9, 4, [some 14, none, none, none]) from rfl) rfl (Nat.le_of_ble_eq_true rfl) rfl rfl pZ_9_3 rfl rfl ?_
  refine ok_bndME (fun m_43_25 hm_m_43_25 => ?_)
  exact ok_vret dX9_init_46 rfl
theorem ci_7 (d : Nat) (m : Mem) : CM SX (d + 1) m_X9_init S_27 S_25 [.ref 13, .int 400, .int 2] m (gi_7 m) :=
  CM.ofOk km_X9_init (by decide +kernel) (by simp [Value.category]) (Nat.le_of_ble_eq_true rfl) (oi_7 d m)

def gi_8 (m : Mem) : Ans :=
bnd (mset m 15 1 16) fun m_10_7 =>
bnd (mset m_10_7 15 2 4) fun m_19_12 =>
bnd (mnew m_19_12 16) fun m_36_21 =>
bnd (mset m_36_21 15 3 0) fun m_43_25 =>
some (0, m_43_25)
set_option maxRecDepth 100000 in
set_option maxHeartbeats 8000000 in
theorem oi_8 (d : Nat) (m : Mem) : Ok SX S_31 (d + 1) m_X9_init 0 [some (.ref 15), some (.int 16), some (.int 4)] [] S_29 m (gi_8 m) := by
  unfold gi_8
  refine ok_aload_n 1 0 dX9_init_0 rfl rfl rfl ?_
  refine ok_objInit 4 (by decide +kernel) dX9_init_1 rfl rfl ml_Encores_Table_3 (Nat.le_of_ble_eq_true rfl) ?_
  refine ok_aload_n 5 0 dX9_init_4 rfl rfl rfl ?_
  refine ok_iconst 6 0 dX9_init_5 rfl rfl ?_
  refine ok_iload_n 7 1 dX9_init_6 rfl rfl rfl ?_
  refine ok_max 10 (by decide +kernel) dX9_init_7 rfl rfl ml_Encores_Table_9 (Nat.le_of_ble_eq_true rfl) ?_
  rw [show (if (0 : Int32) < 16 then (16 : Int32) else 0) = 16 by decide]
  refine ok_putF 13 dX9_init_10 rfl rfl rfl rfl F_Encores_Table_15 (show S_29[15]? = some (9, 4, [none, none, none, none]) from rfl) rfl (Nat.le_of_ble_eq_true rfl) rfl rfl pZ_9_1 rfl rfl ?_
  refine ok_bndME (fun m_10_7 hm_m_10_7 => ?_)
  refine ok_aload_n 14 0 dX9_init_13 rfl rfl rfl ?_
  refine ok_iconst 15 1 dX9_init_14 rfl rfl ?_
  refine ok_iload_n 16 2 dX9_init_15 rfl rfl rfl ?_
  refine ok_max 19 (by decide +kernel) dX9_init_16 rfl rfl ml_Encores_Table_9 (Nat.le_of_ble_eq_true rfl) ?_
  rw [show (if (1 : Int32) < 4 then (4 : Int32) else 1) = 4 by decide]
  refine ok_putF 22 dX9_init_19 rfl rfl rfl rfl F_Encores_Table_21 (show S_29[15]? = some (9, 4, [none, none, none, none]) from rfl) rfl (Nat.le_of_ble_eq_true rfl) rfl rfl pZ_9_2 rfl rfl ?_
  refine ok_bndME (fun m_19_12 hm_m_19_12 => ?_)
  refine ok_aload_n 23 0 dX9_init_22 rfl rfl rfl ?_
  refine ok_iconst 24 0 dX9_init_23 rfl rfl ?_
  refine ok_aload_n 25 0 dX9_init_24 rfl rfl rfl ?_
  refine ok_getI 28 dX9_init_25 rfl rfl F_Encores_Table_15 (show S_29[15]? = some (9, 4, [none, none, none, none]) from rfl) rfl (Nat.le_of_ble_eq_true rfl) rfl ?_
  rw [show m_19_12 15 1 = 16 by subst_vars; rfl]
  refine ok_aload_n 29 0 dX9_init_28 rfl rfl rfl ?_
  refine ok_getI 32 dX9_init_29 rfl rfl F_Encores_Table_21 (show S_29[15]? = some (9, 4, [none, none, none, none]) from rfl) rfl (Nat.le_of_ble_eq_true rfl) rfl ?_
  rw [show m_19_12 15 2 = 4 by subst_vars; rfl]
  refine ok_imul 33 dX9_init_32 rfl ?_
  rw [show (16 * 4 : Int32) = 64 by decide]
  refine ok_max 36 (by decide +kernel) dX9_init_33 rfl rfl ml_Encores_Table_9 (Nat.le_of_ble_eq_true rfl) ?_
  rw [show (if (0 : Int32) < 64 then (64 : Int32) else 0) = 64 by decide]
  refine ok_newa (N := 64) 38 dX9_init_36 rfl (by decide) (by decide) (by decide) (by decide +kernel) (by decide +kernel) rfl (by decide +kernel) ?_
  refine ok_shape (S2 := S_30) rfl ?_
  refine ok_bndME (fun m_36_21 hm_m_36_21 => ?_)
  show Ok _ _ _ _ _ _ (.ref 16 :: _) _ _ _
  refine ok_putFR 41 dX9_init_38 rfl rfl rfl rfl F_Encores_Table_24 (show S_30[15]? = some (9, 4, [none, none, none, none]) from rfl) (Nat.le_of_ble_eq_true rfl) (Nat.le_of_ble_eq_true rfl) rfl rfl pZ_9_0 (fun _ => rfl) (fun _ => rfl) ?_
  refine ok_shape (S2 := S_31) rfl ?_
  refine ok_aload_n 42 0 dX9_init_41 rfl rfl rfl ?_
  refine ok_iconst 43 0 dX9_init_42 rfl rfl ?_
  refine ok_putI 46 dX9_init_43 rfl rfl F_Encores_Table_28 (show S_31[15]? = some (9, 4, [some 16, none, none, none]) from rfl) rfl (Nat.le_of_ble_eq_true rfl) rfl rfl pZ_9_3 rfl rfl ?_
  refine ok_bndME (fun m_43_25 hm_m_43_25 => ?_)
  exact ok_vret dX9_init_46 rfl
theorem ci_8 (d : Nat) (m : Mem) : CM SX (d + 1) m_X9_init S_31 S_29 [.ref 15, .int 16, .int 4] m (gi_8 m) :=
  CM.ofOk km_X9_init (by decide +kernel) (by simp [Value.category]) (Nat.le_of_ble_eq_true rfl) (oi_8 d m)

def gi_9 (m : Mem) : Ans :=
bnd (mset m 17 1 16) fun m_10_7 =>
bnd (mset m_10_7 17 2 4) fun m_19_12 =>
bnd (mnew m_19_12 18) fun m_36_21 =>
bnd (mset m_36_21 17 3 0) fun m_43_25 =>
some (0, m_43_25)
set_option maxRecDepth 100000 in
set_option maxHeartbeats 8000000 in
theorem oi_9 (d : Nat) (m : Mem) : Ok SX S_35 (d + 1) m_X9_init 0 [some (.ref 17), some (.int 16), some (.int 4)] [] S_33 m (gi_9 m) := by
  unfold gi_9
  refine ok_aload_n 1 0 dX9_init_0 rfl rfl rfl ?_
  refine ok_objInit 4 (by decide +kernel) dX9_init_1 rfl rfl ml_Encores_Table_3 (Nat.le_of_ble_eq_true rfl) ?_
  refine ok_aload_n 5 0 dX9_init_4 rfl rfl rfl ?_
  refine ok_iconst 6 0 dX9_init_5 rfl rfl ?_
  refine ok_iload_n 7 1 dX9_init_6 rfl rfl rfl ?_
  refine ok_max 10 (by decide +kernel) dX9_init_7 rfl rfl ml_Encores_Table_9 (Nat.le_of_ble_eq_true rfl) ?_
  rw [show (if (0 : Int32) < 16 then (16 : Int32) else 0) = 16 by decide]
  refine ok_putF 13 dX9_init_10 rfl rfl rfl rfl F_Encores_Table_15 (show S_33[17]? = some (9, 4, [none, none, none, none]) from rfl) rfl (Nat.le_of_ble_eq_true rfl) rfl rfl pZ_9_1 rfl rfl ?_
  refine ok_bndME (fun m_10_7 hm_m_10_7 => ?_)
  refine ok_aload_n 14 0 dX9_init_13 rfl rfl rfl ?_
  refine ok_iconst 15 1 dX9_init_14 rfl rfl ?_
  refine ok_iload_n 16 2 dX9_init_15 rfl rfl rfl ?_
  refine ok_max 19 (by decide +kernel) dX9_init_16 rfl rfl ml_Encores_Table_9 (Nat.le_of_ble_eq_true rfl) ?_
  rw [show (if (1 : Int32) < 4 then (4 : Int32) else 1) = 4 by decide]
  refine ok_putF 22 dX9_init_19 rfl rfl rfl rfl F_Encores_Table_21 (show S_33[17]? = some (9, 4, [none, none, none, none]) from rfl) rfl (Nat.le_of_ble_eq_true rfl) rfl rfl pZ_9_2 rfl rfl ?_
  refine ok_bndME (fun m_19_12 hm_m_19_12 => ?_)
  refine ok_aload_n 23 0 dX9_init_22 rfl rfl rfl ?_
  refine ok_iconst 24 0 dX9_init_23 rfl rfl ?_
  refine ok_aload_n 25 0 dX9_init_24 rfl rfl rfl ?_
  refine ok_getI 28 dX9_init_25 rfl rfl F_Encores_Table_15 (show S_33[17]? = some (9, 4, [none, none, none, none]) from rfl) rfl (Nat.le_of_ble_eq_true rfl) rfl ?_
  rw [show m_19_12 17 1 = 16 by subst_vars; rfl]
  refine ok_aload_n 29 0 dX9_init_28 rfl rfl rfl ?_
  refine ok_getI 32 dX9_init_29 rfl rfl F_Encores_Table_21 (show S_33[17]? = some (9, 4, [none, none, none, none]) from rfl) rfl (Nat.le_of_ble_eq_true rfl) rfl ?_
  rw [show m_19_12 17 2 = 4 by subst_vars; rfl]
  refine ok_imul 33 dX9_init_32 rfl ?_
  rw [show (16 * 4 : Int32) = 64 by decide]
  refine ok_max 36 (by decide +kernel) dX9_init_33 rfl rfl ml_Encores_Table_9 (Nat.le_of_ble_eq_true rfl) ?_
  rw [show (if (0 : Int32) < 64 then (64 : Int32) else 0) = 64 by decide]
  refine ok_newa (N := 64) 38 dX9_init_36 rfl (by decide) (by decide) (by decide) (by decide +kernel) (by decide +kernel) rfl (by decide +kernel) ?_
  refine ok_shape (S2 := S_34) rfl ?_
  refine ok_bndME (fun m_36_21 hm_m_36_21 => ?_)
  show Ok _ _ _ _ _ _ (.ref 18 :: _) _ _ _
  refine ok_putFR 41 dX9_init_38 rfl rfl rfl rfl F_Encores_Table_24 (show S_34[17]? = some (9, 4, [none, none, none, none]) from rfl) (Nat.le_of_ble_eq_true rfl) (Nat.le_of_ble_eq_true rfl) rfl rfl pZ_9_0 (fun _ => rfl) (fun _ => rfl) ?_
  refine ok_shape (S2 := S_35) rfl ?_
  refine ok_aload_n 42 0 dX9_init_41 rfl rfl rfl ?_
  refine ok_iconst 43 0 dX9_init_42 rfl rfl ?_
  refine ok_putI 46 dX9_init_43 rfl rfl F_Encores_Table_28 (show S_35[17]? = some (9, 4, [some 18, none, none, none]) from rfl) rfl (Nat.le_of_ble_eq_true rfl) rfl rfl pZ_9_3 rfl rfl ?_
  refine ok_bndME (fun m_43_25 hm_m_43_25 => ?_)
  exact ok_vret dX9_init_46 rfl
theorem ci_9 (d : Nat) (m : Mem) : CM SX (d + 1) m_X9_init S_35 S_33 [.ref 17, .int 16, .int 4] m (gi_9 m) :=
  CM.ofOk km_X9_init (by decide +kernel) (by simp [Value.category]) (Nat.le_of_ble_eq_true rfl) (oi_9 d m)

def gi_10 (m : Mem) : Ans :=
bnd (mset m 19 1 16) fun m_10_7 =>
bnd (mset m_10_7 19 2 4) fun m_19_12 =>
bnd (mnew m_19_12 20) fun m_36_21 =>
bnd (mset m_36_21 19 3 0) fun m_43_25 =>
some (0, m_43_25)
set_option maxRecDepth 100000 in
set_option maxHeartbeats 8000000 in
theorem oi_10 (d : Nat) (m : Mem) : Ok SX S_39 (d + 1) m_X9_init 0 [some (.ref 19), some (.int 16), some (.int 4)] [] S_37 m (gi_10 m) := by
  unfold gi_10
  refine ok_aload_n 1 0 dX9_init_0 rfl rfl rfl ?_
  refine ok_objInit 4 (by decide +kernel) dX9_init_1 rfl rfl ml_Encores_Table_3 (Nat.le_of_ble_eq_true rfl) ?_
  refine ok_aload_n 5 0 dX9_init_4 rfl rfl rfl ?_
  refine ok_iconst 6 0 dX9_init_5 rfl rfl ?_
  refine ok_iload_n 7 1 dX9_init_6 rfl rfl rfl ?_
  refine ok_max 10 (by decide +kernel) dX9_init_7 rfl rfl ml_Encores_Table_9 (Nat.le_of_ble_eq_true rfl) ?_
  rw [show (if (0 : Int32) < 16 then (16 : Int32) else 0) = 16 by decide]
  refine ok_putF 13 dX9_init_10 rfl rfl rfl rfl F_Encores_Table_15 (show S_37[19]? = some (9, 4, [none, none, none, none]) from rfl) rfl (Nat.le_of_ble_eq_true rfl) rfl rfl pZ_9_1 rfl rfl ?_
  refine ok_bndME (fun m_10_7 hm_m_10_7 => ?_)
  refine ok_aload_n 14 0 dX9_init_13 rfl rfl rfl ?_
  refine ok_iconst 15 1 dX9_init_14 rfl rfl ?_
  refine ok_iload_n 16 2 dX9_init_15 rfl rfl rfl ?_
  refine ok_max 19 (by decide +kernel) dX9_init_16 rfl rfl ml_Encores_Table_9 (Nat.le_of_ble_eq_true rfl) ?_
  rw [show (if (1 : Int32) < 4 then (4 : Int32) else 1) = 4 by decide]
  refine ok_putF 22 dX9_init_19 rfl rfl rfl rfl F_Encores_Table_21 (show S_37[19]? = some (9, 4, [none, none, none, none]) from rfl) rfl (Nat.le_of_ble_eq_true rfl) rfl rfl pZ_9_2 rfl rfl ?_
  refine ok_bndME (fun m_19_12 hm_m_19_12 => ?_)
  refine ok_aload_n 23 0 dX9_init_22 rfl rfl rfl ?_
  refine ok_iconst 24 0 dX9_init_23 rfl rfl ?_
  refine ok_aload_n 25 0 dX9_init_24 rfl rfl rfl ?_
  refine ok_getI 28 dX9_init_25 rfl rfl F_Encores_Table_15 (show S_37[19]? = some (9, 4, [none, none, none, none]) from rfl) rfl (Nat.le_of_ble_eq_true rfl) rfl ?_
  rw [show m_19_12 19 1 = 16 by subst_vars; rfl]
  refine ok_aload_n 29 0 dX9_init_28 rfl rfl rfl ?_
  refine ok_getI 32 dX9_init_29 rfl rfl F_Encores_Table_21 (show S_37[19]? = some (9, 4, [none, none, none, none]) from rfl) rfl (Nat.le_of_ble_eq_true rfl) rfl ?_
  rw [show m_19_12 19 2 = 4 by subst_vars; rfl]
  refine ok_imul 33 dX9_init_32 rfl ?_
  rw [show (16 * 4 : Int32) = 64 by decide]
  refine ok_max 36 (by decide +kernel) dX9_init_33 rfl rfl ml_Encores_Table_9 (Nat.le_of_ble_eq_true rfl) ?_
  rw [show (if (0 : Int32) < 64 then (64 : Int32) else 0) = 64 by decide]
  refine ok_newa (N := 64) 38 dX9_init_36 rfl (by decide) (by decide) (by decide) (by decide +kernel) (by decide +kernel) rfl (by decide +kernel) ?_
  refine ok_shape (S2 := S_38) rfl ?_
  refine ok_bndME (fun m_36_21 hm_m_36_21 => ?_)
  show Ok _ _ _ _ _ _ (.ref 20 :: _) _ _ _
  refine ok_putFR 41 dX9_init_38 rfl rfl rfl rfl F_Encores_Table_24 (show S_38[19]? = some (9, 4, [none, none, none, none]) from rfl) (Nat.le_of_ble_eq_true rfl) (Nat.le_of_ble_eq_true rfl) rfl rfl pZ_9_0 (fun _ => rfl) (fun _ => rfl) ?_
  refine ok_shape (S2 := S_39) rfl ?_
  refine ok_aload_n 42 0 dX9_init_41 rfl rfl rfl ?_
  refine ok_iconst 43 0 dX9_init_42 rfl rfl ?_
  refine ok_putI 46 dX9_init_43 rfl rfl F_Encores_Table_28 (show S_39[19]? = some (9, 4, [some 20, none, none, none]) from rfl) rfl (Nat.le_of_ble_eq_true rfl) rfl rfl pZ_9_3 rfl rfl ?_
  refine ok_bndME (fun m_43_25 hm_m_43_25 => ?_)
  exact ok_vret dX9_init_46 rfl
theorem ci_10 (d : Nat) (m : Mem) : CM SX (d + 1) m_X9_init S_39 S_37 [.ref 19, .int 16, .int 4] m (gi_10 m) :=
  CM.ofOk km_X9_init (by decide +kernel) (by simp [Value.category]) (Nat.le_of_ble_eq_true rfl) (oi_10 d m)

def gi_11 (m : Mem) : Ans :=
bnd (mset m 21 1 8) fun m_10_7 =>
bnd (mset m_10_7 21 2 2) fun m_19_12 =>
bnd (mnew m_19_12 22) fun m_36_21 =>
bnd (mset m_36_21 21 3 0) fun m_43_25 =>
some (0, m_43_25)
set_option maxRecDepth 100000 in
set_option maxHeartbeats 8000000 in
theorem oi_11 (d : Nat) (m : Mem) : Ok SX S_43 (d + 1) m_X9_init 0 [some (.ref 21), some (.int 8), some (.int 2)] [] S_41 m (gi_11 m) := by
  unfold gi_11
  refine ok_aload_n 1 0 dX9_init_0 rfl rfl rfl ?_
  refine ok_objInit 4 (by decide +kernel) dX9_init_1 rfl rfl ml_Encores_Table_3 (Nat.le_of_ble_eq_true rfl) ?_
  refine ok_aload_n 5 0 dX9_init_4 rfl rfl rfl ?_
  refine ok_iconst 6 0 dX9_init_5 rfl rfl ?_
  refine ok_iload_n 7 1 dX9_init_6 rfl rfl rfl ?_
  refine ok_max 10 (by decide +kernel) dX9_init_7 rfl rfl ml_Encores_Table_9 (Nat.le_of_ble_eq_true rfl) ?_
  rw [show (if (0 : Int32) < 8 then (8 : Int32) else 0) = 8 by decide]
  refine ok_putF 13 dX9_init_10 rfl rfl rfl rfl F_Encores_Table_15 (show S_41[21]? = some (9, 4, [none, none, none, none]) from rfl) rfl (Nat.le_of_ble_eq_true rfl) rfl rfl pZ_9_1 rfl rfl ?_
  refine ok_bndME (fun m_10_7 hm_m_10_7 => ?_)
  refine ok_aload_n 14 0 dX9_init_13 rfl rfl rfl ?_
  refine ok_iconst 15 1 dX9_init_14 rfl rfl ?_
  refine ok_iload_n 16 2 dX9_init_15 rfl rfl rfl ?_
  refine ok_max 19 (by decide +kernel) dX9_init_16 rfl rfl ml_Encores_Table_9 (Nat.le_of_ble_eq_true rfl) ?_
  rw [show (if (1 : Int32) < 2 then (2 : Int32) else 1) = 2 by decide]
  refine ok_putF 22 dX9_init_19 rfl rfl rfl rfl F_Encores_Table_21 (show S_41[21]? = some (9, 4, [none, none, none, none]) from rfl) rfl (Nat.le_of_ble_eq_true rfl) rfl rfl pZ_9_2 rfl rfl ?_
  refine ok_bndME (fun m_19_12 hm_m_19_12 => ?_)
  refine ok_aload_n 23 0 dX9_init_22 rfl rfl rfl ?_
  refine ok_iconst 24 0 dX9_init_23 rfl rfl ?_
  refine ok_aload_n 25 0 dX9_init_24 rfl rfl rfl ?_
  refine ok_getI 28 dX9_init_25 rfl rfl F_Encores_Table_15 (show S_41[21]? = some (9, 4, [none, none, none, none]) from rfl) rfl (Nat.le_of_ble_eq_true rfl) rfl ?_
  rw [show m_19_12 21 1 = 8 by subst_vars; rfl]
  refine ok_aload_n 29 0 dX9_init_28 rfl rfl rfl ?_
  refine ok_getI 32 dX9_init_29 rfl rfl F_Encores_Table_21 (show S_41[21]? = some (9, 4, [none, none, none, none]) from rfl) rfl (Nat.le_of_ble_eq_true rfl) rfl ?_
  rw [show m_19_12 21 2 = 2 by subst_vars; rfl]
  refine ok_imul 33 dX9_init_32 rfl ?_
  rw [show (8 * 2 : Int32) = 16 by decide]
  refine ok_max 36 (by decide +kernel) dX9_init_33 rfl rfl ml_Encores_Table_9 (Nat.le_of_ble_eq_true rfl) ?_
  rw [show (if (0 : Int32) < 16 then (16 : Int32) else 0) = 16 by decide]
  refine ok_newa (N := 16) 38 dX9_init_36 rfl (by decide) (by decide) (by decide) (by decide +kernel) (by decide +kernel) rfl (by decide +kernel) ?_
  refine ok_shape (S2 := S_42) rfl ?_
  refine ok_bndME (fun m_36_21 hm_m_36_21 => ?_)
  show Ok _ _ _ _ _ _ (.ref 22 :: _) _ _ _
  refine ok_putFR 41 dX9_init_38 rfl rfl rfl rfl F_Encores_Table_24 (show S_42[21]? = some (9, 4, [none, none, none, none]) from rfl) (Nat.le_of_ble_eq_true rfl) (Nat.le_of_ble_eq_true rfl) rfl rfl pZ_9_0 (fun _ => rfl) (fun _ => rfl) ?_
  refine ok_shape (S2 := S_43) rfl ?_
  refine ok_aload_n 42 0 dX9_init_41 rfl rfl rfl ?_
  refine ok_iconst 43 0 dX9_init_42 rfl rfl ?_
  refine ok_putI 46 dX9_init_43 rfl rfl F_Encores_Table_28 (show S_43[21]? = some (9, 4, [some 22, none, none, none]) from rfl) rfl (Nat.le_of_ble_eq_true rfl) rfl rfl pZ_9_3 rfl rfl ?_
  refine ok_bndME (fun m_43_25 hm_m_43_25 => ?_)
  exact ok_vret dX9_init_46 rfl
theorem ci_11 (d : Nat) (m : Mem) : CM SX (d + 1) m_X9_init S_43 S_41 [.ref 21, .int 8, .int 2] m (gi_11 m) :=
  CM.ofOk km_X9_init (by decide +kernel) (by simp [Value.category]) (Nat.le_of_ble_eq_true rfl) (oi_11 d m)

def gi_12 (m : Mem) : Ans :=
bnd (mset m 23 1 10) fun m_10_7 =>
bnd (mset m_10_7 23 2 1) fun m_19_12 =>
bnd (mnew m_19_12 24) fun m_36_21 =>
bnd (mset m_36_21 23 3 0) fun m_43_25 =>
some (0, m_43_25)
set_option maxRecDepth 100000 in
set_option maxHeartbeats 8000000 in
theorem oi_12 (d : Nat) (m : Mem) : Ok SX S_47 (d + 1) m_X9_init 0 [some (.ref 23), some (.int 10), some (.int 1)] [] S_45 m (gi_12 m) := by
  unfold gi_12
  refine ok_aload_n 1 0 dX9_init_0 rfl rfl rfl ?_
  refine ok_objInit 4 (by decide +kernel) dX9_init_1 rfl rfl ml_Encores_Table_3 (Nat.le_of_ble_eq_true rfl) ?_
  refine ok_aload_n 5 0 dX9_init_4 rfl rfl rfl ?_
  refine ok_iconst 6 0 dX9_init_5 rfl rfl ?_
  refine ok_iload_n 7 1 dX9_init_6 rfl rfl rfl ?_
  refine ok_max 10 (by decide +kernel) dX9_init_7 rfl rfl ml_Encores_Table_9 (Nat.le_of_ble_eq_true rfl) ?_
  rw [show (if (0 : Int32) < 10 then (10 : Int32) else 0) = 10 by decide]
  refine ok_putF 13 dX9_init_10 rfl rfl rfl rfl F_Encores_Table_15 (show S_45[23]? = some (9, 4, [none, none, none, none]) from rfl) rfl (Nat.le_of_ble_eq_true rfl) rfl rfl pZ_9_1 rfl rfl ?_
  refine ok_bndME (fun m_10_7 hm_m_10_7 => ?_)
  refine ok_aload_n 14 0 dX9_init_13 rfl rfl rfl ?_
  refine ok_iconst 15 1 dX9_init_14 rfl rfl ?_
  refine ok_iload_n 16 2 dX9_init_15 rfl rfl rfl ?_
  refine ok_max 19 (by decide +kernel) dX9_init_16 rfl rfl ml_Encores_Table_9 (Nat.le_of_ble_eq_true rfl) ?_
  rw [show (if (1 : Int32) < 1 then (1 : Int32) else 1) = 1 by decide]
  refine ok_putF 22 dX9_init_19 rfl rfl rfl rfl F_Encores_Table_21 (show S_45[23]? = some (9, 4, [none, none, none, none]) from rfl) rfl (Nat.le_of_ble_eq_true rfl) rfl rfl pZ_9_2 rfl rfl ?_
  refine ok_bndME (fun m_19_12 hm_m_19_12 => ?_)
  refine ok_aload_n 23 0 dX9_init_22 rfl rfl rfl ?_
  refine ok_iconst 24 0 dX9_init_23 rfl rfl ?_
  refine ok_aload_n 25 0 dX9_init_24 rfl rfl rfl ?_
  refine ok_getI 28 dX9_init_25 rfl rfl F_Encores_Table_15 (show S_45[23]? = some (9, 4, [none, none, none, none]) from rfl) rfl (Nat.le_of_ble_eq_true rfl) rfl ?_
  rw [show m_19_12 23 1 = 10 by subst_vars; rfl]
  refine ok_aload_n 29 0 dX9_init_28 rfl rfl rfl ?_
  refine ok_getI 32 dX9_init_29 rfl rfl F_Encores_Table_21 (show S_45[23]? = some (9, 4, [none, none, none, none]) from rfl) rfl (Nat.le_of_ble_eq_true rfl) rfl ?_
  rw [show m_19_12 23 2 = 1 by subst_vars; rfl]
  refine ok_imul 33 dX9_init_32 rfl ?_
  rw [show (10 * 1 : Int32) = 10 by decide]
  refine ok_max 36 (by decide +kernel) dX9_init_33 rfl rfl ml_Encores_Table_9 (Nat.le_of_ble_eq_true rfl) ?_
  rw [show (if (0 : Int32) < 10 then (10 : Int32) else 0) = 10 by decide]
  refine ok_newa (N := 10) 38 dX9_init_36 rfl (by decide) (by decide) (by decide) (by decide +kernel) (by decide +kernel) rfl (by decide +kernel) ?_
  refine ok_shape (S2 := S_46) rfl ?_
  refine ok_bndME (fun m_36_21 hm_m_36_21 => ?_)
  show Ok _ _ _ _ _ _ (.ref 24 :: _) _ _ _
  refine ok_putFR 41 dX9_init_38 rfl rfl rfl rfl F_Encores_Table_24 (show S_46[23]? = some (9, 4, [none, none, none, none]) from rfl) (Nat.le_of_ble_eq_true rfl) (Nat.le_of_ble_eq_true rfl) rfl rfl pZ_9_0 (fun _ => rfl) (fun _ => rfl) ?_
  refine ok_shape (S2 := S_47) rfl ?_
  refine ok_aload_n 42 0 dX9_init_41 rfl rfl rfl ?_
  refine ok_iconst 43 0 dX9_init_42 rfl rfl ?_
  refine ok_putI 46 dX9_init_43 rfl rfl F_Encores_Table_28 (show S_47[23]? = some (9, 4, [some 24, none, none, none]) from rfl) rfl (Nat.le_of_ble_eq_true rfl) rfl rfl pZ_9_3 rfl rfl ?_
  refine ok_bndME (fun m_43_25 hm_m_43_25 => ?_)
  exact ok_vret dX9_init_46 rfl
theorem ci_12 (d : Nat) (m : Mem) : CM SX (d + 1) m_X9_init S_47 S_45 [.ref 23, .int 10, .int 1] m (gi_12 m) :=
  CM.ofOk km_X9_init (by decide +kernel) (by simp [Value.category]) (Nat.le_of_ble_eq_true rfl) (oi_12 d m)

def gi_1 (m : Mem) : Ans :=
bnd (mnew m 3) fun m_5_4 =>
bd (gi_2 m_5_4) fun _ m_13_8 =>
bnd (mnew m_13_8 5) fun m_20_11 =>
bd (gi_3 m_20_11) fun _ m_27_15 =>
bnd (mnew m_27_15 7) fun m_34_18 =>
bd (gi_4 m_34_18) fun _ m_41_22 =>
bnd (mnew m_41_22 9) fun m_48_25 =>
bd (gi_5 m_48_25) fun _ m_56_29 =>
bnd (mnew m_56_29 11) fun m_63_32 =>
bd (gi_6 m_63_32) fun _ m_70_36 =>
bnd (mnew m_70_36 13) fun m_77_39 =>
bd (gi_7 m_77_39) fun _ m_85_43 =>
bnd (mnew m_85_43 15) fun m_92_46 =>
bd (gi_8 m_92_46) fun _ m_99_50 =>
bnd (mnew m_99_50 17) fun m_106_53 =>
bd (gi_9 m_106_53) fun _ m_113_57 =>
bnd (mnew m_113_57 19) fun m_120_60 =>
bd (gi_10 m_120_60) fun _ m_127_64 =>
bnd (mnew m_127_64 21) fun m_134_67 =>
bd (gi_11 m_134_67) fun _ m_141_71 =>
bnd (mnew m_141_71 23) fun m_148_74 =>
bd (gi_12 m_148_74) fun _ m_155_78 =>
bd (fg_X9_add 100 7 8 7 0 0 0 0 m_155_78) fun r_169_86 m_169_86 =>
bd (fg_X9_put 100 7 8 7 0 4 (-1) m_169_86) fun _ m_180_93 =>
bd (fg_X9_add 100 23 24 10 0 0 0 0 m_180_93) fun r_199_105 m_199_105 =>
bd (fg_X9_add 100 23 24 10 1 0 0 0 m_199_105) fun r_199_118 m_199_118 =>
bd (fg_X9_add 100 23 24 10 2 0 0 0 m_199_118) fun r_199_131 m_199_131 =>
bd (fg_X9_add 100 23 24 10 3 0 0 0 m_199_131) fun r_199_144 m_199_144 =>
bd (fg_X9_add 100 23 24 10 4 0 0 0 m_199_144) fun r_199_157 m_199_157 =>
bd (fg_X9_add 100 23 24 10 5 0 0 0 m_199_157) fun r_199_170 m_199_170 =>
bd (fg_X9_add 100 23 24 10 6 0 0 0 m_199_170) fun r_199_183 m_199_183 =>
bd (fg_X9_add 100 23 24 10 7 0 0 0 m_199_183) fun r_199_196 m_199_196 =>
bd (fg_X9_add 100 23 24 10 8 0 0 0 m_199_196) fun r_199_209 m_199_209 =>
bd (fg_X9_add 100 23 24 10 9 0 0 0 m_199_209) fun r_199_222 m_199_222 =>
some (0, m_199_222)
set_option maxRecDepth 100000 in
set_option maxHeartbeats 8000000 in
theorem oi_1 (d : Nat) (m : Mem) : Ok SX S_48 (d + 2) m_X1_init 0 [some (.ref 2), none] [] S_4 m (gi_1 m) := by
  unfold gi_1
  refine ok_aload_n 1 0 dX1_init_0 rfl rfl rfl ?_
  refine ok_objInit 4 (by decide +kernel) dX1_init_1 rfl rfl ml_Encores_House_3 (Nat.le_of_ble_eq_true rfl) ?_
  refine ok_aload_n 5 0 dX1_init_4 rfl rfl rfl ?_
  refine ok_new (ty := ty9) (ci := 9) 8 dX1_init_5 rfl rfl kl_Encores_House_9 in_Encores_Table wi_Encores_Table (by decide) rfl ty9_ok dv_9 (by decide +kernel) (by decide +kernel) rfl (by decide +kernel) ?_
  refine ok_shape (S2 := S_5) rfl ?_
  refine ok_bndME (fun m_5_4 hm_m_5_4 => ?_)
  show Ok _ _ _ _ _ _ (.ref 3 :: _) _ _ _
  refine ok_dup 9 dX1_init_8 rfl rfl ?_
  refine ok_bipush 11 12 dX1_init_9 rfl rfl ?_
  refine ok_bipush 13 8 dX1_init_11 rfl rfl ?_
  refine ok_callI (np := 2) (M' := m_X9_init) (As := [.int 12, .int 8]) (st := [.ref 3, .ref 2]) (r := 3) 16 dX1_init_13 rfl rfl km_X9_init ki_X9_init ml_Encores_House_11 (by decide) rfl rfl rfl rfl (Nat.le_of_ble_eq_true rfl) (ci_2 (d + 0) m_5_4) (by decide +kernel) (Or.inr (okR_of rfl)) (fun _ m_13_8 _ => ?_)
  refine ok_putFR 19 dX1_init_16 rfl rfl rfl rfl F_Encores_House_14 (show S_7[2]? = some (1, 11, [none, none, none, none, none, none, none, none, none, none, none]) from rfl) (Nat.le_of_ble_eq_true rfl) (Nat.le_of_ble_eq_true rfl) rfl rfl pZ_1_0 (fun _ => rfl) (fun _ => rfl) ?_
  refine ok_shape (S2 := S_8) rfl ?_
  refine ok_aload_n 20 0 dX1_init_19 rfl rfl rfl ?_
  refine ok_new (ty := ty9) (ci := 9) 23 dX1_init_20 rfl rfl kl_Encores_House_9 in_Encores_Table wi_Encores_Table (by decide) rfl ty9_ok dv_9 (by decide +kernel) (by decide +kernel) rfl (by decide +kernel) ?_
  refine ok_shape (S2 := S_9) rfl ?_
  refine ok_bndME (fun m_20_11 hm_m_20_11 => ?_)
  show Ok _ _ _ _ _ _ (.ref 5 :: _) _ _ _
  refine ok_dup 24 dX1_init_23 rfl rfl ?_
  refine ok_bipush 26 8 dX1_init_24 rfl rfl ?_
  refine ok_iconst 27 5 dX1_init_26 rfl rfl ?_
  refine ok_callI (np := 2) (M' := m_X9_init) (As := [.int 8, .int 5]) (st := [.ref 5, .ref 2]) (r := 5) 30 dX1_init_27 rfl rfl km_X9_init ki_X9_init ml_Encores_House_11 (by decide) rfl rfl rfl rfl (Nat.le_of_ble_eq_true rfl) (ci_3 (d + 0) m_20_11) (by decide +kernel) (Or.inr (okR_of rfl)) (fun _ m_27_15 _ => ?_)
  refine ok_putFR 33 dX1_init_30 rfl rfl rfl rfl F_Encores_House_20 (show S_11[2]? = some (1, 11, [some 3, none, none, none, none, none, none, none, none, none, none]) from rfl) (Nat.le_of_ble_eq_true rfl) (Nat.le_of_ble_eq_true rfl) rfl rfl pZ_1_1 (fun _ => rfl) (fun _ => rfl) ?_
  refine ok_shape (S2 := S_12) rfl ?_
  refine ok_aload_n 34 0 dX1_init_33 rfl rfl rfl ?_
  refine ok_new (ty := ty9) (ci := 9) 37 dX1_init_34 rfl rfl kl_Encores_House_9 in_Encores_Table wi_Encores_Table (by decide) rfl ty9_ok dv_9 (by decide +kernel) (by decide +kernel) rfl (by decide +kernel) ?_
  refine ok_shape (S2 := S_13) rfl ?_
  refine ok_bndME (fun m_34_18 hm_m_34_18 => ?_)
  show Ok _ _ _ _ _ _ (.ref 7 :: _) _ _ _
  refine ok_dup 38 dX1_init_37 rfl rfl ?_
  refine ok_iconst 39 1 dX1_init_38 rfl rfl ?_
  refine ok_bipush 41 7 dX1_init_39 rfl rfl ?_
  refine ok_callI (np := 2) (M' := m_X9_init) (As := [.int 1, .int 7]) (st := [.ref 7, .ref 2]) (r := 7) 44 dX1_init_41 rfl rfl km_X9_init ki_X9_init ml_Encores_House_11 (by decide) rfl rfl rfl rfl (Nat.le_of_ble_eq_true rfl) (ci_4 (d + 0) m_34_18) (by decide +kernel) (Or.inr (okR_of rfl)) (fun _ m_41_22 _ => ?_)
  refine ok_putFR 47 dX1_init_44 rfl rfl rfl rfl F_Encores_House_23 (show S_15[2]? = some (1, 11, [some 3, some 5, none, none, none, none, none, none, none, none, none]) from rfl) (Nat.le_of_ble_eq_true rfl) (Nat.le_of_ble_eq_true rfl) rfl rfl pZ_1_2 (fun _ => rfl) (fun _ => rfl) ?_
  refine ok_shape (S2 := S_16) rfl ?_
  refine ok_aload_n 48 0 dX1_init_47 rfl rfl rfl ?_
  refine ok_new (ty := ty9) (ci := 9) 51 dX1_init_48 rfl rfl kl_Encores_House_9 in_Encores_Table wi_Encores_Table (by decide) rfl ty9_ok dv_9 (by decide +kernel) (by decide +kernel) rfl (by decide +kernel) ?_
  refine ok_shape (S2 := S_17) rfl ?_
  refine ok_bndME (fun m_48_25 hm_m_48_25 => ?_)
  show Ok _ _ _ _ _ _ (.ref 9 :: _) _ _ _
  refine ok_dup 52 dX1_init_51 rfl rfl ?_
  refine ok_sipush 55 150 dX1_init_52 rfl rfl ?_
  refine ok_iconst 56 4 dX1_init_55 rfl rfl ?_
  refine ok_callI (np := 2) (M' := m_X9_init) (As := [.int 150, .int 4]) (st := [.ref 9, .ref 2]) (r := 9) 59 dX1_init_56 rfl rfl km_X9_init ki_X9_init ml_Encores_House_11 (by decide) rfl rfl rfl rfl (Nat.le_of_ble_eq_true rfl) (ci_5 (d + 0) m_48_25) (by decide +kernel) (Or.inr (okR_of rfl)) (fun _ m_56_29 _ => ?_)
  refine ok_putFR 62 dX1_init_59 rfl rfl rfl rfl F_Encores_House_26 (show S_19[2]? = some (1, 11, [some 3, some 5, some 7, none, none, none, none, none, none, none, none]) from rfl) (Nat.le_of_ble_eq_true rfl) (Nat.le_of_ble_eq_true rfl) rfl rfl pZ_1_3 (fun _ => rfl) (fun _ => rfl) ?_
  refine ok_shape (S2 := S_20) rfl ?_
  refine ok_aload_n 63 0 dX1_init_62 rfl rfl rfl ?_
  refine ok_new (ty := ty9) (ci := 9) 66 dX1_init_63 rfl rfl kl_Encores_House_9 in_Encores_Table wi_Encores_Table (by decide) rfl ty9_ok dv_9 (by decide +kernel) (by decide +kernel) rfl (by decide +kernel) ?_
  refine ok_shape (S2 := S_21) rfl ?_
  refine ok_bndME (fun m_63_32 hm_m_63_32 => ?_)
  show Ok _ _ _ _ _ _ (.ref 11 :: _) _ _ _
  refine ok_dup 67 dX1_init_66 rfl rfl ?_
  refine ok_bipush 69 16 dX1_init_67 rfl rfl ?_
  refine ok_iconst 70 4 dX1_init_69 rfl rfl ?_
  refine ok_callI (np := 2) (M' := m_X9_init) (As := [.int 16, .int 4]) (st := [.ref 11, .ref 2]) (r := 11) 73 dX1_init_70 rfl rfl km_X9_init ki_X9_init ml_Encores_House_11 (by decide) rfl rfl rfl rfl (Nat.le_of_ble_eq_true rfl) (ci_6 (d + 0) m_63_32) (by decide +kernel) (Or.inr (okR_of rfl)) (fun _ m_70_36 _ => ?_)
  refine ok_putFR 76 dX1_init_73 rfl rfl rfl rfl F_Encores_House_29 (show S_23[2]? = some (1, 11, [some 3, some 5, some 7, some 9, none, none, none, none, none, none, none]) from rfl) (Nat.le_of_ble_eq_true rfl) (Nat.le_of_ble_eq_true rfl) rfl rfl pZ_1_4 (fun _ => rfl) (fun _ => rfl) ?_
  refine ok_shape (S2 := S_24) rfl ?_
  refine ok_aload_n 77 0 dX1_init_76 rfl rfl rfl ?_
  refine ok_new (ty := ty9) (ci := 9) 80 dX1_init_77 rfl rfl kl_Encores_House_9 in_Encores_Table wi_Encores_Table (by decide) rfl ty9_ok dv_9 (by decide +kernel) (by decide +kernel) rfl (by decide +kernel) ?_
  refine ok_shape (S2 := S_25) rfl ?_
  refine ok_bndME (fun m_77_39 hm_m_77_39 => ?_)
  show Ok _ _ _ _ _ _ (.ref 13 :: _) _ _ _
  refine ok_dup 81 dX1_init_80 rfl rfl ?_
  refine ok_sipush 84 400 dX1_init_81 rfl rfl ?_
  refine ok_iconst 85 2 dX1_init_84 rfl rfl ?_
  refine ok_callI (np := 2) (M' := m_X9_init) (As := [.int 400, .int 2]) (st := [.ref 13, .ref 2]) (r := 13) 88 dX1_init_85 rfl rfl km_X9_init ki_X9_init ml_Encores_House_11 (by decide) rfl rfl rfl rfl (Nat.le_of_ble_eq_true rfl) (ci_7 (d + 0) m_77_39) (by decide +kernel) (Or.inr (okR_of rfl)) (fun _ m_85_43 _ => ?_)
  refine ok_putFR 91 dX1_init_88 rfl rfl rfl rfl F_Encores_House_32 (show S_27[2]? = some (1, 11, [some 3, some 5, some 7, some 9, some 11, none, none, none, none, none, none]) from rfl) (Nat.le_of_ble_eq_true rfl) (Nat.le_of_ble_eq_true rfl) rfl rfl pZ_1_5 (fun _ => rfl) (fun _ => rfl) ?_
  refine ok_shape (S2 := S_28) rfl ?_
  refine ok_aload_n 92 0 dX1_init_91 rfl rfl rfl ?_
  refine ok_new (ty := ty9) (ci := 9) 95 dX1_init_92 rfl rfl kl_Encores_House_9 in_Encores_Table wi_Encores_Table (by decide) rfl ty9_ok dv_9 (by decide +kernel) (by decide +kernel) rfl (by decide +kernel) ?_
  refine ok_shape (S2 := S_29) rfl ?_
  refine ok_bndME (fun m_92_46 hm_m_92_46 => ?_)
  show Ok _ _ _ _ _ _ (.ref 15 :: _) _ _ _
  refine ok_dup 96 dX1_init_95 rfl rfl ?_
  refine ok_bipush 98 16 dX1_init_96 rfl rfl ?_
  refine ok_iconst 99 4 dX1_init_98 rfl rfl ?_
  refine ok_callI (np := 2) (M' := m_X9_init) (As := [.int 16, .int 4]) (st := [.ref 15, .ref 2]) (r := 15) 102 dX1_init_99 rfl rfl km_X9_init ki_X9_init ml_Encores_House_11 (by decide) rfl rfl rfl rfl (Nat.le_of_ble_eq_true rfl) (ci_8 (d + 0) m_92_46) (by decide +kernel) (Or.inr (okR_of rfl)) (fun _ m_99_50 _ => ?_)
  refine ok_putFR 105 dX1_init_102 rfl rfl rfl rfl F_Encores_House_35 (show S_31[2]? = some (1, 11, [some 3, some 5, some 7, some 9, some 11, some 13, none, none, none, none, none]) from rfl) (Nat.le_of_ble_eq_true rfl) (Nat.le_of_ble_eq_true rfl) rfl rfl pZ_1_6 (fun _ => rfl) (fun _ => rfl) ?_
  refine ok_shape (S2 := S_32) rfl ?_
  refine ok_aload_n 106 0 dX1_init_105 rfl rfl rfl ?_
  refine ok_new (ty := ty9) (ci := 9) 109 dX1_init_106 rfl rfl kl_Encores_House_9 in_Encores_Table wi_Encores_Table (by decide) rfl ty9_ok dv_9 (by decide +kernel) (by decide +kernel) rfl (by decide +kernel) ?_
  refine ok_shape (S2 := S_33) rfl ?_
  refine ok_bndME (fun m_106_53 hm_m_106_53 => ?_)
  show Ok _ _ _ _ _ _ (.ref 17 :: _) _ _ _
  refine ok_dup 110 dX1_init_109 rfl rfl ?_
  refine ok_bipush 112 16 dX1_init_110 rfl rfl ?_
  refine ok_iconst 113 4 dX1_init_112 rfl rfl ?_
  refine ok_callI (np := 2) (M' := m_X9_init) (As := [.int 16, .int 4]) (st := [.ref 17, .ref 2]) (r := 17) 116 dX1_init_113 rfl rfl km_X9_init ki_X9_init ml_Encores_House_11 (by decide) rfl rfl rfl rfl (Nat.le_of_ble_eq_true rfl) (ci_9 (d + 0) m_106_53) (by decide +kernel) (Or.inr (okR_of rfl)) (fun _ m_113_57 _ => ?_)
  refine ok_putFR 119 dX1_init_116 rfl rfl rfl rfl F_Encores_House_38 (show S_35[2]? = some (1, 11, [some 3, some 5, some 7, some 9, some 11, some 13, some 15, none, none, none, none]) from rfl) (Nat.le_of_ble_eq_true rfl) (Nat.le_of_ble_eq_true rfl) rfl rfl pZ_1_7 (fun _ => rfl) (fun _ => rfl) ?_
  refine ok_shape (S2 := S_36) rfl ?_
  refine ok_aload_n 120 0 dX1_init_119 rfl rfl rfl ?_
  refine ok_new (ty := ty9) (ci := 9) 123 dX1_init_120 rfl rfl kl_Encores_House_9 in_Encores_Table wi_Encores_Table (by decide) rfl ty9_ok dv_9 (by decide +kernel) (by decide +kernel) rfl (by decide +kernel) ?_
  refine ok_shape (S2 := S_37) rfl ?_
  refine ok_bndME (fun m_120_60 hm_m_120_60 => ?_)
  show Ok _ _ _ _ _ _ (.ref 19 :: _) _ _ _
  refine ok_dup 124 dX1_init_123 rfl rfl ?_
  refine ok_bipush 126 16 dX1_init_124 rfl rfl ?_
  refine ok_iconst 127 4 dX1_init_126 rfl rfl ?_
  refine ok_callI (np := 2) (M' := m_X9_init) (As := [.int 16, .int 4]) (st := [.ref 19, .ref 2]) (r := 19) 130 dX1_init_127 rfl rfl km_X9_init ki_X9_init ml_Encores_House_11 (by decide) rfl rfl rfl rfl (Nat.le_of_ble_eq_true rfl) (ci_10 (d + 0) m_120_60) (by decide +kernel) (Or.inr (okR_of rfl)) (fun _ m_127_64 _ => ?_)
  refine ok_putFR 133 dX1_init_130 rfl rfl rfl rfl F_Encores_House_41 (show S_39[2]? = some (1, 11, [some 3, some 5, some 7, some 9, some 11, some 13, some 15, some 17, none, none, none]) from rfl) (Nat.le_of_ble_eq_true rfl) (Nat.le_of_ble_eq_true rfl) rfl rfl pZ_1_8 (fun _ => rfl) (fun _ => rfl) ?_
  refine ok_shape (S2 := S_40) rfl ?_
  refine ok_aload_n 134 0 dX1_init_133 rfl rfl rfl ?_
  refine ok_new (ty := ty9) (ci := 9) 137 dX1_init_134 rfl rfl kl_Encores_House_9 in_Encores_Table wi_Encores_Table (by decide) rfl ty9_ok dv_9 (by decide +kernel) (by decide +kernel) rfl (by decide +kernel) ?_
  refine ok_shape (S2 := S_41) rfl ?_
  refine ok_bndME (fun m_134_67 hm_m_134_67 => ?_)
  show Ok _ _ _ _ _ _ (.ref 21 :: _) _ _ _
  refine ok_dup 138 dX1_init_137 rfl rfl ?_
  refine ok_bipush 140 8 dX1_init_138 rfl rfl ?_
  refine ok_iconst 141 2 dX1_init_140 rfl rfl ?_
  refine ok_callI (np := 2) (M' := m_X9_init) (As := [.int 8, .int 2]) (st := [.ref 21, .ref 2]) (r := 21) 144 dX1_init_141 rfl rfl km_X9_init ki_X9_init ml_Encores_House_11 (by decide) rfl rfl rfl rfl (Nat.le_of_ble_eq_true rfl) (ci_11 (d + 0) m_134_67) (by decide +kernel) (Or.inr (okR_of rfl)) (fun _ m_141_71 _ => ?_)
  refine ok_putFR 147 dX1_init_144 rfl rfl rfl rfl F_Encores_House_44 (show S_43[2]? = some (1, 11, [some 3, some 5, some 7, some 9, some 11, some 13, some 15, some 17, some 19, none, none]) from rfl) (Nat.le_of_ble_eq_true rfl) (Nat.le_of_ble_eq_true rfl) rfl rfl pZ_1_9 (fun _ => rfl) (fun _ => rfl) ?_
  refine ok_shape (S2 := S_44) rfl ?_
  refine ok_aload_n 148 0 dX1_init_147 rfl rfl rfl ?_
  refine ok_new (ty := ty9) (ci := 9) 151 dX1_init_148 rfl rfl kl_Encores_House_9 in_Encores_Table wi_Encores_Table (by decide) rfl ty9_ok dv_9 (by decide +kernel) (by decide +kernel) rfl (by decide +kernel) ?_
  refine ok_shape (S2 := S_45) rfl ?_
  refine ok_bndME (fun m_148_74 hm_m_148_74 => ?_)
  show Ok _ _ _ _ _ _ (.ref 23 :: _) _ _ _
  refine ok_dup 152 dX1_init_151 rfl rfl ?_
  refine ok_bipush 154 10 dX1_init_152 rfl rfl ?_
  refine ok_iconst 155 1 dX1_init_154 rfl rfl ?_
  refine ok_callI (np := 2) (M' := m_X9_init) (As := [.int 10, .int 1]) (st := [.ref 23, .ref 2]) (r := 23) 158 dX1_init_155 rfl rfl km_X9_init ki_X9_init ml_Encores_House_11 (by decide) rfl rfl rfl rfl (Nat.le_of_ble_eq_true rfl) (ci_12 (d + 0) m_148_74) (by decide +kernel) (Or.inr (okR_of rfl)) (fun _ m_155_78 _ => ?_)
  refine ok_putFR 161 dX1_init_158 rfl rfl rfl rfl F_Encores_House_47 (show S_47[2]? = some (1, 11, [some 3, some 5, some 7, some 9, some 11, some 13, some 15, some 17, some 19, some 21, none]) from rfl) (Nat.le_of_ble_eq_true rfl) (Nat.le_of_ble_eq_true rfl) rfl rfl pZ_1_10 (fun _ => rfl) (fun _ => rfl) ?_
  refine ok_shape (S2 := S_48) rfl ?_
  refine ok_aload_n 162 0 dX1_init_161 rfl rfl rfl ?_
  refine ok_getR 165 dX1_init_162 rfl rfl F_Encores_House_23 (show S_48[2]? = some (1, 11, [some 3, some 5, some 7, some 9, some 11, some 13, some 15, some 17, some 19, some 21, some 23]) from rfl) rfl (Nat.le_of_ble_eq_true rfl) rfl rfl ?_
  refine ok_iconst 166 0 dX1_init_165 rfl rfl ?_
  refine ok_iconst 167 0 dX1_init_166 rfl rfl ?_
  refine ok_iconst 168 0 dX1_init_167 rfl rfl ?_
  refine ok_iconst 169 0 dX1_init_168 rfl rfl ?_
  refine ok_callVi (np := 4) (M' := m_X9_add) (As := [.int 0, .int 0, .int 0, .int 0]) (st := []) 172 dX1_init_169 rfl rfl km_X9_add ki_X9_add kv_X9_add ml_Encores_House_50 (by decide) (show S_48[7]? = some (9, 4, [some 8, none, none, none]) from rfl) rfl (by decide) rfl rfl rfl (Nat.le_of_ble_eq_true rfl) (cg_X9_add 100 (d + 1) S_48 7 8 7 0 0 0 0 rfl rfl m_155_78) (by decide +kernel) (Or.inl rfl) rfl (fun r_169_86 m_169_86 _ => ?_)
  refine ok_pop 173 dX1_init_172 rfl rfl ?_
  refine ok_aload_n 174 0 dX1_init_173 rfl rfl rfl ?_
  refine ok_getR 177 dX1_init_174 rfl rfl F_Encores_House_23 (show S_48[2]? = some (1, 11, [some 3, some 5, some 7, some 9, some 11, some 13, some 15, some 17, some 19, some 21, some 23]) from rfl) rfl (Nat.le_of_ble_eq_true rfl) rfl rfl ?_
  refine ok_iconst 178 0 dX1_init_177 rfl rfl ?_
  refine ok_iconst 179 4 dX1_init_178 rfl rfl ?_
  refine ok_iconst 180 (-1) dX1_init_179 rfl rfl ?_
  refine ok_callVv (np := 3) (M' := m_X9_put) (As := [.int 0, .int 4, .int (-1)]) (st := []) 183 dX1_init_180 rfl rfl km_X9_put ki_X9_put kv_X9_put ml_Encores_House_54 (by decide) (show S_48[7]? = some (9, 4, [some 8, none, none, none]) from rfl) rfl (by decide) rfl rfl rfl (Nat.le_of_ble_eq_true rfl) (cg_X9_put 100 (d + 1) S_48 7 8 7 0 4 (-1) rfl rfl m_169_86) (by decide +kernel) (Or.inl rfl) rfl (fun _ m_180_93 _ => ?_)
  refine ok_iconst 184 0 dX1_init_183 rfl rfl ?_
  refine ok_istore_n 185 1 [some (.ref 2), some (.int 0)] dX1_init_184 rfl rfl (by decide) rfl ?_
  refine ok_iload_n 186 1 dX1_init_185 rfl rfl rfl ?_
  refine ok_bipush 188 10 dX1_init_186 rfl rfl ?_
  refine ok_eqx (if_neg (by decide : ¬ (10 : Int32) ≤ 0)) (ok_icmp_ge (x1 := none) 209 191 dX1_init_188 (by decide) rfl (fun _ => Ok.none) (fun _ => ?_))
  refine ok_aload_n 192 0 dX1_init_191 rfl rfl rfl ?_
  refine ok_getR 195 dX1_init_192 rfl rfl F_Encores_House_47 (show S_48[2]? = some (1, 11, [some 3, some 5, some 7, some 9, some 11, some 13, some 15, some 17, some 19, some 21, some 23]) from rfl) rfl (Nat.le_of_ble_eq_true rfl) rfl rfl ?_
  refine ok_iload_n 196 1 dX1_init_195 rfl rfl rfl ?_
  refine ok_iconst 197 0 dX1_init_196 rfl rfl ?_
  refine ok_iconst 198 0 dX1_init_197 rfl rfl ?_
  refine ok_iconst 199 0 dX1_init_198 rfl rfl ?_
  refine ok_callVi (np := 4) (M' := m_X9_add) (As := [.int 0, .int 0, .int 0, .int 0]) (st := []) 202 dX1_init_199 rfl rfl km_X9_add ki_X9_add kv_X9_add ml_Encores_House_50 (by decide) (show S_48[23]? = some (9, 4, [some 24, none, none, none]) from rfl) rfl (by decide) rfl rfl rfl (Nat.le_of_ble_eq_true rfl) (cg_X9_add 100 (d + 1) S_48 23 24 10 0 0 0 0 rfl rfl m_180_93) (by decide +kernel) (Or.inl rfl) rfl (fun r_199_105 m_199_105 _ => ?_)
  refine ok_pop 203 dX1_init_202 rfl rfl ?_
  refine ok_iinc 206 1 1 [some (.ref 2), some (.int 1)] dX1_init_203 rfl rfl rfl (by decide) rfl ?_
  refine ok_goto 185 dX1_init_206 (by decide) ?_
  refine ok_iload_n 186 1 dX1_init_185 rfl rfl rfl ?_
  refine ok_bipush 188 10 dX1_init_186 rfl rfl ?_
  refine ok_eqx (if_neg (by decide : ¬ (10 : Int32) ≤ 1)) (ok_icmp_ge (x1 := none) 209 191 dX1_init_188 (by decide) rfl (fun _ => Ok.none) (fun _ => ?_))
  refine ok_aload_n 192 0 dX1_init_191 rfl rfl rfl ?_
  refine ok_getR 195 dX1_init_192 rfl rfl F_Encores_House_47 (show S_48[2]? = some (1, 11, [some 3, some 5, some 7, some 9, some 11, some 13, some 15, some 17, some 19, some 21, some 23]) from rfl) rfl (Nat.le_of_ble_eq_true rfl) rfl rfl ?_
  refine ok_iload_n 196 1 dX1_init_195 rfl rfl rfl ?_
  refine ok_iconst 197 0 dX1_init_196 rfl rfl ?_
  refine ok_iconst 198 0 dX1_init_197 rfl rfl ?_
  refine ok_iconst 199 0 dX1_init_198 rfl rfl ?_
  refine ok_callVi (np := 4) (M' := m_X9_add) (As := [.int 1, .int 0, .int 0, .int 0]) (st := []) 202 dX1_init_199 rfl rfl km_X9_add ki_X9_add kv_X9_add ml_Encores_House_50 (by decide) (show S_48[23]? = some (9, 4, [some 24, none, none, none]) from rfl) rfl (by decide) rfl rfl rfl (Nat.le_of_ble_eq_true rfl) (cg_X9_add 100 (d + 1) S_48 23 24 10 1 0 0 0 rfl rfl m_199_105) (by decide +kernel) (Or.inl rfl) rfl (fun r_199_118 m_199_118 _ => ?_)
  refine ok_pop 203 dX1_init_202 rfl rfl ?_
  refine ok_iinc 206 1 1 [some (.ref 2), some (.int 2)] dX1_init_203 rfl rfl rfl (by decide) rfl ?_
  refine ok_goto 185 dX1_init_206 (by decide) ?_
  refine ok_iload_n 186 1 dX1_init_185 rfl rfl rfl ?_
  refine ok_bipush 188 10 dX1_init_186 rfl rfl ?_
  refine ok_eqx (if_neg (by decide : ¬ (10 : Int32) ≤ 2)) (ok_icmp_ge (x1 := none) 209 191 dX1_init_188 (by decide) rfl (fun _ => Ok.none) (fun _ => ?_))
  refine ok_aload_n 192 0 dX1_init_191 rfl rfl rfl ?_
  refine ok_getR 195 dX1_init_192 rfl rfl F_Encores_House_47 (show S_48[2]? = some (1, 11, [some 3, some 5, some 7, some 9, some 11, some 13, some 15, some 17, some 19, some 21, some 23]) from rfl) rfl (Nat.le_of_ble_eq_true rfl) rfl rfl ?_
  refine ok_iload_n 196 1 dX1_init_195 rfl rfl rfl ?_
  refine ok_iconst 197 0 dX1_init_196 rfl rfl ?_
  refine ok_iconst 198 0 dX1_init_197 rfl rfl ?_
  refine ok_iconst 199 0 dX1_init_198 rfl rfl ?_
  refine ok_callVi (np := 4) (M' := m_X9_add) (As := [.int 2, .int 0, .int 0, .int 0]) (st := []) 202 dX1_init_199 rfl rfl km_X9_add ki_X9_add kv_X9_add ml_Encores_House_50 (by decide) (show S_48[23]? = some (9, 4, [some 24, none, none, none]) from rfl) rfl (by decide) rfl rfl rfl (Nat.le_of_ble_eq_true rfl) (cg_X9_add 100 (d + 1) S_48 23 24 10 2 0 0 0 rfl rfl m_199_118) (by decide +kernel) (Or.inl rfl) rfl (fun r_199_131 m_199_131 _ => ?_)
  refine ok_pop 203 dX1_init_202 rfl rfl ?_
  refine ok_iinc 206 1 1 [some (.ref 2), some (.int 3)] dX1_init_203 rfl rfl rfl (by decide) rfl ?_
  refine ok_goto 185 dX1_init_206 (by decide) ?_
  refine ok_iload_n 186 1 dX1_init_185 rfl rfl rfl ?_
  refine ok_bipush 188 10 dX1_init_186 rfl rfl ?_
  refine ok_eqx (if_neg (by decide : ¬ (10 : Int32) ≤ 3)) (ok_icmp_ge (x1 := none) 209 191 dX1_init_188 (by decide) rfl (fun _ => Ok.none) (fun _ => ?_))
  refine ok_aload_n 192 0 dX1_init_191 rfl rfl rfl ?_
  refine ok_getR 195 dX1_init_192 rfl rfl F_Encores_House_47 (show S_48[2]? = some (1, 11, [some 3, some 5, some 7, some 9, some 11, some 13, some 15, some 17, some 19, some 21, some 23]) from rfl) rfl (Nat.le_of_ble_eq_true rfl) rfl rfl ?_
  refine ok_iload_n 196 1 dX1_init_195 rfl rfl rfl ?_
  refine ok_iconst 197 0 dX1_init_196 rfl rfl ?_
  refine ok_iconst 198 0 dX1_init_197 rfl rfl ?_
  refine ok_iconst 199 0 dX1_init_198 rfl rfl ?_
  refine ok_callVi (np := 4) (M' := m_X9_add) (As := [.int 3, .int 0, .int 0, .int 0]) (st := []) 202 dX1_init_199 rfl rfl km_X9_add ki_X9_add kv_X9_add ml_Encores_House_50 (by decide) (show S_48[23]? = some (9, 4, [some 24, none, none, none]) from rfl) rfl (by decide) rfl rfl rfl (Nat.le_of_ble_eq_true rfl) (cg_X9_add 100 (d + 1) S_48 23 24 10 3 0 0 0 rfl rfl m_199_131) (by decide +kernel) (Or.inl rfl) rfl (fun r_199_144 m_199_144 _ => ?_)
  refine ok_pop 203 dX1_init_202 rfl rfl ?_
  refine ok_iinc 206 1 1 [some (.ref 2), some (.int 4)] dX1_init_203 rfl rfl rfl (by decide) rfl ?_
  refine ok_goto 185 dX1_init_206 (by decide) ?_
  refine ok_iload_n 186 1 dX1_init_185 rfl rfl rfl ?_
  refine ok_bipush 188 10 dX1_init_186 rfl rfl ?_
  refine ok_eqx (if_neg (by decide : ¬ (10 : Int32) ≤ 4)) (ok_icmp_ge (x1 := none) 209 191 dX1_init_188 (by decide) rfl (fun _ => Ok.none) (fun _ => ?_))
  refine ok_aload_n 192 0 dX1_init_191 rfl rfl rfl ?_
  refine ok_getR 195 dX1_init_192 rfl rfl F_Encores_House_47 (show S_48[2]? = some (1, 11, [some 3, some 5, some 7, some 9, some 11, some 13, some 15, some 17, some 19, some 21, some 23]) from rfl) rfl (Nat.le_of_ble_eq_true rfl) rfl rfl ?_
  refine ok_iload_n 196 1 dX1_init_195 rfl rfl rfl ?_
  refine ok_iconst 197 0 dX1_init_196 rfl rfl ?_
  refine ok_iconst 198 0 dX1_init_197 rfl rfl ?_
  refine ok_iconst 199 0 dX1_init_198 rfl rfl ?_
  refine ok_callVi (np := 4) (M' := m_X9_add) (As := [.int 4, .int 0, .int 0, .int 0]) (st := []) 202 dX1_init_199 rfl rfl km_X9_add ki_X9_add kv_X9_add ml_Encores_House_50 (by decide) (show S_48[23]? = some (9, 4, [some 24, none, none, none]) from rfl) rfl (by decide) rfl rfl rfl (Nat.le_of_ble_eq_true rfl) (cg_X9_add 100 (d + 1) S_48 23 24 10 4 0 0 0 rfl rfl m_199_144) (by decide +kernel) (Or.inl rfl) rfl (fun r_199_157 m_199_157 _ => ?_)
  refine ok_pop 203 dX1_init_202 rfl rfl ?_
  refine ok_iinc 206 1 1 [some (.ref 2), some (.int 5)] dX1_init_203 rfl rfl rfl (by decide) rfl ?_
  refine ok_goto 185 dX1_init_206 (by decide) ?_
  refine ok_iload_n 186 1 dX1_init_185 rfl rfl rfl ?_
  refine ok_bipush 188 10 dX1_init_186 rfl rfl ?_
  refine ok_eqx (if_neg (by decide : ¬ (10 : Int32) ≤ 5)) (ok_icmp_ge (x1 := none) 209 191 dX1_init_188 (by decide) rfl (fun _ => Ok.none) (fun _ => ?_))
  refine ok_aload_n 192 0 dX1_init_191 rfl rfl rfl ?_
  refine ok_getR 195 dX1_init_192 rfl rfl F_Encores_House_47 (show S_48[2]? = some (1, 11, [some 3, some 5, some 7, some 9, some 11, some 13, some 15, some 17, some 19, some 21, some 23]) from rfl) rfl (Nat.le_of_ble_eq_true rfl) rfl rfl ?_
  refine ok_iload_n 196 1 dX1_init_195 rfl rfl rfl ?_
  refine ok_iconst 197 0 dX1_init_196 rfl rfl ?_
  refine ok_iconst 198 0 dX1_init_197 rfl rfl ?_
  refine ok_iconst 199 0 dX1_init_198 rfl rfl ?_
  refine ok_callVi (np := 4) (M' := m_X9_add) (As := [.int 5, .int 0, .int 0, .int 0]) (st := []) 202 dX1_init_199 rfl rfl km_X9_add ki_X9_add kv_X9_add ml_Encores_House_50 (by decide) (show S_48[23]? = some (9, 4, [some 24, none, none, none]) from rfl) rfl (by decide) rfl rfl rfl (Nat.le_of_ble_eq_true rfl) (cg_X9_add 100 (d + 1) S_48 23 24 10 5 0 0 0 rfl rfl m_199_157) (by decide +kernel) (Or.inl rfl) rfl (fun r_199_170 m_199_170 _ => ?_)
  refine ok_pop 203 dX1_init_202 rfl rfl ?_
  refine ok_iinc 206 1 1 [some (.ref 2), some (.int 6)] dX1_init_203 rfl rfl rfl (by decide) rfl ?_
  refine ok_goto 185 dX1_init_206 (by decide) ?_
  refine ok_iload_n 186 1 dX1_init_185 rfl rfl rfl ?_
  refine ok_bipush 188 10 dX1_init_186 rfl rfl ?_
  refine ok_eqx (if_neg (by decide : ¬ (10 : Int32) ≤ 6)) (ok_icmp_ge (x1 := none) 209 191 dX1_init_188 (by decide) rfl (fun _ => Ok.none) (fun _ => ?_))
  refine ok_aload_n 192 0 dX1_init_191 rfl rfl rfl ?_
  refine ok_getR 195 dX1_init_192 rfl rfl F_Encores_House_47 (show S_48[2]? = some (1, 11, [some 3, some 5, some 7, some 9, some 11, some 13, some 15, some 17, some 19, some 21, some 23]) from rfl) rfl (Nat.le_of_ble_eq_true rfl) rfl rfl ?_
  refine ok_iload_n 196 1 dX1_init_195 rfl rfl rfl ?_
  refine ok_iconst 197 0 dX1_init_196 rfl rfl ?_
  refine ok_iconst 198 0 dX1_init_197 rfl rfl ?_
  refine ok_iconst 199 0 dX1_init_198 rfl rfl ?_
  refine ok_callVi (np := 4) (M' := m_X9_add) (As := [.int 6, .int 0, .int 0, .int 0]) (st := []) 202 dX1_init_199 rfl rfl km_X9_add ki_X9_add kv_X9_add ml_Encores_House_50 (by decide) (show S_48[23]? = some (9, 4, [some 24, none, none, none]) from rfl) rfl (by decide) rfl rfl rfl (Nat.le_of_ble_eq_true rfl) (cg_X9_add 100 (d + 1) S_48 23 24 10 6 0 0 0 rfl rfl m_199_170) (by decide +kernel) (Or.inl rfl) rfl (fun r_199_183 m_199_183 _ => ?_)
  refine ok_pop 203 dX1_init_202 rfl rfl ?_
  refine ok_iinc 206 1 1 [some (.ref 2), some (.int 7)] dX1_init_203 rfl rfl rfl (by decide) rfl ?_
  refine ok_goto 185 dX1_init_206 (by decide) ?_
  refine ok_iload_n 186 1 dX1_init_185 rfl rfl rfl ?_
  refine ok_bipush 188 10 dX1_init_186 rfl rfl ?_
  refine ok_eqx (if_neg (by decide : ¬ (10 : Int32) ≤ 7)) (ok_icmp_ge (x1 := none) 209 191 dX1_init_188 (by decide) rfl (fun _ => Ok.none) (fun _ => ?_))
  refine ok_aload_n 192 0 dX1_init_191 rfl rfl rfl ?_
  refine ok_getR 195 dX1_init_192 rfl rfl F_Encores_House_47 (show S_48[2]? = some (1, 11, [some 3, some 5, some 7, some 9, some 11, some 13, some 15, some 17, some 19, some 21, some 23]) from rfl) rfl (Nat.le_of_ble_eq_true rfl) rfl rfl ?_
  refine ok_iload_n 196 1 dX1_init_195 rfl rfl rfl ?_
  refine ok_iconst 197 0 dX1_init_196 rfl rfl ?_
  refine ok_iconst 198 0 dX1_init_197 rfl rfl ?_
  refine ok_iconst 199 0 dX1_init_198 rfl rfl ?_
  refine ok_callVi (np := 4) (M' := m_X9_add) (As := [.int 7, .int 0, .int 0, .int 0]) (st := []) 202 dX1_init_199 rfl rfl km_X9_add ki_X9_add kv_X9_add ml_Encores_House_50 (by decide) (show S_48[23]? = some (9, 4, [some 24, none, none, none]) from rfl) rfl (by decide) rfl rfl rfl (Nat.le_of_ble_eq_true rfl) (cg_X9_add 100 (d + 1) S_48 23 24 10 7 0 0 0 rfl rfl m_199_183) (by decide +kernel) (Or.inl rfl) rfl (fun r_199_196 m_199_196 _ => ?_)
  refine ok_pop 203 dX1_init_202 rfl rfl ?_
  refine ok_iinc 206 1 1 [some (.ref 2), some (.int 8)] dX1_init_203 rfl rfl rfl (by decide) rfl ?_
  refine ok_goto 185 dX1_init_206 (by decide) ?_
  refine ok_iload_n 186 1 dX1_init_185 rfl rfl rfl ?_
  refine ok_bipush 188 10 dX1_init_186 rfl rfl ?_
  refine ok_eqx (if_neg (by decide : ¬ (10 : Int32) ≤ 8)) (ok_icmp_ge (x1 := none) 209 191 dX1_init_188 (by decide) rfl (fun _ => Ok.none) (fun _ => ?_))
  refine ok_aload_n 192 0 dX1_init_191 rfl rfl rfl ?_
  refine ok_getR 195 dX1_init_192 rfl rfl F_Encores_House_47 (show S_48[2]? = some (1, 11, [some 3, some 5, some 7, some 9, some 11, some 13, some 15, some 17, some 19, some 21, some 23]) from rfl) rfl (Nat.le_of_ble_eq_true rfl) rfl rfl ?_
  refine ok_iload_n 196 1 dX1_init_195 rfl rfl rfl ?_
  refine ok_iconst 197 0 dX1_init_196 rfl rfl ?_
  refine ok_iconst 198 0 dX1_init_197 rfl rfl ?_
  refine ok_iconst 199 0 dX1_init_198 rfl rfl ?_
  refine ok_callVi (np := 4) (M' := m_X9_add) (As := [.int 8, .int 0, .int 0, .int 0]) (st := []) 202 dX1_init_199 rfl rfl km_X9_add ki_X9_add kv_X9_add ml_Encores_House_50 (by decide) (show S_48[23]? = some (9, 4, [some 24, none, none, none]) from rfl) rfl (by decide) rfl rfl rfl (Nat.le_of_ble_eq_true rfl) (cg_X9_add 100 (d + 1) S_48 23 24 10 8 0 0 0 rfl rfl m_199_196) (by decide +kernel) (Or.inl rfl) rfl (fun r_199_209 m_199_209 _ => ?_)
  refine ok_pop 203 dX1_init_202 rfl rfl ?_
  refine ok_iinc 206 1 1 [some (.ref 2), some (.int 9)] dX1_init_203 rfl rfl rfl (by decide) rfl ?_
  refine ok_goto 185 dX1_init_206 (by decide) ?_
  refine ok_iload_n 186 1 dX1_init_185 rfl rfl rfl ?_
  refine ok_bipush 188 10 dX1_init_186 rfl rfl ?_
  refine ok_eqx (if_neg (by decide : ¬ (10 : Int32) ≤ 9)) (ok_icmp_ge (x1 := none) 209 191 dX1_init_188 (by decide) rfl (fun _ => Ok.none) (fun _ => ?_))
  refine ok_aload_n 192 0 dX1_init_191 rfl rfl rfl ?_
  refine ok_getR 195 dX1_init_192 rfl rfl F_Encores_House_47 (show S_48[2]? = some (1, 11, [some 3, some 5, some 7, some 9, some 11, some 13, some 15, some 17, some 19, some 21, some 23]) from rfl) rfl (Nat.le_of_ble_eq_true rfl) rfl rfl ?_
  refine ok_iload_n 196 1 dX1_init_195 rfl rfl rfl ?_
  refine ok_iconst 197 0 dX1_init_196 rfl rfl ?_
  refine ok_iconst 198 0 dX1_init_197 rfl rfl ?_
  refine ok_iconst 199 0 dX1_init_198 rfl rfl ?_
  refine ok_callVi (np := 4) (M' := m_X9_add) (As := [.int 9, .int 0, .int 0, .int 0]) (st := []) 202 dX1_init_199 rfl rfl km_X9_add ki_X9_add kv_X9_add ml_Encores_House_50 (by decide) (show S_48[23]? = some (9, 4, [some 24, none, none, none]) from rfl) rfl (by decide) rfl rfl rfl (Nat.le_of_ble_eq_true rfl) (cg_X9_add 100 (d + 1) S_48 23 24 10 9 0 0 0 rfl rfl m_199_209) (by decide +kernel) (Or.inl rfl) rfl (fun r_199_222 m_199_222 _ => ?_)
  refine ok_pop 203 dX1_init_202 rfl rfl ?_
  refine ok_iinc 206 1 1 [some (.ref 2), some (.int 10)] dX1_init_203 rfl rfl rfl (by decide) rfl ?_
  refine ok_goto 185 dX1_init_206 (by decide) ?_
  refine ok_iload_n 186 1 dX1_init_185 rfl rfl rfl ?_
  refine ok_bipush 188 10 dX1_init_186 rfl rfl ?_
  refine ok_eqx (if_pos (by decide : (10 : Int32) ≤ 10)) (ok_icmp_ge (x2 := none) 209 191 dX1_init_188 (by decide) rfl (fun _ => ?_) (fun _ => Ok.none))
  exact ok_vret dX1_init_209 rfl
theorem ci_1 (d : Nat) (m : Mem) : CM SX (d + 2) m_X1_init S_48 S_4 [.ref 2] m (gi_1 m) :=
  CM.ofOk km_X1_init (by decide +kernel) (by simp [Value.category]) (Nat.le_of_ble_eq_true rfl) (oi_1 d m)

def gi_14 (m : Mem) : Ans :=
bnd (mset m 26 1 12) fun m_10_7 =>
bnd (mset m_10_7 26 2 8) fun m_19_12 =>
bnd (mnew m_19_12 27) fun m_36_21 =>
bnd (mset m_36_21 26 3 0) fun m_43_25 =>
some (0, m_43_25)
set_option maxRecDepth 100000 in
set_option maxHeartbeats 8000000 in
theorem oi_14 (d : Nat) (m : Mem) : Ok SX S_53 (d + 1) m_X9_init 0 [some (.ref 26), some (.int 12), some (.int 8)] [] S_51 m (gi_14 m) := by
  unfold gi_14
  refine ok_aload_n 1 0 dX9_init_0 rfl rfl rfl ?_
  refine ok_objInit 4 (by decide +kernel) dX9_init_1 rfl rfl ml_Encores_Table_3 (Nat.le_of_ble_eq_true rfl) ?_
  refine ok_aload_n 5 0 dX9_init_4 rfl rfl rfl ?_
  refine ok_iconst 6 0 dX9_init_5 rfl rfl ?_
  refine ok_iload_n 7 1 dX9_init_6 rfl rfl rfl ?_
  refine ok_max 10 (by decide +kernel) dX9_init_7 rfl rfl ml_Encores_Table_9 (Nat.le_of_ble_eq_true rfl) ?_
  rw [show (if (0 : Int32) < 12 then (12 : Int32) else 0) = 12 by decide]
  refine ok_putF 13 dX9_init_10 rfl rfl rfl rfl F_Encores_Table_15 (show S_51[26]? = some (9, 4, [none, none, none, none]) from rfl) rfl (Nat.le_of_ble_eq_true rfl) rfl rfl pZ_9_1 rfl rfl ?_
  refine ok_bndME (fun m_10_7 hm_m_10_7 => ?_)
  refine ok_aload_n 14 0 dX9_init_13 rfl rfl rfl ?_
  refine ok_iconst 15 1 dX9_init_14 rfl rfl ?_
  refine ok_iload_n 16 2 dX9_init_15 rfl rfl rfl ?_
  refine ok_max 19 (by decide +kernel) dX9_init_16 rfl rfl ml_Encores_Table_9 (Nat.le_of_ble_eq_true rfl) ?_
  rw [show (if (1 : Int32) < 8 then (8 : Int32) else 1) = 8 by decide]
  refine ok_putF 22 dX9_init_19 rfl rfl rfl rfl F_Encores_Table_21 (show S_51[26]? = some (9, 4, [none, none, none, none]) from rfl) rfl (Nat.le_of_ble_eq_true rfl) rfl rfl pZ_9_2 rfl rfl ?_
  refine ok_bndME (fun m_19_12 hm_m_19_12 => ?_)
  refine ok_aload_n 23 0 dX9_init_22 rfl rfl rfl ?_
  refine ok_iconst 24 0 dX9_init_23 rfl rfl ?_
  refine ok_aload_n 25 0 dX9_init_24 rfl rfl rfl ?_
  refine ok_getI 28 dX9_init_25 rfl rfl F_Encores_Table_15 (show S_51[26]? = some (9, 4, [none, none, none, none]) from rfl) rfl (Nat.le_of_ble_eq_true rfl) rfl ?_
  rw [show m_19_12 26 1 = 12 by subst_vars; rfl]
  refine ok_aload_n 29 0 dX9_init_28 rfl rfl rfl ?_
  refine ok_getI 32 dX9_init_29 rfl rfl F_Encores_Table_21 (show S_51[26]? = some (9, 4, [none, none, none, none]) from rfl) rfl (Nat.le_of_ble_eq_true rfl) rfl ?_
  rw [show m_19_12 26 2 = 8 by subst_vars; rfl]
  refine ok_imul 33 dX9_init_32 rfl ?_
  rw [show (12 * 8 : Int32) = 96 by decide]
  refine ok_max 36 (by decide +kernel) dX9_init_33 rfl rfl ml_Encores_Table_9 (Nat.le_of_ble_eq_true rfl) ?_
  rw [show (if (0 : Int32) < 96 then (96 : Int32) else 0) = 96 by decide]
  refine ok_newa (N := 96) 38 dX9_init_36 rfl (by decide) (by decide) (by decide) (by decide +kernel) (by decide +kernel) rfl (by decide +kernel) ?_
  refine ok_shape (S2 := S_52) rfl ?_
  refine ok_bndME (fun m_36_21 hm_m_36_21 => ?_)
  show Ok _ _ _ _ _ _ (.ref 27 :: _) _ _ _
  refine ok_putFR 41 dX9_init_38 rfl rfl rfl rfl F_Encores_Table_24 (show S_52[26]? = some (9, 4, [none, none, none, none]) from rfl) (Nat.le_of_ble_eq_true rfl) (Nat.le_of_ble_eq_true rfl) rfl rfl pZ_9_0 (fun _ => rfl) (fun _ => rfl) ?_
  refine ok_shape (S2 := S_53) rfl ?_
  refine ok_aload_n 42 0 dX9_init_41 rfl rfl rfl ?_
  refine ok_iconst 43 0 dX9_init_42 rfl rfl ?_
  refine ok_putI 46 dX9_init_43 rfl rfl F_Encores_Table_28 (show S_53[26]? = some (9, 4, [some 27, none, none, none]) from rfl) rfl (Nat.le_of_ble_eq_true rfl) rfl rfl pZ_9_3 rfl rfl ?_
  refine ok_bndME (fun m_43_25 hm_m_43_25 => ?_)
  exact ok_vret dX9_init_46 rfl
theorem ci_14 (d : Nat) (m : Mem) : CM SX (d + 1) m_X9_init S_53 S_51 [.ref 26, .int 12, .int 8] m (gi_14 m) :=
  CM.ofOk km_X9_init (by decide +kernel) (by simp [Value.category]) (Nat.le_of_ble_eq_true rfl) (oi_14 d m)

def gi_15 (m : Mem) : Ans :=
bnd (mset m 28 1 8) fun m_10_7 =>
bnd (mset m_10_7 28 2 5) fun m_19_12 =>
bnd (mnew m_19_12 29) fun m_36_21 =>
bnd (mset m_36_21 28 3 0) fun m_43_25 =>
some (0, m_43_25)
set_option maxRecDepth 100000 in
set_option maxHeartbeats 8000000 in
theorem oi_15 (d : Nat) (m : Mem) : Ok SX S_57 (d + 1) m_X9_init 0 [some (.ref 28), some (.int 8), some (.int 5)] [] S_55 m (gi_15 m) := by
  unfold gi_15
  refine ok_aload_n 1 0 dX9_init_0 rfl rfl rfl ?_
  refine ok_objInit 4 (by decide +kernel) dX9_init_1 rfl rfl ml_Encores_Table_3 (Nat.le_of_ble_eq_true rfl) ?_
  refine ok_aload_n 5 0 dX9_init_4 rfl rfl rfl ?_
  refine ok_iconst 6 0 dX9_init_5 rfl rfl ?_
  refine ok_iload_n 7 1 dX9_init_6 rfl rfl rfl ?_
  refine ok_max 10 (by decide +kernel) dX9_init_7 rfl rfl ml_Encores_Table_9 (Nat.le_of_ble_eq_true rfl) ?_
  rw [show (if (0 : Int32) < 8 then (8 : Int32) else 0) = 8 by decide]
  refine ok_putF 13 dX9_init_10 rfl rfl rfl rfl F_Encores_Table_15 (show S_55[28]? = some (9, 4, [none, none, none, none]) from rfl) rfl (Nat.le_of_ble_eq_true rfl) rfl rfl pZ_9_1 rfl rfl ?_
  refine ok_bndME (fun m_10_7 hm_m_10_7 => ?_)
  refine ok_aload_n 14 0 dX9_init_13 rfl rfl rfl ?_
  refine ok_iconst 15 1 dX9_init_14 rfl rfl ?_
  refine ok_iload_n 16 2 dX9_init_15 rfl rfl rfl ?_
  refine ok_max 19 (by decide +kernel) dX9_init_16 rfl rfl ml_Encores_Table_9 (Nat.le_of_ble_eq_true rfl) ?_
  rw [show (if (1 : Int32) < 5 then (5 : Int32) else 1) = 5 by decide]
  refine ok_putF 22 dX9_init_19 rfl rfl rfl rfl F_Encores_Table_21 (show S_55[28]? = some (9, 4, [none, none, none, none]) from rfl) rfl (Nat.le_of_ble_eq_true rfl) rfl rfl pZ_9_2 rfl rfl ?_
  refine ok_bndME (fun m_19_12 hm_m_19_12 => ?_)
  refine ok_aload_n 23 0 dX9_init_22 rfl rfl rfl ?_
  refine ok_iconst 24 0 dX9_init_23 rfl rfl ?_
  refine ok_aload_n 25 0 dX9_init_24 rfl rfl rfl ?_
  refine ok_getI 28 dX9_init_25 rfl rfl F_Encores_Table_15 (show S_55[28]? = some (9, 4, [none, none, none, none]) from rfl) rfl (Nat.le_of_ble_eq_true rfl) rfl ?_
  rw [show m_19_12 28 1 = 8 by subst_vars; rfl]
  refine ok_aload_n 29 0 dX9_init_28 rfl rfl rfl ?_
  refine ok_getI 32 dX9_init_29 rfl rfl F_Encores_Table_21 (show S_55[28]? = some (9, 4, [none, none, none, none]) from rfl) rfl (Nat.le_of_ble_eq_true rfl) rfl ?_
  rw [show m_19_12 28 2 = 5 by subst_vars; rfl]
  refine ok_imul 33 dX9_init_32 rfl ?_
  rw [show (8 * 5 : Int32) = 40 by decide]
  refine ok_max 36 (by decide +kernel) dX9_init_33 rfl rfl ml_Encores_Table_9 (Nat.le_of_ble_eq_true rfl) ?_
  rw [show (if (0 : Int32) < 40 then (40 : Int32) else 0) = 40 by decide]
  refine ok_newa (N := 40) 38 dX9_init_36 rfl (by decide) (by decide) (by decide) (by decide +kernel) (by decide +kernel) rfl (by decide +kernel) ?_
  refine ok_shape (S2 := S_56) rfl ?_
  refine ok_bndME (fun m_36_21 hm_m_36_21 => ?_)
  show Ok _ _ _ _ _ _ (.ref 29 :: _) _ _ _
  refine ok_putFR 41 dX9_init_38 rfl rfl rfl rfl F_Encores_Table_24 (show S_56[28]? = some (9, 4, [none, none, none, none]) from rfl) (Nat.le_of_ble_eq_true rfl) (Nat.le_of_ble_eq_true rfl) rfl rfl pZ_9_0 (fun _ => rfl) (fun _ => rfl) ?_
  refine ok_shape (S2 := S_57) rfl ?_
  refine ok_aload_n 42 0 dX9_init_41 rfl rfl rfl ?_
  refine ok_iconst 43 0 dX9_init_42 rfl rfl ?_
  refine ok_putI 46 dX9_init_43 rfl rfl F_Encores_Table_28 (show S_57[28]? = some (9, 4, [some 29, none, none, none]) from rfl) rfl (Nat.le_of_ble_eq_true rfl) rfl rfl pZ_9_3 rfl rfl ?_
  refine ok_bndME (fun m_43_25 hm_m_43_25 => ?_)
  exact ok_vret dX9_init_46 rfl
theorem ci_15 (d : Nat) (m : Mem) : CM SX (d + 1) m_X9_init S_57 S_55 [.ref 28, .int 8, .int 5] m (gi_15 m) :=
  CM.ofOk km_X9_init (by decide +kernel) (by simp [Value.category]) (Nat.le_of_ble_eq_true rfl) (oi_15 d m)

def gi_16 (m : Mem) : Ans :=
bnd (mset m 30 1 1) fun m_10_7 =>
bnd (mset m_10_7 30 2 7) fun m_19_12 =>
bnd (mnew m_19_12 31) fun m_36_21 =>
bnd (mset m_36_21 30 3 0) fun m_43_25 =>
some (0, m_43_25)
set_option maxRecDepth 100000 in
set_option maxHeartbeats 8000000 in
theorem oi_16 (d : Nat) (m : Mem) : Ok SX S_61 (d + 1) m_X9_init 0 [some (.ref 30), some (.int 1), some (.int 7)] [] S_59 m (gi_16 m) := by
  unfold gi_16
  refine ok_aload_n 1 0 dX9_init_0 rfl rfl rfl ?_
  refine ok_objInit 4 (by decide +kernel) dX9_init_1 rfl rfl ml_Encores_Table_3 (Nat.le_of_ble_eq_true rfl) ?_
  refine ok_aload_n 5 0 dX9_init_4 rfl rfl rfl ?_
  refine ok_iconst 6 0 dX9_init_5 rfl rfl ?_
  refine ok_iload_n 7 1 dX9_init_6 rfl rfl rfl ?_
  refine ok_max 10 (by decide +kernel) dX9_init_7 rfl rfl ml_Encores_Table_9 (Nat.le_of_ble_eq_true rfl) ?_
  rw [show (if (0 : Int32) < 1 then (1 : Int32) else 0) = 1 by decide]
  refine ok_putF 13 dX9_init_10 rfl rfl rfl rfl F_Encores_Table_15 (show S_59[30]? = some (9, 4, [none, none, none, none]) from rfl) rfl (Nat.le_of_ble_eq_true rfl) rfl rfl pZ_9_1 rfl rfl ?_
  refine ok_bndME (fun m_10_7 hm_m_10_7 => ?_)
  refine ok_aload_n 14 0 dX9_init_13 rfl rfl rfl ?_
  refine ok_iconst 15 1 dX9_init_14 rfl rfl ?_
  refine ok_iload_n 16 2 dX9_init_15 rfl rfl rfl ?_
  refine ok_max 19 (by decide +kernel) dX9_init_16 rfl rfl ml_Encores_Table_9 (Nat.le_of_ble_eq_true rfl) ?_
  rw [show (if (1 : Int32) < 7 then (7 : Int32) else 1) = 7 by decide]
  refine ok_putF 22 dX9_init_19 rfl rfl rfl rfl F_Encores_Table_21 (show S_59[30]? = some (9, 4, [none, none, none, none]) from rfl) rfl (Nat.le_of_ble_eq_true rfl) rfl rfl pZ_9_2 rfl rfl ?_
  refine ok_bndME (fun m_19_12 hm_m_19_12 => ?_)
  refine ok_aload_n 23 0 dX9_init_22 rfl rfl rfl ?_
  refine ok_iconst 24 0 dX9_init_23 rfl rfl ?_
  refine ok_aload_n 25 0 dX9_init_24 rfl rfl rfl ?_
  refine ok_getI 28 dX9_init_25 rfl rfl F_Encores_Table_15 (show S_59[30]? = some (9, 4, [none, none, none, none]) from rfl) rfl (Nat.le_of_ble_eq_true rfl) rfl ?_
  rw [show m_19_12 30 1 = 1 by subst_vars; rfl]
  refine ok_aload_n 29 0 dX9_init_28 rfl rfl rfl ?_
  refine ok_getI 32 dX9_init_29 rfl rfl F_Encores_Table_21 (show S_59[30]? = some (9, 4, [none, none, none, none]) from rfl) rfl (Nat.le_of_ble_eq_true rfl) rfl ?_
  rw [show m_19_12 30 2 = 7 by subst_vars; rfl]
  refine ok_imul 33 dX9_init_32 rfl ?_
  rw [show (1 * 7 : Int32) = 7 by decide]
  refine ok_max 36 (by decide +kernel) dX9_init_33 rfl rfl ml_Encores_Table_9 (Nat.le_of_ble_eq_true rfl) ?_
  rw [show (if (0 : Int32) < 7 then (7 : Int32) else 0) = 7 by decide]
  refine ok_newa (N := 7) 38 dX9_init_36 rfl (by decide) (by decide) (by decide) (by decide +kernel) (by decide +kernel) rfl (by decide +kernel) ?_
  refine ok_shape (S2 := S_60) rfl ?_
  refine ok_bndME (fun m_36_21 hm_m_36_21 => ?_)
  show Ok _ _ _ _ _ _ (.ref 31 :: _) _ _ _
  refine ok_putFR 41 dX9_init_38 rfl rfl rfl rfl F_Encores_Table_24 (show S_60[30]? = some (9, 4, [none, none, none, none]) from rfl) (Nat.le_of_ble_eq_true rfl) (Nat.le_of_ble_eq_true rfl) rfl rfl pZ_9_0 (fun _ => rfl) (fun _ => rfl) ?_
  refine ok_shape (S2 := S_61) rfl ?_
  refine ok_aload_n 42 0 dX9_init_41 rfl rfl rfl ?_
  refine ok_iconst 43 0 dX9_init_42 rfl rfl ?_
  refine ok_putI 46 dX9_init_43 rfl rfl F_Encores_Table_28 (show S_61[30]? = some (9, 4, [some 31, none, none, none]) from rfl) rfl (Nat.le_of_ble_eq_true rfl) rfl rfl pZ_9_3 rfl rfl ?_
  refine ok_bndME (fun m_43_25 hm_m_43_25 => ?_)
  exact ok_vret dX9_init_46 rfl
theorem ci_16 (d : Nat) (m : Mem) : CM SX (d + 1) m_X9_init S_61 S_59 [.ref 30, .int 1, .int 7] m (gi_16 m) :=
  CM.ofOk km_X9_init (by decide +kernel) (by simp [Value.category]) (Nat.le_of_ble_eq_true rfl) (oi_16 d m)

def gi_17 (m : Mem) : Ans :=
bnd (mset m 32 1 150) fun m_10_7 =>
bnd (mset m_10_7 32 2 4) fun m_19_12 =>
bnd (mnew m_19_12 33) fun m_36_21 =>
bnd (mset m_36_21 32 3 0) fun m_43_25 =>
some (0, m_43_25)
set_option maxRecDepth 100000 in
set_option maxHeartbeats 8000000 in
theorem oi_17 (d : Nat) (m : Mem) : Ok SX S_65 (d + 1) m_X9_init 0 [some (.ref 32), some (.int 150), some (.int 4)] [] S_63 m (gi_17 m) := by
  unfold gi_17
  refine ok_aload_n 1 0 dX9_init_0 rfl rfl rfl ?_
  refine ok_objInit 4 (by decide +kernel) dX9_init_1 rfl rfl ml_Encores_Table_3 (Nat.le_of_ble_eq_true rfl) ?_
  refine ok_aload_n 5 0 dX9_init_4 rfl rfl rfl ?_
  refine ok_iconst 6 0 dX9_init_5 rfl rfl ?_
  refine ok_iload_n 7 1 dX9_init_6 rfl rfl rfl ?_
  refine ok_max 10 (by decide +kernel) dX9_init_7 rfl rfl ml_Encores_Table_9 (Nat.le_of_ble_eq_true rfl) ?_
  rw [show (if (0 : Int32) < 150 then (150 : Int32) else 0) = 150 by decide]
  refine ok_putF 13 dX9_init_10 rfl rfl rfl rfl F_Encores_Table_15 (show S_63[32]? = some (9, 4, [none, none, none, none]) from rfl) rfl (Nat.le_of_ble_eq_true rfl) rfl rfl pZ_9_1 rfl rfl ?_
  refine ok_bndME (fun m_10_7 hm_m_10_7 => ?_)
  refine ok_aload_n 14 0 dX9_init_13 rfl rfl rfl ?_
  refine ok_iconst 15 1 dX9_init_14 rfl rfl ?_
  refine ok_iload_n 16 2 dX9_init_15 rfl rfl rfl ?_
  refine ok_max 19 (by decide +kernel) dX9_init_16 rfl rfl ml_Encores_Table_9 (Nat.le_of_ble_eq_true rfl) ?_
  rw [show (if (1 : Int32) < 4 then (4 : Int32) else 1) = 4 by decide]
  refine ok_putF 22 dX9_init_19 rfl rfl rfl rfl F_Encores_Table_21 (show S_63[32]? = some (9, 4, [none, none, none, none]) from rfl) rfl (Nat.le_of_ble_eq_true rfl) rfl rfl pZ_9_2 rfl rfl ?_
  refine ok_bndME (fun m_19_12 hm_m_19_12 => ?_)
  refine ok_aload_n 23 0 dX9_init_22 rfl rfl rfl ?_
  refine ok_iconst 24 0 dX9_init_23 rfl rfl ?_
  refine ok_aload_n 25 0 dX9_init_24 rfl rfl rfl ?_
  refine ok_getI 28 dX9_init_25 rfl rfl F_Encores_Table_15 (show S_63[32]? = some (9, 4, [none, none, none, none]) from rfl) rfl (Nat.le_of_ble_eq_true rfl) rfl ?_
  rw [show m_19_12 32 1 = 150 by subst_vars; rfl]
  refine ok_aload_n 29 0 dX9_init_28 rfl rfl rfl ?_
  refine ok_getI 32 dX9_init_29 rfl rfl F_Encores_Table_21 (show S_63[32]? = some (9, 4, [none, none, none, none]) from rfl) rfl (Nat.le_of_ble_eq_true rfl) rfl ?_
  rw [show m_19_12 32 2 = 4 by subst_vars; rfl]
  refine ok_imul 33 dX9_init_32 rfl ?_
  rw [show (150 * 4 : Int32) = 600 by decide]
  refine ok_max 36 (by decide +kernel) dX9_init_33 rfl rfl ml_Encores_Table_9 (Nat.le_of_ble_eq_true rfl) ?_
  rw [show (if (0 : Int32) < 600 then (600 : Int32) else 0) = 600 by decide]
  refine ok_newa (N := 600) 38 dX9_init_36 rfl (by decide) (by decide) (by decide) (by decide +kernel) (by decide +kernel) rfl (by decide +kernel) ?_
  refine ok_shape (S2 := S_64) rfl ?_
  refine ok_bndME (fun m_36_21 hm_m_36_21 => ?_)
  show Ok _ _ _ _ _ _ (.ref 33 :: _) _ _ _
  refine ok_putFR 41 dX9_init_38 rfl rfl rfl rfl F_Encores_Table_24 (show S_64[32]? = some (9, 4, [none, none, none, none]) from rfl) (Nat.le_of_ble_eq_true rfl) (Nat.le_of_ble_eq_true rfl) rfl rfl pZ_9_0 (fun _ => rfl) (fun _ => rfl) ?_
  refine ok_shape (S2 := S_65) rfl ?_
  refine ok_aload_n 42 0 dX9_init_41 rfl rfl rfl ?_
  refine ok_iconst 43 0 dX9_init_42 rfl rfl ?_
  refine ok_putI 46 dX9_init_43 rfl rfl F_Encores_Table_28 (show S_65[32]? = some (9, 4, [some 33, none, none, none]) from rfl) rfl (Nat.le_of_ble_eq_true rfl) rfl rfl pZ_9_3 rfl rfl ?_
  refine ok_bndME (fun m_43_25 hm_m_43_25 => ?_)
  exact ok_vret dX9_init_46 rfl
theorem ci_17 (d : Nat) (m : Mem) : CM SX (d + 1) m_X9_init S_65 S_63 [.ref 32, .int 150, .int 4] m (gi_17 m) :=
  CM.ofOk km_X9_init (by decide +kernel) (by simp [Value.category]) (Nat.le_of_ble_eq_true rfl) (oi_17 d m)

def gi_18 (m : Mem) : Ans :=
bnd (mset m 34 1 16) fun m_10_7 =>
bnd (mset m_10_7 34 2 4) fun m_19_12 =>
bnd (mnew m_19_12 35) fun m_36_21 =>
bnd (mset m_36_21 34 3 0) fun m_43_25 =>
some (0, m_43_25)
set_option maxRecDepth 100000 in
set_option maxHeartbeats 8000000 in
theorem oi_18 (d : Nat) (m : Mem) : Ok SX S_69 (d + 1) m_X9_init 0 [some (.ref 34), some (.int 16), some (.int 4)] [] S_67 m (gi_18 m) := by
  unfold gi_18
  refine ok_aload_n 1 0 dX9_init_0 rfl rfl rfl ?_
  refine ok_objInit 4 (by decide +kernel) dX9_init_1 rfl rfl ml_Encores_Table_3 (Nat.le_of_ble_eq_true rfl) ?_
  refine ok_aload_n 5 0 dX9_init_4 rfl rfl rfl ?_
  refine ok_iconst 6 0 dX9_init_5 rfl rfl ?_
  refine ok_iload_n 7 1 dX9_init_6 rfl rfl rfl ?_
  refine ok_max 10 (by decide +kernel) dX9_init_7 rfl rfl ml_Encores_Table_9 (Nat.le_of_ble_eq_true rfl) ?_
  rw [show (if (0 : Int32) < 16 then (16 : Int32) else 0) = 16 by decide]
  refine ok_putF 13 dX9_init_10 rfl rfl rfl rfl F_Encores_Table_15 (show S_67[34]? = some (9, 4, [none, none, none, none]) from rfl) rfl (Nat.le_of_ble_eq_true rfl) rfl rfl pZ_9_1 rfl rfl ?_
  refine ok_bndME (fun m_10_7 hm_m_10_7 => ?_)
  refine ok_aload_n 14 0 dX9_init_13 rfl rfl rfl ?_
  refine ok_iconst 15 1 dX9_init_14 rfl rfl ?_
  refine ok_iload_n 16 2 dX9_init_15 rfl rfl rfl ?_
  refine ok_max 19 (by decide +kernel) dX9_init_16 rfl rfl ml_Encores_Table_9 (Nat.le_of_ble_eq_true rfl) ?_
  rw [show (if (1 : Int32) < 4 then (4 : Int32) else 1) = 4 by decide]
  refine ok_putF 22 dX9_init_19 rfl rfl rfl rfl F_Encores_Table_21 (show S_67[34]? = some (9, 4, [none, none, none, none]) from rfl) rfl (Nat.le_of_ble_eq_true rfl) rfl rfl pZ_9_2 rfl rfl ?_
  refine ok_bndME (fun m_19_12 hm_m_19_12 => ?_)
  refine ok_aload_n 23 0 dX9_init_22 rfl rfl rfl ?_
  refine ok_iconst 24 0 dX9_init_23 rfl rfl ?_
  refine ok_aload_n 25 0 dX9_init_24 rfl rfl rfl ?_
  refine ok_getI 28 dX9_init_25 rfl rfl F_Encores_Table_15 (show S_67[34]? = some (9, 4, [none, none, none, none]) from rfl) rfl (Nat.le_of_ble_eq_true rfl) rfl ?_
  rw [show m_19_12 34 1 = 16 by subst_vars; rfl]
  refine ok_aload_n 29 0 dX9_init_28 rfl rfl rfl ?_
  refine ok_getI 32 dX9_init_29 rfl rfl F_Encores_Table_21 (show S_67[34]? = some (9, 4, [none, none, none, none]) from rfl) rfl (Nat.le_of_ble_eq_true rfl) rfl ?_
  rw [show m_19_12 34 2 = 4 by subst_vars; rfl]
  refine ok_imul 33 dX9_init_32 rfl ?_
  rw [show (16 * 4 : Int32) = 64 by decide]
  refine ok_max 36 (by decide +kernel) dX9_init_33 rfl rfl ml_Encores_Table_9 (Nat.le_of_ble_eq_true rfl) ?_
  rw [show (if (0 : Int32) < 64 then (64 : Int32) else 0) = 64 by decide]
  refine ok_newa (N := 64) 38 dX9_init_36 rfl (by decide) (by decide) (by decide) (by decide +kernel) (by decide +kernel) rfl (by decide +kernel) ?_
  refine ok_shape (S2 := S_68) rfl ?_
  refine ok_bndME (fun m_36_21 hm_m_36_21 => ?_)
  show Ok _ _ _ _ _ _ (.ref 35 :: _) _ _ _
  refine ok_putFR 41 dX9_init_38 rfl rfl rfl rfl F_Encores_Table_24 (show S_68[34]? = some (9, 4, [none, none, none, none]) from rfl) (Nat.le_of_ble_eq_true rfl) (Nat.le_of_ble_eq_true rfl) rfl rfl pZ_9_0 (fun _ => rfl) (fun _ => rfl) ?_
  refine ok_shape (S2 := S_69) rfl ?_
  refine ok_aload_n 42 0 dX9_init_41 rfl rfl rfl ?_
  refine ok_iconst 43 0 dX9_init_42 rfl rfl ?_
  refine ok_putI 46 dX9_init_43 rfl rfl F_Encores_Table_28 (show S_69[34]? = some (9, 4, [some 35, none, none, none]) from rfl) rfl (Nat.le_of_ble_eq_true rfl) rfl rfl pZ_9_3 rfl rfl ?_
  refine ok_bndME (fun m_43_25 hm_m_43_25 => ?_)
  exact ok_vret dX9_init_46 rfl
theorem ci_18 (d : Nat) (m : Mem) : CM SX (d + 1) m_X9_init S_69 S_67 [.ref 34, .int 16, .int 4] m (gi_18 m) :=
  CM.ofOk km_X9_init (by decide +kernel) (by simp [Value.category]) (Nat.le_of_ble_eq_true rfl) (oi_18 d m)

def gi_19 (m : Mem) : Ans :=
bnd (mset m 36 1 400) fun m_10_7 =>
bnd (mset m_10_7 36 2 2) fun m_19_12 =>
bnd (mnew m_19_12 37) fun m_36_21 =>
bnd (mset m_36_21 36 3 0) fun m_43_25 =>
some (0, m_43_25)
set_option maxRecDepth 100000 in
set_option maxHeartbeats 8000000 in
theorem oi_19 (d : Nat) (m : Mem) : Ok SX S_73 (d + 1) m_X9_init 0 [some (.ref 36), some (.int 400), some (.int 2)] [] S_71 m (gi_19 m) := by
  unfold gi_19
  refine ok_aload_n 1 0 dX9_init_0 rfl rfl rfl ?_
  refine ok_objInit 4 (by decide +kernel) dX9_init_1 rfl rfl ml_Encores_Table_3 (Nat.le_of_ble_eq_true rfl) ?_
  refine ok_aload_n 5 0 dX9_init_4 rfl rfl rfl ?_
  refine ok_iconst 6 0 dX9_init_5 rfl rfl ?_
  refine ok_iload_n 7 1 dX9_init_6 rfl rfl rfl ?_
  refine ok_max 10 (by decide +kernel) dX9_init_7 rfl rfl ml_Encores_Table_9 (Nat.le_of_ble_eq_true rfl) ?_
  rw [show (if (0 : Int32) < 400 then (400 : Int32) else 0) = 400 by decide]
  refine ok_putF 13 dX9_init_10 rfl rfl rfl rfl F_Encores_Table_15 (show S_71[36]? = some (9, 4, [none, none, none, none]) from rfl) rfl (Nat.le_of_ble_eq_true rfl) rfl rfl pZ_9_1 rfl rfl ?_
  refine ok_bndME (fun m_10_7 hm_m_10_7 => ?_)
  refine ok_aload_n 14 0 dX9_init_13 rfl rfl rfl ?_
  refine ok_iconst 15 1 dX9_init_14 rfl rfl ?_
  refine ok_iload_n 16 2 dX9_init_15 rfl rfl rfl ?_
  refine ok_max 19 (by decide +kernel) dX9_init_16 rfl rfl ml_Encores_Table_9 (Nat.le_of_ble_eq_true rfl) ?_
  rw [show (if (1 : Int32) < 2 then (2 : Int32) else 1) = 2 by decide]
  refine ok_putF 22 dX9_init_19 rfl rfl rfl rfl F_Encores_Table_21 (show S_71[36]? = some (9, 4, [none, none, none, none]) from rfl) rfl (Nat.le_of_ble_eq_true rfl) rfl rfl pZ_9_2 rfl rfl ?_
  refine ok_bndME (fun m_19_12 hm_m_19_12 => ?_)
  refine ok_aload_n 23 0 dX9_init_22 rfl rfl rfl ?_
  refine ok_iconst 24 0 dX9_init_23 rfl rfl ?_
  refine ok_aload_n 25 0 dX9_init_24 rfl rfl rfl ?_
  refine ok_getI 28 dX9_init_25 rfl rfl F_Encores_Table_15 (show S_71[36]? = some (9, 4, [none, none, none, none]) from rfl) rfl (Nat.le_of_ble_eq_true rfl) rfl ?_
  rw [show m_19_12 36 1 = 400 by subst_vars; rfl]
  refine ok_aload_n 29 0 dX9_init_28 rfl rfl rfl ?_
  refine ok_getI 32 dX9_init_29 rfl rfl F_Encores_Table_21 (show S_71[36]? = some (9, 4, [none, none, none, none]) from rfl) rfl (Nat.le_of_ble_eq_true rfl) rfl ?_
  rw [show m_19_12 36 2 = 2 by subst_vars; rfl]
  refine ok_imul 33 dX9_init_32 rfl ?_
  rw [show (400 * 2 : Int32) = 800 by decide]
  refine ok_max 36 (by decide +kernel) dX9_init_33 rfl rfl ml_Encores_Table_9 (Nat.le_of_ble_eq_true rfl) ?_
  rw [show (if (0 : Int32) < 800 then (800 : Int32) else 0) = 800 by decide]
  refine ok_newa (N := 800) 38 dX9_init_36 rfl (by decide) (by decide) (by decide) (by decide +kernel) (by decide +kernel) rfl (by decide +kernel) ?_
  refine ok_shape (S2 := S_72) rfl ?_
  refine ok_bndME (fun m_36_21 hm_m_36_21 => ?_)
  show Ok _ _ _ _ _ _ (.ref 37 :: _) _ _ _
  refine ok_putFR 41 dX9_init_38 rfl rfl rfl rfl F_Encores_Table_24 (show S_72[36]? = some (9, 4, [none, none, none, none]) from rfl) (Nat.le_of_ble_eq_true rfl) (Nat.le_of_ble_eq_true rfl) rfl rfl pZ_9_0 (fun _ => rfl) (fun _ => rfl) ?_
  refine ok_shape (S2 := S_73) rfl ?_
  refine ok_aload_n 42 0 dX9_init_41 rfl rfl rfl ?_
  refine ok_iconst 43 0 dX9_init_42 rfl rfl ?_
  refine ok_putI 46 dX9_init_43 rfl rfl F_Encores_Table_28 (show S_73[36]? = some (9, 4, [some 37, none, none, none]) from rfl) rfl (Nat.le_of_ble_eq_true rfl) rfl rfl pZ_9_3 rfl rfl ?_
  refine ok_bndME (fun m_43_25 hm_m_43_25 => ?_)
  exact ok_vret dX9_init_46 rfl
theorem ci_19 (d : Nat) (m : Mem) : CM SX (d + 1) m_X9_init S_73 S_71 [.ref 36, .int 400, .int 2] m (gi_19 m) :=
  CM.ofOk km_X9_init (by decide +kernel) (by simp [Value.category]) (Nat.le_of_ble_eq_true rfl) (oi_19 d m)

def gi_20 (m : Mem) : Ans :=
bnd (mset m 38 1 16) fun m_10_7 =>
bnd (mset m_10_7 38 2 4) fun m_19_12 =>
bnd (mnew m_19_12 39) fun m_36_21 =>
bnd (mset m_36_21 38 3 0) fun m_43_25 =>
some (0, m_43_25)
set_option maxRecDepth 100000 in
set_option maxHeartbeats 8000000 in
theorem oi_20 (d : Nat) (m : Mem) : Ok SX S_77 (d + 1) m_X9_init 0 [some (.ref 38), some (.int 16), some (.int 4)] [] S_75 m (gi_20 m) := by
  unfold gi_20
  refine ok_aload_n 1 0 dX9_init_0 rfl rfl rfl ?_
  refine ok_objInit 4 (by decide +kernel) dX9_init_1 rfl rfl ml_Encores_Table_3 (Nat.le_of_ble_eq_true rfl) ?_
  refine ok_aload_n 5 0 dX9_init_4 rfl rfl rfl ?_
  refine ok_iconst 6 0 dX9_init_5 rfl rfl ?_
  refine ok_iload_n 7 1 dX9_init_6 rfl rfl rfl ?_
  refine ok_max 10 (by decide +kernel) dX9_init_7 rfl rfl ml_Encores_Table_9 (Nat.le_of_ble_eq_true rfl) ?_
  rw [show (if (0 : Int32) < 16 then (16 : Int32) else 0) = 16 by decide]
  refine ok_putF 13 dX9_init_10 rfl rfl rfl rfl F_Encores_Table_15 (show S_75[38]? = some (9, 4, [none, none, none, none]) from rfl) rfl (Nat.le_of_ble_eq_true rfl) rfl rfl pZ_9_1 rfl rfl ?_
  refine ok_bndME (fun m_10_7 hm_m_10_7 => ?_)
  refine ok_aload_n 14 0 dX9_init_13 rfl rfl rfl ?_
  refine ok_iconst 15 1 dX9_init_14 rfl rfl ?_
  refine ok_iload_n 16 2 dX9_init_15 rfl rfl rfl ?_
  refine ok_max 19 (by decide +kernel) dX9_init_16 rfl rfl ml_Encores_Table_9 (Nat.le_of_ble_eq_true rfl) ?_
  rw [show (if (1 : Int32) < 4 then (4 : Int32) else 1) = 4 by decide]
  refine ok_putF 22 dX9_init_19 rfl rfl rfl rfl F_Encores_Table_21 (show S_75[38]? = some (9, 4, [none, none, none, none]) from rfl) rfl (Nat.le_of_ble_eq_true rfl) rfl rfl pZ_9_2 rfl rfl ?_
  refine ok_bndME (fun m_19_12 hm_m_19_12 => ?_)
  refine ok_aload_n 23 0 dX9_init_22 rfl rfl rfl ?_
  refine ok_iconst 24 0 dX9_init_23 rfl rfl ?_
  refine ok_aload_n 25 0 dX9_init_24 rfl rfl rfl ?_
  refine ok_getI 28 dX9_init_25 rfl rfl F_Encores_Table_15 (show S_75[38]? = some (9, 4, [none, none, none, none]) from rfl) rfl (Nat.le_of_ble_eq_true rfl) rfl ?_
  rw [show m_19_12 38 1 = 16 by subst_vars; rfl]
  refine ok_aload_n 29 0 dX9_init_28 rfl rfl rfl ?_
  refine ok_getI 32 dX9_init_29 rfl rfl F_Encores_Table_21 (show S_75[38]? = some (9, 4, [none, none, none, none]) from rfl) rfl (Nat.le_of_ble_eq_true rfl) rfl ?_
  rw [show m_19_12 38 2 = 4 by subst_vars; rfl]
  refine ok_imul 33 dX9_init_32 rfl ?_
  rw [show (16 * 4 : Int32) = 64 by decide]
  refine ok_max 36 (by decide +kernel) dX9_init_33 rfl rfl ml_Encores_Table_9 (Nat.le_of_ble_eq_true rfl) ?_
  rw [show (if (0 : Int32) < 64 then (64 : Int32) else 0) = 64 by decide]
  refine ok_newa (N := 64) 38 dX9_init_36 rfl (by decide) (by decide) (by decide) (by decide +kernel) (by decide +kernel) rfl (by decide +kernel) ?_
  refine ok_shape (S2 := S_76) rfl ?_
  refine ok_bndME (fun m_36_21 hm_m_36_21 => ?_)
  show Ok _ _ _ _ _ _ (.ref 39 :: _) _ _ _
  refine ok_putFR 41 dX9_init_38 rfl rfl rfl rfl F_Encores_Table_24 (show S_76[38]? = some (9, 4, [none, none, none, none]) from rfl) (Nat.le_of_ble_eq_true rfl) (Nat.le_of_ble_eq_true rfl) rfl rfl pZ_9_0 (fun _ => rfl) (fun _ => rfl) ?_
  refine ok_shape (S2 := S_77) rfl ?_
  refine ok_aload_n 42 0 dX9_init_41 rfl rfl rfl ?_
  refine ok_iconst 43 0 dX9_init_42 rfl rfl ?_
  refine ok_putI 46 dX9_init_43 rfl rfl F_Encores_Table_28 (show S_77[38]? = some (9, 4, [some 39, none, none, none]) from rfl) rfl (Nat.le_of_ble_eq_true rfl) rfl rfl pZ_9_3 rfl rfl ?_
  refine ok_bndME (fun m_43_25 hm_m_43_25 => ?_)
  exact ok_vret dX9_init_46 rfl
theorem ci_20 (d : Nat) (m : Mem) : CM SX (d + 1) m_X9_init S_77 S_75 [.ref 38, .int 16, .int 4] m (gi_20 m) :=
  CM.ofOk km_X9_init (by decide +kernel) (by simp [Value.category]) (Nat.le_of_ble_eq_true rfl) (oi_20 d m)

def gi_21 (m : Mem) : Ans :=
bnd (mset m 40 1 16) fun m_10_7 =>
bnd (mset m_10_7 40 2 4) fun m_19_12 =>
bnd (mnew m_19_12 41) fun m_36_21 =>
bnd (mset m_36_21 40 3 0) fun m_43_25 =>
some (0, m_43_25)
set_option maxRecDepth 100000 in
set_option maxHeartbeats 8000000 in
theorem oi_21 (d : Nat) (m : Mem) : Ok SX S_81 (d + 1) m_X9_init 0 [some (.ref 40), some (.int 16), some (.int 4)] [] S_79 m (gi_21 m) := by
  unfold gi_21
  refine ok_aload_n 1 0 dX9_init_0 rfl rfl rfl ?_
  refine ok_objInit 4 (by decide +kernel) dX9_init_1 rfl rfl ml_Encores_Table_3 (Nat.le_of_ble_eq_true rfl) ?_
  refine ok_aload_n 5 0 dX9_init_4 rfl rfl rfl ?_
  refine ok_iconst 6 0 dX9_init_5 rfl rfl ?_
  refine ok_iload_n 7 1 dX9_init_6 rfl rfl rfl ?_
  refine ok_max 10 (by decide +kernel) dX9_init_7 rfl rfl ml_Encores_Table_9 (Nat.le_of_ble_eq_true rfl) ?_
  rw [show (if (0 : Int32) < 16 then (16 : Int32) else 0) = 16 by decide]
  refine ok_putF 13 dX9_init_10 rfl rfl rfl rfl F_Encores_Table_15 (show S_79[40]? = some (9, 4, [none, none, none, none]) from rfl) rfl (Nat.le_of_ble_eq_true rfl) rfl rfl pZ_9_1 rfl rfl ?_
  refine ok_bndME (fun m_10_7 hm_m_10_7 => ?_)
  refine ok_aload_n 14 0 dX9_init_13 rfl rfl rfl ?_
  refine ok_iconst 15 1 dX9_init_14 rfl rfl ?_
  refine ok_iload_n 16 2 dX9_init_15 rfl rfl rfl ?_
  refine ok_max 19 (by decide +kernel) dX9_init_16 rfl rfl ml_Encores_Table_9 (Nat.le_of_ble_eq_true rfl) ?_
  rw [show (if (1 : Int32) < 4 then (4 : Int32) else 1) = 4 by decide]
  refine ok_putF 22 dX9_init_19 rfl rfl rfl rfl F_Encores_Table_21 (show S_79[40]? = some (9, 4, [none, none, none, none]) from rfl) rfl (Nat.le_of_ble_eq_true rfl) rfl rfl pZ_9_2 rfl rfl ?_
  refine ok_bndME (fun m_19_12 hm_m_19_12 => ?_)
  refine ok_aload_n 23 0 dX9_init_22 rfl rfl rfl ?_
  refine ok_iconst 24 0 dX9_init_23 rfl rfl ?_
  refine ok_aload_n 25 0 dX9_init_24 rfl rfl rfl ?_
  refine ok_getI 28 dX9_init_25 rfl rfl F_Encores_Table_15 (show S_79[40]? = some (9, 4, [none, none, none, none]) from rfl) rfl (Nat.le_of_ble_eq_true rfl) rfl ?_
  rw [show m_19_12 40 1 = 16 by subst_vars; rfl]
  refine ok_aload_n 29 0 dX9_init_28 rfl rfl rfl ?_
  refine ok_getI 32 dX9_init_29 rfl rfl F_Encores_Table_21 (show S_79[40]? = some (9, 4, [none, none, none, none]) from rfl) rfl (Nat.le_of_ble_eq_true rfl) rfl ?_
  rw [show m_19_12 40 2 = 4 by subst_vars; rfl]
  refine ok_imul 33 dX9_init_32 rfl ?_
  rw [show (16 * 4 : Int32) = 64 by decide]
  refine ok_max 36 (by decide +kernel) dX9_init_33 rfl rfl ml_Encores_Table_9 (Nat.le_of_ble_eq_true rfl) ?_
  rw [show (if (0 : Int32) < 64 then (64 : Int32) else 0) = 64 by decide]
  refine ok_newa (N := 64) 38 dX9_init_36 rfl (by decide) (by decide) (by decide) (by decide +kernel) (by decide +kernel) rfl (by decide +kernel) ?_
  refine ok_shape (S2 := S_80) rfl ?_
  refine ok_bndME (fun m_36_21 hm_m_36_21 => ?_)
  show Ok _ _ _ _ _ _ (.ref 41 :: _) _ _ _
  refine ok_putFR 41 dX9_init_38 rfl rfl rfl rfl F_Encores_Table_24 (show S_80[40]? = some (9, 4, [none, none, none, none]) from rfl) (Nat.le_of_ble_eq_true rfl) (Nat.le_of_ble_eq_true rfl) rfl rfl pZ_9_0 (fun _ => rfl) (fun _ => rfl) ?_
  refine ok_shape (S2 := S_81) rfl ?_
  refine ok_aload_n 42 0 dX9_init_41 rfl rfl rfl ?_
  refine ok_iconst 43 0 dX9_init_42 rfl rfl ?_
  refine ok_putI 46 dX9_init_43 rfl rfl F_Encores_Table_28 (show S_81[40]? = some (9, 4, [some 41, none, none, none]) from rfl) rfl (Nat.le_of_ble_eq_true rfl) rfl rfl pZ_9_3 rfl rfl ?_
  refine ok_bndME (fun m_43_25 hm_m_43_25 => ?_)
  exact ok_vret dX9_init_46 rfl
theorem ci_21 (d : Nat) (m : Mem) : CM SX (d + 1) m_X9_init S_81 S_79 [.ref 40, .int 16, .int 4] m (gi_21 m) :=
  CM.ofOk km_X9_init (by decide +kernel) (by simp [Value.category]) (Nat.le_of_ble_eq_true rfl) (oi_21 d m)

def gi_22 (m : Mem) : Ans :=
bnd (mset m 42 1 16) fun m_10_7 =>
bnd (mset m_10_7 42 2 4) fun m_19_12 =>
bnd (mnew m_19_12 43) fun m_36_21 =>
bnd (mset m_36_21 42 3 0) fun m_43_25 =>
some (0, m_43_25)
set_option maxRecDepth 100000 in
set_option maxHeartbeats 8000000 in
theorem oi_22 (d : Nat) (m : Mem) : Ok SX S_85 (d + 1) m_X9_init 0 [some (.ref 42), some (.int 16), some (.int 4)] [] S_83 m (gi_22 m) := by
  unfold gi_22
  refine ok_aload_n 1 0 dX9_init_0 rfl rfl rfl ?_
  refine ok_objInit 4 (by decide +kernel) dX9_init_1 rfl rfl ml_Encores_Table_3 (Nat.le_of_ble_eq_true rfl) ?_
  refine ok_aload_n 5 0 dX9_init_4 rfl rfl rfl ?_
  refine ok_iconst 6 0 dX9_init_5 rfl rfl ?_
  refine ok_iload_n 7 1 dX9_init_6 rfl rfl rfl ?_
  refine ok_max 10 (by decide +kernel) dX9_init_7 rfl rfl ml_Encores_Table_9 (Nat.le_of_ble_eq_true rfl) ?_
  rw [show (if (0 : Int32) < 16 then (16 : Int32) else 0) = 16 by decide]
  refine ok_putF 13 dX9_init_10 rfl rfl rfl rfl F_Encores_Table_15 (show S_83[42]? = some (9, 4, [none, none, none, none]) from rfl) rfl (Nat.le_of_ble_eq_true rfl) rfl rfl pZ_9_1 rfl rfl ?_
  refine ok_bndME (fun m_10_7 hm_m_10_7 => ?_)
  refine ok_aload_n 14 0 dX9_init_13 rfl rfl rfl ?_
  refine ok_iconst 15 1 dX9_init_14 rfl rfl ?_
  refine ok_iload_n 16 2 dX9_init_15 rfl rfl rfl ?_
  refine ok_max 19 (by decide +kernel) dX9_init_16 rfl rfl ml_Encores_Table_9 (Nat.le_of_ble_eq_true rfl) ?_
  rw [show (if (1 : Int32) < 4 then (4 : Int32) else 1) = 4 by decide]
  refine ok_putF 22 dX9_init_19 rfl rfl rfl rfl F_Encores_Table_21 (show S_83[42]? = some (9, 4, [none, none, none, none]) from rfl) rfl (Nat.le_of_ble_eq_true rfl) rfl rfl pZ_9_2 rfl rfl ?_
  refine ok_bndME (fun m_19_12 hm_m_19_12 => ?_)
  refine ok_aload_n 23 0 dX9_init_22 rfl rfl rfl ?_
  refine ok_iconst 24 0 dX9_init_23 rfl rfl ?_
  refine ok_aload_n 25 0 dX9_init_24 rfl rfl rfl ?_
  refine ok_getI 28 dX9_init_25 rfl rfl F_Encores_Table_15 (show S_83[42]? = some (9, 4, [none, none, none, none]) from rfl) rfl (Nat.le_of_ble_eq_true rfl) rfl ?_
  rw [show m_19_12 42 1 = 16 by subst_vars; rfl]
  refine ok_aload_n 29 0 dX9_init_28 rfl rfl rfl ?_
  refine ok_getI 32 dX9_init_29 rfl rfl F_Encores_Table_21 (show S_83[42]? = some (9, 4, [none, none, none, none]) from rfl) rfl (Nat.le_of_ble_eq_true rfl) rfl ?_
  rw [show m_19_12 42 2 = 4 by subst_vars; rfl]
  refine ok_imul 33 dX9_init_32 rfl ?_
  rw [show (16 * 4 : Int32) = 64 by decide]
  refine ok_max 36 (by decide +kernel) dX9_init_33 rfl rfl ml_Encores_Table_9 (Nat.le_of_ble_eq_true rfl) ?_
  rw [show (if (0 : Int32) < 64 then (64 : Int32) else 0) = 64 by decide]
  refine ok_newa (N := 64) 38 dX9_init_36 rfl (by decide) (by decide) (by decide) (by decide +kernel) (by decide +kernel) rfl (by decide +kernel) ?_
  refine ok_shape (S2 := S_84) rfl ?_
  refine ok_bndME (fun m_36_21 hm_m_36_21 => ?_)
  show Ok _ _ _ _ _ _ (.ref 43 :: _) _ _ _
  refine ok_putFR 41 dX9_init_38 rfl rfl rfl rfl F_Encores_Table_24 (show S_84[42]? = some (9, 4, [none, none, none, none]) from rfl) (Nat.le_of_ble_eq_true rfl) (Nat.le_of_ble_eq_true rfl) rfl rfl pZ_9_0 (fun _ => rfl) (fun _ => rfl) ?_
  refine ok_shape (S2 := S_85) rfl ?_
  refine ok_aload_n 42 0 dX9_init_41 rfl rfl rfl ?_
  refine ok_iconst 43 0 dX9_init_42 rfl rfl ?_
  refine ok_putI 46 dX9_init_43 rfl rfl F_Encores_Table_28 (show S_85[42]? = some (9, 4, [some 43, none, none, none]) from rfl) rfl (Nat.le_of_ble_eq_true rfl) rfl rfl pZ_9_3 rfl rfl ?_
  refine ok_bndME (fun m_43_25 hm_m_43_25 => ?_)
  exact ok_vret dX9_init_46 rfl
theorem ci_22 (d : Nat) (m : Mem) : CM SX (d + 1) m_X9_init S_85 S_83 [.ref 42, .int 16, .int 4] m (gi_22 m) :=
  CM.ofOk km_X9_init (by decide +kernel) (by simp [Value.category]) (Nat.le_of_ble_eq_true rfl) (oi_22 d m)

def gi_23 (m : Mem) : Ans :=
bnd (mset m 44 1 8) fun m_10_7 =>
bnd (mset m_10_7 44 2 2) fun m_19_12 =>
bnd (mnew m_19_12 45) fun m_36_21 =>
bnd (mset m_36_21 44 3 0) fun m_43_25 =>
some (0, m_43_25)
set_option maxRecDepth 100000 in
set_option maxHeartbeats 8000000 in
theorem oi_23 (d : Nat) (m : Mem) : Ok SX S_89 (d + 1) m_X9_init 0 [some (.ref 44), some (.int 8), some (.int 2)] [] S_87 m (gi_23 m) := by
  unfold gi_23
  refine ok_aload_n 1 0 dX9_init_0 rfl rfl rfl ?_
  refine ok_objInit 4 (by decide +kernel) dX9_init_1 rfl rfl ml_Encores_Table_3 (Nat.le_of_ble_eq_true rfl) ?_
  refine ok_aload_n 5 0 dX9_init_4 rfl rfl rfl ?_
  refine ok_iconst 6 0 dX9_init_5 rfl rfl ?_
  refine ok_iload_n 7 1 dX9_init_6 rfl rfl rfl ?_
  refine ok_max 10 (by decide +kernel) dX9_init_7 rfl rfl ml_Encores_Table_9 (Nat.le_of_ble_eq_true rfl) ?_
  rw [show (if (0 : Int32) < 8 then (8 : Int32) else 0) = 8 by decide]
  refine ok_putF 13 dX9_init_10 rfl rfl rfl rfl F_Encores_Table_15 (show S_87[44]? = some (9, 4, [none, none, none, none]) from rfl) rfl (Nat.le_of_ble_eq_true rfl) rfl rfl pZ_9_1 rfl rfl ?_
  refine ok_bndME (fun m_10_7 hm_m_10_7 => ?_)
  refine ok_aload_n 14 0 dX9_init_13 rfl rfl rfl ?_
  refine ok_iconst 15 1 dX9_init_14 rfl rfl ?_
  refine ok_iload_n 16 2 dX9_init_15 rfl rfl rfl ?_
  refine ok_max 19 (by decide +kernel) dX9_init_16 rfl rfl ml_Encores_Table_9 (Nat.le_of_ble_eq_true rfl) ?_
  rw [show (if (1 : Int32) < 2 then (2 : Int32) else 1) = 2 by decide]
  refine ok_putF 22 dX9_init_19 rfl rfl rfl rfl F_Encores_Table_21 (show S_87[44]? = some (9, 4, [none, none, none, none]) from rfl) rfl (Nat.le_of_ble_eq_true rfl) rfl rfl pZ_9_2 rfl rfl ?_
  refine ok_bndME (fun m_19_12 hm_m_19_12 => ?_)
  refine ok_aload_n 23 0 dX9_init_22 rfl rfl rfl ?_
  refine ok_iconst 24 0 dX9_init_23 rfl rfl ?_
  refine ok_aload_n 25 0 dX9_init_24 rfl rfl rfl ?_
  refine ok_getI 28 dX9_init_25 rfl rfl F_Encores_Table_15 (show S_87[44]? = some (9, 4, [none, none, none, none]) from rfl) rfl (Nat.le_of_ble_eq_true rfl) rfl ?_
  rw [show m_19_12 44 1 = 8 by subst_vars; rfl]
  refine ok_aload_n 29 0 dX9_init_28 rfl rfl rfl ?_
  refine ok_getI 32 dX9_init_29 rfl rfl F_Encores_Table_21 (show S_87[44]? = some (9, 4, [none, none, none, none]) from rfl) rfl (Nat.le_of_ble_eq_true rfl) rfl ?_
  rw [show m_19_12 44 2 = 2 by subst_vars; rfl]
  refine ok_imul 33 dX9_init_32 rfl ?_
  rw [show (8 * 2 : Int32) = 16 by decide]
  refine ok_max 36 (by decide +kernel) dX9_init_33 rfl rfl ml_Encores_Table_9 (Nat.le_of_ble_eq_true rfl) ?_
  rw [show (if (0 : Int32) < 16 then (16 : Int32) else 0) = 16 by decide]
  refine ok_newa (N := 16) 38 dX9_init_36 rfl (by decide) (by decide) (by decide) (by decide +kernel) (by decide +kernel) rfl (by decide +kernel) ?_
  refine ok_shape (S2 := S_88) rfl ?_
  refine ok_bndME (fun m_36_21 hm_m_36_21 => ?_)
  show Ok _ _ _ _ _ _ (.ref 45 :: _) _ _ _
  refine ok_putFR 41 dX9_init_38 rfl rfl rfl rfl F_Encores_Table_24 (show S_88[44]? = some (9, 4, [none, none, none, none]) from rfl) (Nat.le_of_ble_eq_true rfl) (Nat.le_of_ble_eq_true rfl) rfl rfl pZ_9_0 (fun _ => rfl) (fun _ => rfl) ?_
  refine ok_shape (S2 := S_89) rfl ?_
  refine ok_aload_n 42 0 dX9_init_41 rfl rfl rfl ?_
  refine ok_iconst 43 0 dX9_init_42 rfl rfl ?_
  refine ok_putI 46 dX9_init_43 rfl rfl F_Encores_Table_28 (show S_89[44]? = some (9, 4, [some 45, none, none, none]) from rfl) rfl (Nat.le_of_ble_eq_true rfl) rfl rfl pZ_9_3 rfl rfl ?_
  refine ok_bndME (fun m_43_25 hm_m_43_25 => ?_)
  exact ok_vret dX9_init_46 rfl
theorem ci_23 (d : Nat) (m : Mem) : CM SX (d + 1) m_X9_init S_89 S_87 [.ref 44, .int 8, .int 2] m (gi_23 m) :=
  CM.ofOk km_X9_init (by decide +kernel) (by simp [Value.category]) (Nat.le_of_ble_eq_true rfl) (oi_23 d m)

def gi_24 (m : Mem) : Ans :=
bnd (mset m 46 1 10) fun m_10_7 =>
bnd (mset m_10_7 46 2 1) fun m_19_12 =>
bnd (mnew m_19_12 47) fun m_36_21 =>
bnd (mset m_36_21 46 3 0) fun m_43_25 =>
some (0, m_43_25)
set_option maxRecDepth 100000 in
set_option maxHeartbeats 8000000 in
theorem oi_24 (d : Nat) (m : Mem) : Ok SX S_93 (d + 1) m_X9_init 0 [some (.ref 46), some (.int 10), some (.int 1)] [] S_91 m (gi_24 m) := by
  unfold gi_24
  refine ok_aload_n 1 0 dX9_init_0 rfl rfl rfl ?_
  refine ok_objInit 4 (by decide +kernel) dX9_init_1 rfl rfl ml_Encores_Table_3 (Nat.le_of_ble_eq_true rfl) ?_
  refine ok_aload_n 5 0 dX9_init_4 rfl rfl rfl ?_
  refine ok_iconst 6 0 dX9_init_5 rfl rfl ?_
  refine ok_iload_n 7 1 dX9_init_6 rfl rfl rfl ?_
  refine ok_max 10 (by decide +kernel) dX9_init_7 rfl rfl ml_Encores_Table_9 (Nat.le_of_ble_eq_true rfl) ?_
  rw [show (if (0 : Int32) < 10 then (10 : Int32) else 0) = 10 by decide]
  refine ok_putF 13 dX9_init_10 rfl rfl rfl rfl F_Encores_Table_15 (show S_91[46]? = some (9, 4, [none, none, none, none]) from rfl) rfl (Nat.le_of_ble_eq_true rfl) rfl rfl pZ_9_1 rfl rfl ?_
  refine ok_bndME (fun m_10_7 hm_m_10_7 => ?_)
  refine ok_aload_n 14 0 dX9_init_13 rfl rfl rfl ?_
  refine ok_iconst 15 1 dX9_init_14 rfl rfl ?_
  refine ok_iload_n 16 2 dX9_init_15 rfl rfl rfl ?_
  refine ok_max 19 (by decide +kernel) dX9_init_16 rfl rfl ml_Encores_Table_9 (Nat.le_of_ble_eq_true rfl) ?_
  rw [show (if (1 : Int32) < 1 then (1 : Int32) else 1) = 1 by decide]
  refine ok_putF 22 dX9_init_19 rfl rfl rfl rfl F_Encores_Table_21 (show S_91[46]? = some (9, 4, [none, none, none, none]) from rfl) rfl (Nat.le_of_ble_eq_true rfl) rfl rfl pZ_9_2 rfl rfl ?_
  refine ok_bndME (fun m_19_12 hm_m_19_12 => ?_)
  refine ok_aload_n 23 0 dX9_init_22 rfl rfl rfl ?_
  refine ok_iconst 24 0 dX9_init_23 rfl rfl ?_
  refine ok_aload_n 25 0 dX9_init_24 rfl rfl rfl ?_
  refine ok_getI 28 dX9_init_25 rfl rfl F_Encores_Table_15 (show S_91[46]? = some (9, 4, [none, none, none, none]) from rfl) rfl (Nat.le_of_ble_eq_true rfl) rfl ?_
  rw [show m_19_12 46 1 = 10 by subst_vars; rfl]
  refine ok_aload_n 29 0 dX9_init_28 rfl rfl rfl ?_
  refine ok_getI 32 dX9_init_29 rfl rfl F_Encores_Table_21 (show S_91[46]? = some (9, 4, [none, none, none, none]) from rfl) rfl (Nat.le_of_ble_eq_true rfl) rfl ?_
  rw [show m_19_12 46 2 = 1 by subst_vars; rfl]
  refine ok_imul 33 dX9_init_32 rfl ?_
  rw [show (10 * 1 : Int32) = 10 by decide]
  refine ok_max 36 (by decide +kernel) dX9_init_33 rfl rfl ml_Encores_Table_9 (Nat.le_of_ble_eq_true rfl) ?_
  rw [show (if (0 : Int32) < 10 then (10 : Int32) else 0) = 10 by decide]
  refine ok_newa (N := 10) 38 dX9_init_36 rfl (by decide) (by decide) (by decide) (by decide +kernel) (by decide +kernel) rfl (by decide +kernel) ?_
  refine ok_shape (S2 := S_92) rfl ?_
  refine ok_bndME (fun m_36_21 hm_m_36_21 => ?_)
  show Ok _ _ _ _ _ _ (.ref 47 :: _) _ _ _
  refine ok_putFR 41 dX9_init_38 rfl rfl rfl rfl F_Encores_Table_24 (show S_92[46]? = some (9, 4, [none, none, none, none]) from rfl) (Nat.le_of_ble_eq_true rfl) (Nat.le_of_ble_eq_true rfl) rfl rfl pZ_9_0 (fun _ => rfl) (fun _ => rfl) ?_
  refine ok_shape (S2 := S_93) rfl ?_
  refine ok_aload_n 42 0 dX9_init_41 rfl rfl rfl ?_
  refine ok_iconst 43 0 dX9_init_42 rfl rfl ?_
  refine ok_putI 46 dX9_init_43 rfl rfl F_Encores_Table_28 (show S_93[46]? = some (9, 4, [some 47, none, none, none]) from rfl) rfl (Nat.le_of_ble_eq_true rfl) rfl rfl pZ_9_3 rfl rfl ?_
  refine ok_bndME (fun m_43_25 hm_m_43_25 => ?_)
  exact ok_vret dX9_init_46 rfl
theorem ci_24 (d : Nat) (m : Mem) : CM SX (d + 1) m_X9_init S_93 S_91 [.ref 46, .int 10, .int 1] m (gi_24 m) :=
  CM.ofOk km_X9_init (by decide +kernel) (by simp [Value.category]) (Nat.le_of_ble_eq_true rfl) (oi_24 d m)

def gi_13 (m : Mem) : Ans :=
bnd (mnew m 26) fun m_5_4 =>
bd (gi_14 m_5_4) fun _ m_13_8 =>
bnd (mnew m_13_8 28) fun m_20_11 =>
bd (gi_15 m_20_11) fun _ m_27_15 =>
bnd (mnew m_27_15 30) fun m_34_18 =>
bd (gi_16 m_34_18) fun _ m_41_22 =>
bnd (mnew m_41_22 32) fun m_48_25 =>
bd (gi_17 m_48_25) fun _ m_56_29 =>
bnd (mnew m_56_29 34) fun m_63_32 =>
bd (gi_18 m_63_32) fun _ m_70_36 =>
bnd (mnew m_70_36 36) fun m_77_39 =>
bd (gi_19 m_77_39) fun _ m_85_43 =>
bnd (mnew m_85_43 38) fun m_92_46 =>
bd (gi_20 m_92_46) fun _ m_99_50 =>
bnd (mnew m_99_50 40) fun m_106_53 =>
bd (gi_21 m_106_53) fun _ m_113_57 =>
bnd (mnew m_113_57 42) fun m_120_60 =>
bd (gi_22 m_120_60) fun _ m_127_64 =>
bnd (mnew m_127_64 44) fun m_134_67 =>
bd (gi_23 m_134_67) fun _ m_141_71 =>
bnd (mnew m_141_71 46) fun m_148_74 =>
bd (gi_24 m_148_74) fun _ m_155_78 =>
bd (fg_X9_add 100 30 31 7 0 0 0 0 m_155_78) fun r_169_86 m_169_86 =>
bd (fg_X9_put 100 30 31 7 0 4 (-1) m_169_86) fun _ m_180_93 =>
bd (fg_X9_add 100 46 47 10 0 0 0 0 m_180_93) fun r_199_105 m_199_105 =>
bd (fg_X9_add 100 46 47 10 1 0 0 0 m_199_105) fun r_199_118 m_199_118 =>
bd (fg_X9_add 100 46 47 10 2 0 0 0 m_199_118) fun r_199_131 m_199_131 =>
bd (fg_X9_add 100 46 47 10 3 0 0 0 m_199_131) fun r_199_144 m_199_144 =>
bd (fg_X9_add 100 46 47 10 4 0 0 0 m_199_144) fun r_199_157 m_199_157 =>
bd (fg_X9_add 100 46 47 10 5 0 0 0 m_199_157) fun r_199_170 m_199_170 =>
bd (fg_X9_add 100 46 47 10 6 0 0 0 m_199_170) fun r_199_183 m_199_183 =>
bd (fg_X9_add 100 46 47 10 7 0 0 0 m_199_183) fun r_199_196 m_199_196 =>
bd (fg_X9_add 100 46 47 10 8 0 0 0 m_199_196) fun r_199_209 m_199_209 =>
bd (fg_X9_add 100 46 47 10 9 0 0 0 m_199_209) fun r_199_222 m_199_222 =>
some (0, m_199_222)
set_option maxRecDepth 100000 in
set_option maxHeartbeats 8000000 in
theorem oi_13 (d : Nat) (m : Mem) : Ok SX S_94 (d + 2) m_X1_init 0 [some (.ref 25), none] [] S_50 m (gi_13 m) := by
  unfold gi_13
  refine ok_aload_n 1 0 dX1_init_0 rfl rfl rfl ?_
  refine ok_objInit 4 (by decide +kernel) dX1_init_1 rfl rfl ml_Encores_House_3 (Nat.le_of_ble_eq_true rfl) ?_
  refine ok_aload_n 5 0 dX1_init_4 rfl rfl rfl ?_
  refine ok_new (ty := ty9) (ci := 9) 8 dX1_init_5 rfl rfl kl_Encores_House_9 in_Encores_Table wi_Encores_Table (by decide) rfl ty9_ok dv_9 (by decide +kernel) (by decide +kernel) rfl (by decide +kernel) ?_
  refine ok_shape (S2 := S_51) rfl ?_
  refine ok_bndME (fun m_5_4 hm_m_5_4 => ?_)
  show Ok _ _ _ _ _ _ (.ref 26 :: _) _ _ _
  refine ok_dup 9 dX1_init_8 rfl rfl ?_
  refine ok_bipush 11 12 dX1_init_9 rfl rfl ?_
  refine ok_bipush 13 8 dX1_init_11 rfl rfl ?_
  refine ok_callI (np := 2) (M' := m_X9_init) (As := [.int 12, .int 8]) (st := [.ref 26, .ref 25]) (r := 26) 16 dX1_init_13 rfl rfl km_X9_init ki_X9_init ml_Encores_House_11 (by decide) rfl rfl rfl rfl (Nat.le_of_ble_eq_true rfl) (ci_14 (d + 0) m_5_4) (by decide +kernel) (Or.inr (okR_of rfl)) (fun _ m_13_8 _ => ?_)
  refine ok_putFR 19 dX1_init_16 rfl rfl rfl rfl F_Encores_House_14 (show S_53[25]? = some (1, 11, [none, none, none, none, none, none, none, none, none, none, none]) from rfl) (Nat.le_of_ble_eq_true rfl) (Nat.le_of_ble_eq_true rfl) rfl rfl pZ_1_0 (fun _ => rfl) (fun _ => rfl) ?_
  refine ok_shape (S2 := S_54) rfl ?_
  refine ok_aload_n 20 0 dX1_init_19 rfl rfl rfl ?_
  refine ok_new (ty := ty9) (ci := 9) 23 dX1_init_20 rfl rfl kl_Encores_House_9 in_Encores_Table wi_Encores_Table (by decide) rfl ty9_ok dv_9 (by decide +kernel) (by decide +kernel) rfl (by decide +kernel) ?_
  refine ok_shape (S2 := S_55) rfl ?_
  refine ok_bndME (fun m_20_11 hm_m_20_11 => ?_)
  show Ok _ _ _ _ _ _ (.ref 28 :: _) _ _ _
  refine ok_dup 24 dX1_init_23 rfl rfl ?_
  refine ok_bipush 26 8 dX1_init_24 rfl rfl ?_
  refine ok_iconst 27 5 dX1_init_26 rfl rfl ?_
  refine ok_callI (np := 2) (M' := m_X9_init) (As := [.int 8, .int 5]) (st := [.ref 28, .ref 25]) (r := 28) 30 dX1_init_27 rfl rfl km_X9_init ki_X9_init ml_Encores_House_11 (by decide) rfl rfl rfl rfl (Nat.le_of_ble_eq_true rfl) (ci_15 (d + 0) m_20_11) (by decide +kernel) (Or.inr (okR_of rfl)) (fun _ m_27_15 _ => ?_)
  refine ok_putFR 33 dX1_init_30 rfl rfl rfl rfl F_Encores_House_20 (show S_57[25]? = some (1, 11, [some 26, none, none, none, none, none, none, none, none, none, none]) from rfl) (Nat.le_of_ble_eq_true rfl) (Nat.le_of_ble_eq_true rfl) rfl rfl pZ_1_1 (fun _ => rfl) (fun _ => rfl) ?_
  refine ok_shape (S2 := S_58) rfl ?_
  refine ok_aload_n 34 0 dX1_init_33 rfl rfl rfl ?_
  refine ok_new (ty := ty9) (ci := 9) 37 dX1_init_34 rfl rfl kl_Encores_House_9 in_Encores_Table wi_Encores_Table (by decide) rfl ty9_ok dv_9 (by decide +kernel) (by decide +kernel) rfl (by decide +kernel) ?_
  refine ok_shape (S2 := S_59) rfl ?_
  refine ok_bndME (fun m_34_18 hm_m_34_18 => ?_)
  show Ok _ _ _ _ _ _ (.ref 30 :: _) _ _ _
  refine ok_dup 38 dX1_init_37 rfl rfl ?_
  refine ok_iconst 39 1 dX1_init_38 rfl rfl ?_
  refine ok_bipush 41 7 dX1_init_39 rfl rfl ?_
  refine ok_callI (np := 2) (M' := m_X9_init) (As := [.int 1, .int 7]) (st := [.ref 30, .ref 25]) (r := 30) 44 dX1_init_41 rfl rfl km_X9_init ki_X9_init ml_Encores_House_11 (by decide) rfl rfl rfl rfl (Nat.le_of_ble_eq_true rfl) (ci_16 (d + 0) m_34_18) (by decide +kernel) (Or.inr (okR_of rfl)) (fun _ m_41_22 _ => ?_)
  refine ok_putFR 47 dX1_init_44 rfl rfl rfl rfl F_Encores_House_23 (show S_61[25]? = some (1, 11, [some 26, some 28, none, none, none, none, none, none, none, none, none]) from rfl) (Nat.le_of_ble_eq_true rfl) (Nat.le_of_ble_eq_true rfl) rfl rfl pZ_1_2 (fun _ => rfl) (fun _ => rfl) ?_
  refine ok_shape (S2 := S_62) rfl ?_
  refine ok_aload_n 48 0 dX1_init_47 rfl rfl rfl ?_
  refine ok_new (ty := ty9) (ci := 9) 51 dX1_init_48 rfl rfl kl_Encores_House_9 in_Encores_Table wi_Encores_Table (by decide) rfl ty9_ok dv_9 (by decide +kernel) (by decide +kernel) rfl (by decide +kernel) ?_
  refine ok_shape (S2 := S_63) rfl ?_
  refine ok_bndME (fun m_48_25 hm_m_48_25 => ?_)
  show Ok _ _ _ _ _ _ (.ref 32 :: _) _ _ _
  refine ok_dup 52 dX1_init_51 rfl rfl ?_
  refine ok_sipush 55 150 dX1_init_52 rfl rfl ?_
  refine ok_iconst 56 4 dX1_init_55 rfl rfl ?_
  refine ok_callI (np := 2) (M' := m_X9_init) (As := [.int 150, .int 4]) (st := [.ref 32, .ref 25]) (r := 32) 59 dX1_init_56 rfl rfl km_X9_init ki_X9_init ml_Encores_House_11 (by decide) rfl rfl rfl rfl (Nat.le_of_ble_eq_true rfl) (ci_17 (d + 0) m_48_25) (by decide +kernel) (Or.inr (okR_of rfl)) (fun _ m_56_29 _ => ?_)
  refine ok_putFR 62 dX1_init_59 rfl rfl rfl rfl F_Encores_House_26 (show S_65[25]? = some (1, 11, [some 26, some 28, some 30, none, none, none, none, none, none, none, none]) from rfl) (Nat.le_of_ble_eq_true rfl) (Nat.le_of_ble_eq_true rfl) rfl rfl pZ_1_3 (fun _ => rfl) (fun _ => rfl) ?_
  refine ok_shape (S2 := S_66) rfl ?_
  refine ok_aload_n 63 0 dX1_init_62 rfl rfl rfl ?_
  refine ok_new (ty := ty9) (ci := 9) 66 dX1_init_63 rfl rfl kl_Encores_House_9 in_Encores_Table wi_Encores_Table (by decide) rfl ty9_ok dv_9 (by decide +kernel) (by decide +kernel) rfl (by decide +kernel) ?_
  refine ok_shape (S2 := S_67) rfl ?_
  refine ok_bndME (fun m_63_32 hm_m_63_32 => ?_)
  show Ok _ _ _ _ _ _ (.ref 34 :: _) _ _ _
  refine ok_dup 67 dX1_init_66 rfl rfl ?_
  refine ok_bipush 69 16 dX1_init_67 rfl rfl ?_
  refine ok_iconst 70 4 dX1_init_69 rfl rfl ?_
  refine ok_callI (np := 2) (M' := m_X9_init) (As := [.int 16, .int 4]) (st := [.ref 34, .ref 25]) (r := 34) 73 dX1_init_70 rfl rfl km_X9_init ki_X9_init ml_Encores_House_11 (by decide) rfl rfl rfl rfl (Nat.le_of_ble_eq_true rfl) (ci_18 (d + 0) m_63_32) (by decide +kernel) (Or.inr (okR_of rfl)) (fun _ m_70_36 _ => ?_)
  refine ok_putFR 76 dX1_init_73 rfl rfl rfl rfl F_Encores_House_29 (show S_69[25]? = some (1, 11, [some 26, some 28, some 30, some 32, none, none, none, none, none, none, none]) from rfl) (Nat.le_of_ble_eq_true rfl) (Nat.le_of_ble_eq_true rfl) rfl rfl pZ_1_4 (fun _ => rfl) (fun _ => rfl) ?_
  refine ok_shape (S2 := S_70) rfl ?_
  refine ok_aload_n 77 0 dX1_init_76 rfl rfl rfl ?_
  refine ok_new (ty := ty9) (ci := 9) 80 dX1_init_77 rfl rfl kl_Encores_House_9 in_Encores_Table wi_Encores_Table (by decide) rfl ty9_ok dv_9 (by decide +kernel) (by decide +kernel) rfl (by decide +kernel) ?_
  refine ok_shape (S2 := S_71) rfl ?_
  refine ok_bndME (fun m_77_39 hm_m_77_39 => ?_)
  show Ok _ _ _ _ _ _ (.ref 36 :: _) _ _ _
  refine ok_dup 81 dX1_init_80 rfl rfl ?_
  refine ok_sipush 84 400 dX1_init_81 rfl rfl ?_
  refine ok_iconst 85 2 dX1_init_84 rfl rfl ?_
  refine ok_callI (np := 2) (M' := m_X9_init) (As := [.int 400, .int 2]) (st := [.ref 36, .ref 25]) (r := 36) 88 dX1_init_85 rfl rfl km_X9_init ki_X9_init ml_Encores_House_11 (by decide) rfl rfl rfl rfl (Nat.le_of_ble_eq_true rfl) (ci_19 (d + 0) m_77_39) (by decide +kernel) (Or.inr (okR_of rfl)) (fun _ m_85_43 _ => ?_)
  refine ok_putFR 91 dX1_init_88 rfl rfl rfl rfl F_Encores_House_32 (show S_73[25]? = some (1, 11, [some 26, some 28, some 30, some 32, some 34, none, none, none, none, none, none]) from rfl) (Nat.le_of_ble_eq_true rfl) (Nat.le_of_ble_eq_true rfl) rfl rfl pZ_1_5 (fun _ => rfl) (fun _ => rfl) ?_
  refine ok_shape (S2 := S_74) rfl ?_
  refine ok_aload_n 92 0 dX1_init_91 rfl rfl rfl ?_
  refine ok_new (ty := ty9) (ci := 9) 95 dX1_init_92 rfl rfl kl_Encores_House_9 in_Encores_Table wi_Encores_Table (by decide) rfl ty9_ok dv_9 (by decide +kernel) (by decide +kernel) rfl (by decide +kernel) ?_
  refine ok_shape (S2 := S_75) rfl ?_
  refine ok_bndME (fun m_92_46 hm_m_92_46 => ?_)
  show Ok _ _ _ _ _ _ (.ref 38 :: _) _ _ _
  refine ok_dup 96 dX1_init_95 rfl rfl ?_
  refine ok_bipush 98 16 dX1_init_96 rfl rfl ?_
  refine ok_iconst 99 4 dX1_init_98 rfl rfl ?_
  refine ok_callI (np := 2) (M' := m_X9_init) (As := [.int 16, .int 4]) (st := [.ref 38, .ref 25]) (r := 38) 102 dX1_init_99 rfl rfl km_X9_init ki_X9_init ml_Encores_House_11 (by decide) rfl rfl rfl rfl (Nat.le_of_ble_eq_true rfl) (ci_20 (d + 0) m_92_46) (by decide +kernel) (Or.inr (okR_of rfl)) (fun _ m_99_50 _ => ?_)
  refine ok_putFR 105 dX1_init_102 rfl rfl rfl rfl F_Encores_House_35 (show S_77[25]? = some (1, 11, [some 26, some 28, some 30, some 32, some 34, some 36, none, none, none, none, none]) from rfl) (Nat.le_of_ble_eq_true rfl) (Nat.le_of_ble_eq_true rfl) rfl rfl pZ_1_6 (fun _ => rfl) (fun _ => rfl) ?_
  refine ok_shape (S2 := S_78) rfl ?_
  refine ok_aload_n 106 0 dX1_init_105 rfl rfl rfl ?_
  refine ok_new (ty := ty9) (ci := 9) 109 dX1_init_106 rfl rfl kl_Encores_House_9 in_Encores_Table wi_Encores_Table (by decide) rfl ty9_ok dv_9 (by decide +kernel) (by decide +kernel) rfl (by decide +kernel) ?_
  refine ok_shape (S2 := S_79) rfl ?_
  refine ok_bndME (fun m_106_53 hm_m_106_53 => ?_)
  show Ok _ _ _ _ _ _ (.ref 40 :: _) _ _ _
  refine ok_dup 110 dX1_init_109 rfl rfl ?_
  refine ok_bipush 112 16 dX1_init_110 rfl rfl ?_
  refine ok_iconst 113 4 dX1_init_112 rfl rfl ?_
  refine ok_callI (np := 2) (M' := m_X9_init) (As := [.int 16, .int 4]) (st := [.ref 40, .ref 25]) (r := 40) 116 dX1_init_113 rfl rfl km_X9_init ki_X9_init ml_Encores_House_11 (by decide) rfl rfl rfl rfl (Nat.le_of_ble_eq_true rfl) (ci_21 (d + 0) m_106_53) (by decide +kernel) (Or.inr (okR_of rfl)) (fun _ m_113_57 _ => ?_)
  refine ok_putFR 119 dX1_init_116 rfl rfl rfl rfl F_Encores_House_38 (show S_81[25]? = some (1, 11, [some 26, some 28, some 30, some 32, some 34, some 36, some 38, none, none, none, none]) from rfl) (Nat.le_of_ble_eq_true rfl) (Nat.le_of_ble_eq_true rfl) rfl rfl pZ_1_7 (fun _ => rfl) (fun _ => rfl) ?_
  refine ok_shape (S2 := S_82) rfl ?_
  refine ok_aload_n 120 0 dX1_init_119 rfl rfl rfl ?_
  refine ok_new (ty := ty9) (ci := 9) 123 dX1_init_120 rfl rfl kl_Encores_House_9 in_Encores_Table wi_Encores_Table (by decide) rfl ty9_ok dv_9 (by decide +kernel) (by decide +kernel) rfl (by decide +kernel) ?_
  refine ok_shape (S2 := S_83) rfl ?_
  refine ok_bndME (fun m_120_60 hm_m_120_60 => ?_)
  show Ok _ _ _ _ _ _ (.ref 42 :: _) _ _ _
  refine ok_dup 124 dX1_init_123 rfl rfl ?_
  refine ok_bipush 126 16 dX1_init_124 rfl rfl ?_
  refine ok_iconst 127 4 dX1_init_126 rfl rfl ?_
  refine ok_callI (np := 2) (M' := m_X9_init) (As := [.int 16, .int 4]) (st := [.ref 42, .ref 25]) (r := 42) 130 dX1_init_127 rfl rfl km_X9_init ki_X9_init ml_Encores_House_11 (by decide) rfl rfl rfl rfl (Nat.le_of_ble_eq_true rfl) (ci_22 (d + 0) m_120_60) (by decide +kernel) (Or.inr (okR_of rfl)) (fun _ m_127_64 _ => ?_)
  refine ok_putFR 133 dX1_init_130 rfl rfl rfl rfl F_Encores_House_41 (show S_85[25]? = some (1, 11, [some 26, some 28, some 30, some 32, some 34, some 36, some 38, some 40, none, none, none]) from rfl) (Nat.le_of_ble_eq_true rfl) (Nat.le_of_ble_eq_true rfl) rfl rfl pZ_1_8 (fun _ => rfl) (fun _ => rfl) ?_
  refine ok_shape (S2 := S_86) rfl ?_
  refine ok_aload_n 134 0 dX1_init_133 rfl rfl rfl ?_
  refine ok_new (ty := ty9) (ci := 9) 137 dX1_init_134 rfl rfl kl_Encores_House_9 in_Encores_Table wi_Encores_Table (by decide) rfl ty9_ok dv_9 (by decide +kernel) (by decide +kernel) rfl (by decide +kernel) ?_
  refine ok_shape (S2 := S_87) rfl ?_
  refine ok_bndME (fun m_134_67 hm_m_134_67 => ?_)
  show Ok _ _ _ _ _ _ (.ref 44 :: _) _ _ _
  refine ok_dup 138 dX1_init_137 rfl rfl ?_
  refine ok_bipush 140 8 dX1_init_138 rfl rfl ?_
  refine ok_iconst 141 2 dX1_init_140 rfl rfl ?_
  refine ok_callI (np := 2) (M' := m_X9_init) (As := [.int 8, .int 2]) (st := [.ref 44, .ref 25]) (r := 44) 144 dX1_init_141 rfl rfl km_X9_init ki_X9_init ml_Encores_House_11 (by decide) rfl rfl rfl rfl (Nat.le_of_ble_eq_true rfl) (ci_23 (d + 0) m_134_67) (by decide +kernel) (Or.inr (okR_of rfl)) (fun _ m_141_71 _ => ?_)
  refine ok_putFR 147 dX1_init_144 rfl rfl rfl rfl F_Encores_House_44 (show S_89[25]? = some (1, 11, [some 26, some 28, some 30, some 32, some 34, some 36, some 38, some 40, some 42, none, none]) from rfl) (Nat.le_of_ble_eq_true rfl) (Nat.le_of_ble_eq_true rfl) rfl rfl pZ_1_9 (fun _ => rfl) (fun _ => rfl) ?_
  refine ok_shape (S2 := S_90) rfl ?_
  refine ok_aload_n 148 0 dX1_init_147 rfl rfl rfl ?_
  refine ok_new (ty := ty9) (ci := 9) 151 dX1_init_148 rfl rfl kl_Encores_House_9 in_Encores_Table wi_Encores_Table (by decide) rfl ty9_ok dv_9 (by decide +kernel) (by decide +kernel) rfl (by decide +kernel) ?_
  refine ok_shape (S2 := S_91) rfl ?_
  refine ok_bndME (fun m_148_74 hm_m_148_74 => ?_)
  show Ok _ _ _ _ _ _ (.ref 46 :: _) _ _ _
  refine ok_dup 152 dX1_init_151 rfl rfl ?_
  refine ok_bipush 154 10 dX1_init_152 rfl rfl ?_
  refine ok_iconst 155 1 dX1_init_154 rfl rfl ?_
  refine ok_callI (np := 2) (M' := m_X9_init) (As := [.int 10, .int 1]) (st := [.ref 46, .ref 25]) (r := 46) 158 dX1_init_155 rfl rfl km_X9_init ki_X9_init ml_Encores_House_11 (by decide) rfl rfl rfl rfl (Nat.le_of_ble_eq_true rfl) (ci_24 (d + 0) m_148_74) (by decide +kernel) (Or.inr (okR_of rfl)) (fun _ m_155_78 _ => ?_)
  refine ok_putFR 161 dX1_init_158 rfl rfl rfl rfl F_Encores_House_47 (show S_93[25]? = some (1, 11, [some 26, some 28, some 30, some 32, some 34, some 36, some 38, some 40, some 42, some 44, none]) from rfl) (Nat.le_of_ble_eq_true rfl) (Nat.le_of_ble_eq_true rfl) rfl rfl pZ_1_10 (fun _ => rfl) (fun _ => rfl) ?_
  refine ok_shape (S2 := S_94) rfl ?_
  refine ok_aload_n 162 0 dX1_init_161 rfl rfl rfl ?_
  refine ok_getR 165 dX1_init_162 rfl rfl F_Encores_House_23 (show S_94[25]? = some (1, 11, [some 26, some 28, some 30, some 32, some 34, some 36, some 38, some 40, some 42, some 44, some 46]) from rfl) rfl (Nat.le_of_ble_eq_true rfl) rfl rfl ?_
  refine ok_iconst 166 0 dX1_init_165 rfl rfl ?_
  refine ok_iconst 167 0 dX1_init_166 rfl rfl ?_
  refine ok_iconst 168 0 dX1_init_167 rfl rfl ?_
  refine ok_iconst 169 0 dX1_init_168 rfl rfl ?_
  refine ok_callVi (np := 4) (M' := m_X9_add) (As := [.int 0, .int 0, .int 0, .int 0]) (st := []) 172 dX1_init_169 rfl rfl km_X9_add ki_X9_add kv_X9_add ml_Encores_House_50 (by decide) (show S_94[30]? = some (9, 4, [some 31, none, none, none]) from rfl) rfl (by decide) rfl rfl rfl (Nat.le_of_ble_eq_true rfl) (cg_X9_add 100 (d + 1) S_94 30 31 7 0 0 0 0 rfl rfl m_155_78) (by decide +kernel) (Or.inl rfl) rfl (fun r_169_86 m_169_86 _ => ?_)
  refine ok_pop 173 dX1_init_172 rfl rfl ?_
  refine ok_aload_n 174 0 dX1_init_173 rfl rfl rfl ?_
  refine ok_getR 177 dX1_init_174 rfl rfl F_Encores_House_23 (show S_94[25]? = some (1, 11, [some 26, some 28, some 30, some 32, some 34, some 36, some 38, some 40, some 42, some 44, some 46]) from rfl) rfl (Nat.le_of_ble_eq_true rfl) rfl rfl ?_
  refine ok_iconst 178 0 dX1_init_177 rfl rfl ?_
  refine ok_iconst 179 4 dX1_init_178 rfl rfl ?_
  refine ok_iconst 180 (-1) dX1_init_179 rfl rfl ?_
  refine ok_callVv (np := 3) (M' := m_X9_put) (As := [.int 0, .int 4, .int (-1)]) (st := []) 183 dX1_init_180 rfl rfl km_X9_put ki_X9_put kv_X9_put ml_Encores_House_54 (by decide) (show S_94[30]? = some (9, 4, [some 31, none, none, none]) from rfl) rfl (by decide) rfl rfl rfl (Nat.le_of_ble_eq_true rfl) (cg_X9_put 100 (d + 1) S_94 30 31 7 0 4 (-1) rfl rfl m_169_86) (by decide +kernel) (Or.inl rfl) rfl (fun _ m_180_93 _ => ?_)
  refine ok_iconst 184 0 dX1_init_183 rfl rfl ?_
  refine ok_istore_n 185 1 [some (.ref 25), some (.int 0)] dX1_init_184 rfl rfl (by decide) rfl ?_
  refine ok_iload_n 186 1 dX1_init_185 rfl rfl rfl ?_
  refine ok_bipush 188 10 dX1_init_186 rfl rfl ?_
  refine ok_eqx (if_neg (by decide : ¬ (10 : Int32) ≤ 0)) (ok_icmp_ge (x1 := none) 209 191 dX1_init_188 (by decide) rfl (fun _ => Ok.none) (fun _ => ?_))
  refine ok_aload_n 192 0 dX1_init_191 rfl rfl rfl ?_
  refine ok_getR 195 dX1_init_192 rfl rfl F_Encores_House_47 (show S_94[25]? = some (1, 11, [some 26, some 28, some 30, some 32, some 34, some 36, some 38, some 40, some 42, some 44, some 46]) from rfl) rfl (Nat.le_of_ble_eq_true rfl) rfl rfl ?_
  refine ok_iload_n 196 1 dX1_init_195 rfl rfl rfl ?_
  refine ok_iconst 197 0 dX1_init_196 rfl rfl ?_
  refine ok_iconst 198 0 dX1_init_197 rfl rfl ?_
  refine ok_iconst 199 0 dX1_init_198 rfl rfl ?_
  refine ok_callVi (np := 4) (M' := m_X9_add) (As := [.int 0, .int 0, .int 0, .int 0]) (st := []) 202 dX1_init_199 rfl rfl km_X9_add ki_X9_add kv_X9_add ml_Encores_House_50 (by decide) (show S_94[46]? = some (9, 4, [some 47, none, none, none]) from rfl) rfl (by decide) rfl rfl rfl (Nat.le_of_ble_eq_true rfl) (cg_X9_add 100 (d + 1) S_94 46 47 10 0 0 0 0 rfl rfl m_180_93) (by decide +kernel) (Or.inl rfl) rfl (fun r_199_105 m_199_105 _ => ?_)
  refine ok_pop 203 dX1_init_202 rfl rfl ?_
  refine ok_iinc 206 1 1 [some (.ref 25), some (.int 1)] dX1_init_203 rfl rfl rfl (by decide) rfl ?_
  refine ok_goto 185 dX1_init_206 (by decide) ?_
  refine ok_iload_n 186 1 dX1_init_185 rfl rfl rfl ?_
  refine ok_bipush 188 10 dX1_init_186 rfl rfl ?_
  refine ok_eqx (if_neg (by decide : ¬ (10 : Int32) ≤ 1)) (ok_icmp_ge (x1 := none) 209 191 dX1_init_188 (by decide) rfl (fun _ => Ok.none) (fun _ => ?_))
  refine ok_aload_n 192 0 dX1_init_191 rfl rfl rfl ?_
  refine ok_getR 195 dX1_init_192 rfl rfl F_Encores_House_47 (show S_94[25]? = some (1, 11, [some 26, some 28, some 30, some 32, some 34, some 36, some 38, some 40, some 42, some 44, some 46]) from rfl) rfl (Nat.le_of_ble_eq_true rfl) rfl rfl ?_
  refine ok_iload_n 196 1 dX1_init_195 rfl rfl rfl ?_
  refine ok_iconst 197 0 dX1_init_196 rfl rfl ?_
  refine ok_iconst 198 0 dX1_init_197 rfl rfl ?_
  refine ok_iconst 199 0 dX1_init_198 rfl rfl ?_
  refine ok_callVi (np := 4) (M' := m_X9_add) (As := [.int 1, .int 0, .int 0, .int 0]) (st := []) 202 dX1_init_199 rfl rfl km_X9_add ki_X9_add kv_X9_add ml_Encores_House_50 (by decide) (show S_94[46]? = some (9, 4, [some 47, none, none, none]) from rfl) rfl (by decide) rfl rfl rfl (Nat.le_of_ble_eq_true rfl) (cg_X9_add 100 (d + 1) S_94 46 47 10 1 0 0 0 rfl rfl m_199_105) (by decide +kernel) (Or.inl rfl) rfl (fun r_199_118 m_199_118 _ => ?_)
  refine ok_pop 203 dX1_init_202 rfl rfl ?_
  refine ok_iinc 206 1 1 [some (.ref 25), some (.int 2)] dX1_init_203 rfl rfl rfl (by decide) rfl ?_
  refine ok_goto 185 dX1_init_206 (by decide) ?_
  refine ok_iload_n 186 1 dX1_init_185 rfl rfl rfl ?_
  refine ok_bipush 188 10 dX1_init_186 rfl rfl ?_
  refine ok_eqx (if_neg (by decide : ¬ (10 : Int32) ≤ 2)) (ok_icmp_ge (x1 := none) 209 191 dX1_init_188 (by decide) rfl (fun _ => Ok.none) (fun _ => ?_))
  refine ok_aload_n 192 0 dX1_init_191 rfl rfl rfl ?_
  refine ok_getR 195 dX1_init_192 rfl rfl F_Encores_House_47 (show S_94[25]? = some (1, 11, [some 26, some 28, some 30, some 32, some 34, some 36, some 38, some 40, some 42, some 44, some 46]) from rfl) rfl (Nat.le_of_ble_eq_true rfl) rfl rfl ?_
  refine ok_iload_n 196 1 dX1_init_195 rfl rfl rfl ?_
  refine ok_iconst 197 0 dX1_init_196 rfl rfl ?_
  refine ok_iconst 198 0 dX1_init_197 rfl rfl ?_
  refine ok_iconst 199 0 dX1_init_198 rfl rfl ?_
  refine ok_callVi (np := 4) (M' := m_X9_add) (As := [.int 2, .int 0, .int 0, .int 0]) (st := []) 202 dX1_init_199 rfl rfl km_X9_add ki_X9_add kv_X9_add ml_Encores_House_50 (by decide) (show S_94[46]? = some (9, 4, [some 47, none, none, none]) from rfl) rfl (by decide) rfl rfl rfl (Nat.le_of_ble_eq_true rfl) (cg_X9_add 100 (d + 1) S_94 46 47 10 2 0 0 0 rfl rfl m_199_118) (by decide +kernel) (Or.inl rfl) rfl (fun r_199_131 m_199_131 _ => ?_)
  refine ok_pop 203 dX1_init_202 rfl rfl ?_
  refine ok_iinc 206 1 1 [some (.ref 25), some (.int 3)] dX1_init_203 rfl rfl rfl (by decide) rfl ?_
  refine ok_goto 185 dX1_init_206 (by decide) ?_
  refine ok_iload_n 186 1 dX1_init_185 rfl rfl rfl ?_
  refine ok_bipush 188 10 dX1_init_186 rfl rfl ?_
  refine ok_eqx (if_neg (by decide : ¬ (10 : Int32) ≤ 3)) (ok_icmp_ge (x1 := none) 209 191 dX1_init_188 (by decide) rfl (fun _ => Ok.none) (fun _ => ?_))
  refine ok_aload_n 192 0 dX1_init_191 rfl rfl rfl ?_
  refine ok_getR 195 dX1_init_192 rfl rfl F_Encores_House_47 (show S_94[25]? = some (1, 11, [some 26, some 28, some 30, some 32, some 34, some 36, some 38, some 40, some 42, some 44, some 46]) from rfl) rfl (Nat.le_of_ble_eq_true rfl) rfl rfl ?_
  refine ok_iload_n 196 1 dX1_init_195 rfl rfl rfl ?_
  refine ok_iconst 197 0 dX1_init_196 rfl rfl ?_
  refine ok_iconst 198 0 dX1_init_197 rfl rfl ?_
  refine ok_iconst 199 0 dX1_init_198 rfl rfl ?_
  refine ok_callVi (np := 4) (M' := m_X9_add) (As := [.int 3, .int 0, .int 0, .int 0]) (st := []) 202 dX1_init_199 rfl rfl km_X9_add ki_X9_add kv_X9_add ml_Encores_House_50 (by decide) (show S_94[46]? = some (9, 4, [some 47, none, none, none]) from rfl) rfl (by decide) rfl rfl rfl (Nat.le_of_ble_eq_true rfl) (cg_X9_add 100 (d + 1) S_94 46 47 10 3 0 0 0 rfl rfl m_199_131) (by decide +kernel) (Or.inl rfl) rfl (fun r_199_144 m_199_144 _ => ?_)
  refine ok_pop 203 dX1_init_202 rfl rfl ?_
  refine ok_iinc 206 1 1 [some (.ref 25), some (.int 4)] dX1_init_203 rfl rfl rfl (by decide) rfl ?_
  refine ok_goto 185 dX1_init_206 (by decide) ?_
  refine ok_iload_n 186 1 dX1_init_185 rfl rfl rfl ?_
  refine ok_bipush 188 10 dX1_init_186 rfl rfl ?_
  refine ok_eqx (if_neg (by decide : ¬ (10 : Int32) ≤ 4)) (ok_icmp_ge (x1 := none) 209 191 dX1_init_188 (by decide) rfl (fun _ => Ok.none) (fun _ => ?_))
  refine ok_aload_n 192 0 dX1_init_191 rfl rfl rfl ?_
  refine ok_getR 195 dX1_init_192 rfl rfl F_Encores_House_47 (show S_94[25]? = some (1, 11, [some 26, some 28, some 30, some 32, some 34, some 36, some 38, some 40, some 42, some 44, some 46]) from rfl) rfl (Nat.le_of_ble_eq_true rfl) rfl rfl ?_
  refine ok_iload_n 196 1 dX1_init_195 rfl rfl rfl ?_
  refine ok_iconst 197 0 dX1_init_196 rfl rfl ?_
  refine ok_iconst 198 0 dX1_init_197 rfl rfl ?_
  refine ok_iconst 199 0 dX1_init_198 rfl rfl ?_
  refine ok_callVi (np := 4) (M' := m_X9_add) (As := [.int 4, .int 0, .int 0, .int 0]) (st := []) 202 dX1_init_199 rfl rfl km_X9_add ki_X9_add kv_X9_add ml_Encores_House_50 (by decide) (show S_94[46]? = some (9, 4, [some 47, none, none, none]) from rfl) rfl (by decide) rfl rfl rfl (Nat.le_of_ble_eq_true rfl) (cg_X9_add 100 (d + 1) S_94 46 47 10 4 0 0 0 rfl rfl m_199_144) (by decide +kernel) (Or.inl rfl) rfl (fun r_199_157 m_199_157 _ => ?_)
  refine ok_pop 203 dX1_init_202 rfl rfl ?_
  refine ok_iinc 206 1 1 [some (.ref 25), some (.int 5)] dX1_init_203 rfl rfl rfl (by decide) rfl ?_
  refine ok_goto 185 dX1_init_206 (by decide) ?_
  refine ok_iload_n 186 1 dX1_init_185 rfl rfl rfl ?_
  refine ok_bipush 188 10 dX1_init_186 rfl rfl ?_
  refine ok_eqx (if_neg (by decide : ¬ (10 : Int32) ≤ 5)) (ok_icmp_ge (x1 := none) 209 191 dX1_init_188 (by decide) rfl (fun _ => Ok.none) (fun _ => ?_))
  refine ok_aload_n 192 0 dX1_init_191 rfl rfl rfl ?_
  refine ok_getR 195 dX1_init_192 rfl rfl F_Encores_House_47 (show S_94[25]? = some (1, 11, [some 26, some 28, some 30, some 32, some 34, some 36, some 38, some 40, some 42, some 44, some 46]) from rfl) rfl (Nat.le_of_ble_eq_true rfl) rfl rfl ?_
  refine ok_iload_n 196 1 dX1_init_195 rfl rfl rfl ?_
  refine ok_iconst 197 0 dX1_init_196 rfl rfl ?_
  refine ok_iconst 198 0 dX1_init_197 rfl rfl ?_
  refine ok_iconst 199 0 dX1_init_198 rfl rfl ?_
  refine ok_callVi (np := 4) (M' := m_X9_add) (As := [.int 5, .int 0, .int 0, .int 0]) (st := []) 202 dX1_init_199 rfl rfl km_X9_add ki_X9_add kv_X9_add ml_Encores_House_50 (by decide) (show S_94[46]? = some (9, 4, [some 47, none, none, none]) from rfl) rfl (by decide) rfl rfl rfl (Nat.le_of_ble_eq_true rfl) (cg_X9_add 100 (d + 1) S_94 46 47 10 5 0 0 0 rfl rfl m_199_157) (by decide +kernel) (Or.inl rfl) rfl (fun r_199_170 m_199_170 _ => ?_)
  refine ok_pop 203 dX1_init_202 rfl rfl ?_
  refine ok_iinc 206 1 1 [some (.ref 25), some (.int 6)] dX1_init_203 rfl rfl rfl (by decide) rfl ?_
  refine ok_goto 185 dX1_init_206 (by decide) ?_
  refine ok_iload_n 186 1 dX1_init_185 rfl rfl rfl ?_
  refine ok_bipush 188 10 dX1_init_186 rfl rfl ?_
  refine ok_eqx (if_neg (by decide : ¬ (10 : Int32) ≤ 6)) (ok_icmp_ge (x1 := none) 209 191 dX1_init_188 (by decide) rfl (fun _ => Ok.none) (fun _ => ?_))
  refine ok_aload_n 192 0 dX1_init_191 rfl rfl rfl ?_
  refine ok_getR 195 dX1_init_192 rfl rfl F_Encores_House_47 (show S_94[25]? = some (1, 11, [some 26, some 28, some 30, some 32, some 34, some 36, some 38, some 40, some 42, some 44, some 46]) from rfl) rfl (Nat.le_of_ble_eq_true rfl) rfl rfl ?_
  refine ok_iload_n 196 1 dX1_init_195 rfl rfl rfl ?_
  refine ok_iconst 197 0 dX1_init_196 rfl rfl ?_
  refine ok_iconst 198 0 dX1_init_197 rfl rfl ?_
  refine ok_iconst 199 0 dX1_init_198 rfl rfl ?_
  refine ok_callVi (np := 4) (M' := m_X9_add) (As := [.int 6, .int 0, .int 0, .int 0]) (st := []) 202 dX1_init_199 rfl rfl km_X9_add ki_X9_add kv_X9_add ml_Encores_House_50 (by decide) (show S_94[46]? = some (9, 4, [some 47, none, none, none]) from rfl) rfl (by decide) rfl rfl rfl (Nat.le_of_ble_eq_true rfl) (cg_X9_add 100 (d + 1) S_94 46 47 10 6 0 0 0 rfl rfl m_199_170) (by decide +kernel) (Or.inl rfl) rfl (fun r_199_183 m_199_183 _ => ?_)
  refine ok_pop 203 dX1_init_202 rfl rfl ?_
  refine ok_iinc 206 1 1 [some (.ref 25), some (.int 7)] dX1_init_203 rfl rfl rfl (by decide) rfl ?_
  refine ok_goto 185 dX1_init_206 (by decide) ?_
  refine ok_iload_n 186 1 dX1_init_185 rfl rfl rfl ?_
  refine ok_bipush 188 10 dX1_init_186 rfl rfl ?_
  refine ok_eqx (if_neg (by decide : ¬ (10 : Int32) ≤ 7)) (ok_icmp_ge (x1 := none) 209 191 dX1_init_188 (by decide) rfl (fun _ => Ok.none) (fun _ => ?_))
  refine ok_aload_n 192 0 dX1_init_191 rfl rfl rfl ?_
  refine ok_getR 195 dX1_init_192 rfl rfl F_Encores_House_47 (show S_94[25]? = some (1, 11, [some 26, some 28, some 30, some 32, some 34, some 36, some 38, some 40, some 42, some 44, some 46]) from rfl) rfl (Nat.le_of_ble_eq_true rfl) rfl rfl ?_
  refine ok_iload_n 196 1 dX1_init_195 rfl rfl rfl ?_
  refine ok_iconst 197 0 dX1_init_196 rfl rfl ?_
  refine ok_iconst 198 0 dX1_init_197 rfl rfl ?_
  refine ok_iconst 199 0 dX1_init_198 rfl rfl ?_
  refine ok_callVi (np := 4) (M' := m_X9_add) (As := [.int 7, .int 0, .int 0, .int 0]) (st := []) 202 dX1_init_199 rfl rfl km_X9_add ki_X9_add kv_X9_add ml_Encores_House_50 (by decide) (show S_94[46]? = some (9, 4, [some 47, none, none, none]) from rfl) rfl (by decide) rfl rfl rfl (Nat.le_of_ble_eq_true rfl) (cg_X9_add 100 (d + 1) S_94 46 47 10 7 0 0 0 rfl rfl m_199_183) (by decide +kernel) (Or.inl rfl) rfl (fun r_199_196 m_199_196 _ => ?_)
  refine ok_pop 203 dX1_init_202 rfl rfl ?_
  refine ok_iinc 206 1 1 [some (.ref 25), some (.int 8)] dX1_init_203 rfl rfl rfl (by decide) rfl ?_
  refine ok_goto 185 dX1_init_206 (by decide) ?_
  refine ok_iload_n 186 1 dX1_init_185 rfl rfl rfl ?_
  refine ok_bipush 188 10 dX1_init_186 rfl rfl ?_
  refine ok_eqx (if_neg (by decide : ¬ (10 : Int32) ≤ 8)) (ok_icmp_ge (x1 := none) 209 191 dX1_init_188 (by decide) rfl (fun _ => Ok.none) (fun _ => ?_))
  refine ok_aload_n 192 0 dX1_init_191 rfl rfl rfl ?_
  refine ok_getR 195 dX1_init_192 rfl rfl F_Encores_House_47 (show S_94[25]? = some (1, 11, [some 26, some 28, some 30, some 32, some 34, some 36, some 38, some 40, some 42, some 44, some 46]) from rfl) rfl (Nat.le_of_ble_eq_true rfl) rfl rfl ?_
  refine ok_iload_n 196 1 dX1_init_195 rfl rfl rfl ?_
  refine ok_iconst 197 0 dX1_init_196 rfl rfl ?_
  refine ok_iconst 198 0 dX1_init_197 rfl rfl ?_
  refine ok_iconst 199 0 dX1_init_198 rfl rfl ?_
  refine ok_callVi (np := 4) (M' := m_X9_add) (As := [.int 8, .int 0, .int 0, .int 0]) (st := []) 202 dX1_init_199 rfl rfl km_X9_add ki_X9_add kv_X9_add ml_Encores_House_50 (by decide) (show S_94[46]? = some (9, 4, [some 47, none, none, none]) from rfl) rfl (by decide) rfl rfl rfl (Nat.le_of_ble_eq_true rfl) (cg_X9_add 100 (d + 1) S_94 46 47 10 8 0 0 0 rfl rfl m_199_196) (by decide +kernel) (Or.inl rfl) rfl (fun r_199_209 m_199_209 _ => ?_)
  refine ok_pop 203 dX1_init_202 rfl rfl ?_
  refine ok_iinc 206 1 1 [some (.ref 25), some (.int 9)] dX1_init_203 rfl rfl rfl (by decide) rfl ?_
  refine ok_goto 185 dX1_init_206 (by decide) ?_
  refine ok_iload_n 186 1 dX1_init_185 rfl rfl rfl ?_
  refine ok_bipush 188 10 dX1_init_186 rfl rfl ?_
  refine ok_eqx (if_neg (by decide : ¬ (10 : Int32) ≤ 9)) (ok_icmp_ge (x1 := none) 209 191 dX1_init_188 (by decide) rfl (fun _ => Ok.none) (fun _ => ?_))
  refine ok_aload_n 192 0 dX1_init_191 rfl rfl rfl ?_
  refine ok_getR 195 dX1_init_192 rfl rfl F_Encores_House_47 (show S_94[25]? = some (1, 11, [some 26, some 28, some 30, some 32, some 34, some 36, some 38, some 40, some 42, some 44, some 46]) from rfl) rfl (Nat.le_of_ble_eq_true rfl) rfl rfl ?_
  refine ok_iload_n 196 1 dX1_init_195 rfl rfl rfl ?_
  refine ok_iconst 197 0 dX1_init_196 rfl rfl ?_
  refine ok_iconst 198 0 dX1_init_197 rfl rfl ?_
  refine ok_iconst 199 0 dX1_init_198 rfl rfl ?_
  refine ok_callVi (np := 4) (M' := m_X9_add) (As := [.int 9, .int 0, .int 0, .int 0]) (st := []) 202 dX1_init_199 rfl rfl km_X9_add ki_X9_add kv_X9_add ml_Encores_House_50 (by decide) (show S_94[46]? = some (9, 4, [some 47, none, none, none]) from rfl) rfl (by decide) rfl rfl rfl (Nat.le_of_ble_eq_true rfl) (cg_X9_add 100 (d + 1) S_94 46 47 10 9 0 0 0 rfl rfl m_199_209) (by decide +kernel) (Or.inl rfl) rfl (fun r_199_222 m_199_222 _ => ?_)
  refine ok_pop 203 dX1_init_202 rfl rfl ?_
  refine ok_iinc 206 1 1 [some (.ref 25), some (.int 10)] dX1_init_203 rfl rfl rfl (by decide) rfl ?_
  refine ok_goto 185 dX1_init_206 (by decide) ?_
  refine ok_iload_n 186 1 dX1_init_185 rfl rfl rfl ?_
  refine ok_bipush 188 10 dX1_init_186 rfl rfl ?_
  refine ok_eqx (if_pos (by decide : (10 : Int32) ≤ 10)) (ok_icmp_ge (x2 := none) 209 191 dX1_init_188 (by decide) rfl (fun _ => ?_) (fun _ => Ok.none))
  exact ok_vret dX1_init_209 rfl
theorem ci_13 (d : Nat) (m : Mem) : CM SX (d + 2) m_X1_init S_94 S_50 [.ref 25] m (gi_13 m) :=
  CM.ofOk km_X1_init (by decide +kernel) (by simp [Value.category]) (Nat.le_of_ble_eq_true rfl) (oi_13 d m)

def gi_27 (m : Mem) : Ans :=
bnd (mset m 51 1 12) fun m_10_7 =>
bnd (mset m_10_7 51 2 8) fun m_19_12 =>
bnd (mnew m_19_12 52) fun m_36_21 =>
bnd (mset m_36_21 51 3 0) fun m_43_25 =>
some (0, m_43_25)
set_option maxRecDepth 100000 in
set_option maxHeartbeats 8000000 in
theorem oi_27 (d : Nat) (m : Mem) : Ok SX S_102 (d + 1) m_X9_init 0 [some (.ref 51), some (.int 12), some (.int 8)] [] S_100 m (gi_27 m) := by
  unfold gi_27
  refine ok_aload_n 1 0 dX9_init_0 rfl rfl rfl ?_
  refine ok_objInit 4 (by decide +kernel) dX9_init_1 rfl rfl ml_Encores_Table_3 (Nat.le_of_ble_eq_true rfl) ?_
  refine ok_aload_n 5 0 dX9_init_4 rfl rfl rfl ?_
  refine ok_iconst 6 0 dX9_init_5 rfl rfl ?_
  refine ok_iload_n 7 1 dX9_init_6 rfl rfl rfl ?_
  refine ok_max 10 (by decide +kernel) dX9_init_7 rfl rfl ml_Encores_Table_9 (Nat.le_of_ble_eq_true rfl) ?_
  rw [show (if (0 : Int32) < 12 then (12 : Int32) else 0) = 12 by decide]
  refine ok_putF 13 dX9_init_10 rfl rfl rfl rfl F_Encores_Table_15 (show S_100[51]? = some (9, 4, [none, none, none, none]) from rfl) rfl (Nat.le_of_ble_eq_true rfl) rfl rfl pZ_9_1 rfl rfl ?_
  refine ok_bndME (fun m_10_7 hm_m_10_7 => ?_)
  refine ok_aload_n 14 0 dX9_init_13 rfl rfl rfl ?_
  refine ok_iconst 15 1 dX9_init_14 rfl rfl ?_
  refine ok_iload_n 16 2 dX9_init_15 rfl rfl rfl ?_
  refine ok_max 19 (by decide +kernel) dX9_init_16 rfl rfl ml_Encores_Table_9 (Nat.le_of_ble_eq_true rfl) ?_
  rw [show (if (1 : Int32) < 8 then (8 : Int32) else 1) = 8 by decide]
  refine ok_putF 22 dX9_init_19 rfl rfl rfl rfl F_Encores_Table_21 (show S_100[51]? = some (9, 4, [none, none, none, none]) from rfl) rfl (Nat.le_of_ble_eq_true rfl) rfl rfl pZ_9_2 rfl rfl ?_
  refine ok_bndME (fun m_19_12 hm_m_19_12 => ?_)
  refine ok_aload_n 23 0 dX9_init_22 rfl rfl rfl ?_
  refine ok_iconst 24 0 dX9_init_23 rfl rfl ?_
  refine ok_aload_n 25 0 dX9_init_24 rfl rfl rfl ?_
  refine ok_getI 28 dX9_init_25 rfl rfl F_Encores_Table_15 (show S_100[51]? = some (9, 4, [none, none, none, none]) from rfl) rfl (Nat.le_of_ble_eq_true rfl) rfl ?_
  rw [show m_19_12 51 1 = 12 by subst_vars; rfl]
  refine ok_aload_n 29 0 dX9_init_28 rfl rfl rfl ?_
  refine ok_getI 32 dX9_init_29 rfl rfl F_Encores_Table_21 (show S_100[51]? = some (9, 4, [none, none, none, none]) from rfl) rfl (Nat.le_of_ble_eq_true rfl) rfl ?_
  rw [show m_19_12 51 2 = 8 by subst_vars; rfl]
  refine ok_imul 33 dX9_init_32 rfl ?_
  rw [show (12 * 8 : Int32) = 96 by decide]
  refine ok_max 36 (by decide +kernel) dX9_init_33 rfl rfl ml_Encores_Table_9 (Nat.le_of_ble_eq_true rfl) ?_
  rw [show (if (0 : Int32) < 96 then (96 : Int32) else 0) = 96 by decide]
  refine ok_newa (N := 96) 38 dX9_init_36 rfl (by decide) (by decide) (by decide) (by decide +kernel) (by decide +kernel) rfl (by decide +kernel) ?_
  refine ok_shape (S2 := S_101) rfl ?_
  refine ok_bndME (fun m_36_21 hm_m_36_21 => ?_)
  show Ok _ _ _ _ _ _ (.ref 52 :: _) _ _ _
  refine ok_putFR 41 dX9_init_38 rfl rfl rfl rfl F_Encores_Table_24 (show S_101[51]? = some (9, 4, [none, none, none, none]) from rfl) (Nat.le_of_ble_eq_true rfl) (Nat.le_of_ble_eq_true rfl) rfl rfl pZ_9_0 (fun _ => rfl) (fun _ => rfl) ?_
  refine ok_shape (S2 := S_102) rfl ?_
  refine ok_aload_n 42 0 dX9_init_41 rfl rfl rfl ?_
  refine ok_iconst 43 0 dX9_init_42 rfl rfl ?_
  refine ok_putI 46 dX9_init_43 rfl rfl F_Encores_Table_28 (show S_102[51]? = some (9, 4, [some 52, none, none, none]) from rfl) rfl (Nat.le_of_ble_eq_true rfl) rfl rfl pZ_9_3 rfl rfl ?_
  refine ok_bndME (fun m_43_25 hm_m_43_25 => ?_)
  exact ok_vret dX9_init_46 rfl
theorem ci_27 (d : Nat) (m : Mem) : CM SX (d + 1) m_X9_init S_102 S_100 [.ref 51, .int 12, .int 8] m (gi_27 m) :=
  CM.ofOk km_X9_init (by decide +kernel) (by simp [Value.category]) (Nat.le_of_ble_eq_true rfl) (oi_27 d m)

def gi_28 (m : Mem) : Ans :=
bnd (mset m 53 1 8) fun m_10_7 =>
bnd (mset m_10_7 53 2 5) fun m_19_12 =>
bnd (mnew m_19_12 54) fun m_36_21 =>
bnd (mset m_36_21 53 3 0) fun m_43_25 =>
some (0, m_43_25)
set_option maxRecDepth 100000 in
set_option maxHeartbeats 8000000 in
theorem oi_28 (d : Nat) (m : Mem) : Ok SX S_106 (d + 1) m_X9_init 0 [some (.ref 53), some (.int 8), some (.int 5)] [] S_104 m (gi_28 m) := by
  unfold gi_28
  refine ok_aload_n 1 0 dX9_init_0 rfl rfl rfl ?_
  refine ok_objInit 4 (by decide +kernel) dX9_init_1 rfl rfl ml_Encores_Table_3 (Nat.le_of_ble_eq_true rfl) ?_
  refine ok_aload_n 5 0 dX9_init_4 rfl rfl rfl ?_
  refine ok_iconst 6 0 dX9_init_5 rfl rfl ?_
  refine ok_iload_n 7 1 dX9_init_6 rfl rfl rfl ?_
  refine ok_max 10 (by decide +kernel) dX9_init_7 rfl rfl ml_Encores_Table_9 (Nat.le_of_ble_eq_true rfl) ?_
  rw [show (if (0 : Int32) < 8 then (8 : Int32) else 0) = 8 by decide]
  refine ok_putF 13 dX9_init_10 rfl rfl rfl rfl F_Encores_Table_15 (show S_104[53]? = some (9, 4, [none, none, none, none]) from rfl) rfl (Nat.le_of_ble_eq_true rfl) rfl rfl pZ_9_1 rfl rfl ?_
  refine ok_bndME (fun m_10_7 hm_m_10_7 => ?_)
  refine ok_aload_n 14 0 dX9_init_13 rfl rfl rfl ?_
  refine ok_iconst 15 1 dX9_init_14 rfl rfl ?_
  refine ok_iload_n 16 2 dX9_init_15 rfl rfl rfl ?_
  refine ok_max 19 (by decide +kernel) dX9_init_16 rfl rfl ml_Encores_Table_9 (Nat.le_of_ble_eq_true rfl) ?_
  rw [show (if (1 : Int32) < 5 then (5 : Int32) else 1) = 5 by decide]
  refine ok_putF 22 dX9_init_19 rfl rfl rfl rfl F_Encores_Table_21 (show S_104[53]? = some (9, 4, [none, none, none, none]) from rfl) rfl (Nat.le_of_ble_eq_true rfl) rfl rfl pZ_9_2 rfl rfl ?_
  refine ok_bndME (fun m_19_12 hm_m_19_12 => ?_)
  refine ok_aload_n 23 0 dX9_init_22 rfl rfl rfl ?_
  refine ok_iconst 24 0 dX9_init_23 rfl rfl ?_
  refine ok_aload_n 25 0 dX9_init_24 rfl rfl rfl ?_
  refine ok_getI 28 dX9_init_25 rfl rfl F_Encores_Table_15 (show S_104[53]? = some (9, 4, [none, none, none, none]) from rfl) rfl (Nat.le_of_ble_eq_true rfl) rfl ?_
  rw [show m_19_12 53 1 = 8 by subst_vars; rfl]
  refine ok_aload_n 29 0 dX9_init_28 rfl rfl rfl ?_
  refine ok_getI 32 dX9_init_29 rfl rfl F_Encores_Table_21 (show S_104[53]? = some (9, 4, [none, none, none, none]) from rfl) rfl (Nat.le_of_ble_eq_true rfl) rfl ?_
  rw [show m_19_12 53 2 = 5 by subst_vars; rfl]
  refine ok_imul 33 dX9_init_32 rfl ?_
  rw [show (8 * 5 : Int32) = 40 by decide]
  refine ok_max 36 (by decide +kernel) dX9_init_33 rfl rfl ml_Encores_Table_9 (Nat.le_of_ble_eq_true rfl) ?_
  rw [show (if (0 : Int32) < 40 then (40 : Int32) else 0) = 40 by decide]
  refine ok_newa (N := 40) 38 dX9_init_36 rfl (by decide) (by decide) (by decide) (by decide +kernel) (by decide +kernel) rfl (by decide +kernel) ?_
  refine ok_shape (S2 := S_105) rfl ?_
  refine ok_bndME (fun m_36_21 hm_m_36_21 => ?_)
  show Ok _ _ _ _ _ _ (.ref 54 :: _) _ _ _
  refine ok_putFR 41 dX9_init_38 rfl rfl rfl rfl F_Encores_Table_24 (show S_105[53]? = some (9, 4, [none, none, none, none]) from rfl) (Nat.le_of_ble_eq_true rfl) (Nat.le_of_ble_eq_true rfl) rfl rfl pZ_9_0 (fun _ => rfl) (fun _ => rfl) ?_
  refine ok_shape (S2 := S_106) rfl ?_
  refine ok_aload_n 42 0 dX9_init_41 rfl rfl rfl ?_
  refine ok_iconst 43 0 dX9_init_42 rfl rfl ?_
  refine ok_putI 46 dX9_init_43 rfl rfl F_Encores_Table_28 (show S_106[53]? = some (9, 4, [some 54, none, none, none]) from rfl) rfl (Nat.le_of_ble_eq_true rfl) rfl rfl pZ_9_3 rfl rfl ?_
  refine ok_bndME (fun m_43_25 hm_m_43_25 => ?_)
  exact ok_vret dX9_init_46 rfl
theorem ci_28 (d : Nat) (m : Mem) : CM SX (d + 1) m_X9_init S_106 S_104 [.ref 53, .int 8, .int 5] m (gi_28 m) :=
  CM.ofOk km_X9_init (by decide +kernel) (by simp [Value.category]) (Nat.le_of_ble_eq_true rfl) (oi_28 d m)

def gi_29 (m : Mem) : Ans :=
bnd (mset m 55 1 1) fun m_10_7 =>
bnd (mset m_10_7 55 2 7) fun m_19_12 =>
bnd (mnew m_19_12 56) fun m_36_21 =>
bnd (mset m_36_21 55 3 0) fun m_43_25 =>
some (0, m_43_25)
set_option maxRecDepth 100000 in
set_option maxHeartbeats 8000000 in
theorem oi_29 (d : Nat) (m : Mem) : Ok SX S_110 (d + 1) m_X9_init 0 [some (.ref 55), some (.int 1), some (.int 7)] [] S_108 m (gi_29 m) := by
  unfold gi_29
  refine ok_aload_n 1 0 dX9_init_0 rfl rfl rfl ?_
  refine ok_objInit 4 (by decide +kernel) dX9_init_1 rfl rfl ml_Encores_Table_3 (Nat.le_of_ble_eq_true rfl) ?_
  refine ok_aload_n 5 0 dX9_init_4 rfl rfl rfl ?_
  refine ok_iconst 6 0 dX9_init_5 rfl rfl ?_
  refine ok_iload_n 7 1 dX9_init_6 rfl rfl rfl ?_
  refine ok_max 10 (by decide +kernel) dX9_init_7 rfl rfl ml_Encores_Table_9 (Nat.le_of_ble_eq_true rfl) ?_
  rw [show (if (0 : Int32) < 1 then (1 : Int32) else 0) = 1 by decide]
  refine ok_putF 13 dX9_init_10 rfl rfl rfl rfl F_Encores_Table_15 (show S_108[55]? = some (9, 4, [none, none, none, none]) from rfl) rfl (Nat.le_of_ble_eq_true rfl) rfl rfl pZ_9_1 rfl rfl ?_
  refine ok_bndME (fun m_10_7 hm_m_10_7 => ?_)
  refine ok_aload_n 14 0 dX9_init_13 rfl rfl rfl ?_
  refine ok_iconst 15 1 dX9_init_14 rfl rfl ?_
  refine ok_iload_n 16 2 dX9_init_15 rfl rfl rfl ?_
  refine ok_max 19 (by decide +kernel) dX9_init_16 rfl rfl ml_Encores_Table_9 (Nat.le_of_ble_eq_true rfl) ?_
  rw [show (if (1 : Int32) < 7 then (7 : Int32) else 1) = 7 by decide]
  refine ok_putF 22 dX9_init_19 rfl rfl rfl rfl F_Encores_Table_21 (show S_108[55]? = some (9, 4, [none, none, none, none]) from rfl) rfl (Nat.le_of_ble_eq_true rfl) rfl rfl pZ_9_2 rfl rfl ?_
  refine ok_bndME (fun m_19_12 hm_m_19_12 => ?_)
  refine ok_aload_n 23 0 dX9_init_22 rfl rfl rfl ?_
  refine ok_iconst 24 0 dX9_init_23 rfl rfl ?_
  refine ok_aload_n 25 0 dX9_init_24 rfl rfl rfl ?_
  refine ok_getI 28 dX9_init_25 rfl rfl F_Encores_Table_15 (show S_108[55]? = some (9, 4, [none, none, none, none]) from rfl) rfl (Nat.le_of_ble_eq_true rfl) rfl ?_
  rw [show m_19_12 55 1 = 1 by subst_vars; rfl]
  refine ok_aload_n 29 0 dX9_init_28 rfl rfl rfl ?_
  refine ok_getI 32 dX9_init_29 rfl rfl F_Encores_Table_21 (show S_108[55]? = some (9, 4, [none, none, none, none]) from rfl) rfl (Nat.le_of_ble_eq_true rfl) rfl ?_
  rw [show m_19_12 55 2 = 7 by subst_vars; rfl]
  refine ok_imul 33 dX9_init_32 rfl ?_
  rw [show (1 * 7 : Int32) = 7 by decide]
  refine ok_max 36 (by decide +kernel) dX9_init_33 rfl rfl ml_Encores_Table_9 (Nat.le_of_ble_eq_true rfl) ?_
  rw [show (if (0 : Int32) < 7 then (7 : Int32) else 0) = 7 by decide]
  refine ok_newa (N := 7) 38 dX9_init_36 rfl (by decide) (by decide) (by decide) (by decide +kernel) (by decide +kernel) rfl (by decide +kernel) ?_
  refine ok_shape (S2 := S_109) rfl ?_
  refine ok_bndME (fun m_36_21 hm_m_36_21 => ?_)
  show Ok _ _ _ _ _ _ (.ref 56 :: _) _ _ _
  refine ok_putFR 41 dX9_init_38 rfl rfl rfl rfl F_Encores_Table_24 (show S_109[55]? = some (9, 4, [none, none, none, none]) from rfl) (Nat.le_of_ble_eq_true rfl) (Nat.le_of_ble_eq_true rfl) rfl rfl pZ_9_0 (fun _ => rfl) (fun _ => rfl) ?_
  refine ok_shape (S2 := S_110) rfl ?_
  refine ok_aload_n 42 0 dX9_init_41 rfl rfl rfl ?_
  refine ok_iconst 43 0 dX9_init_42 rfl rfl ?_
  refine ok_putI 46 dX9_init_43 rfl rfl F_Encores_Table_28 (show S_110[55]? = some (9, 4, [some 56, none, none, none]) from rfl) rfl (Nat.le_of_ble_eq_true rfl) rfl rfl pZ_9_3 rfl rfl ?_
  refine ok_bndME (fun m_43_25 hm_m_43_25 => ?_)
  exact ok_vret dX9_init_46 rfl
theorem ci_29 (d : Nat) (m : Mem) : CM SX (d + 1) m_X9_init S_110 S_108 [.ref 55, .int 1, .int 7] m (gi_29 m) :=
  CM.ofOk km_X9_init (by decide +kernel) (by simp [Value.category]) (Nat.le_of_ble_eq_true rfl) (oi_29 d m)

def gi_26 (m : Mem) : Ans :=
bnd (mnew m 51) fun m_5_4 =>
bd (gi_27 m_5_4) fun _ m_13_8 =>
bnd (mnew m_13_8 53) fun m_20_11 =>
bd (gi_28 m_20_11) fun _ m_27_15 =>
bnd (mnew m_27_15 55) fun m_34_18 =>
bd (gi_29 m_34_18) fun _ m_41_22 =>
some (0, m_41_22)
set_option maxRecDepth 100000 in
set_option maxHeartbeats 8000000 in
theorem oi_26 (d : Nat) (m : Mem) : Ok SX S_111 (d + 2) m_X3_init 0 [some (.ref 50)] [] S_99 m (gi_26 m) := by
  unfold gi_26
  refine ok_aload_n 1 0 dX3_init_0 rfl rfl rfl ?_
  refine ok_objInit 4 (by decide +kernel) dX3_init_1 rfl rfl ml_Encores_Moment_3 (Nat.le_of_ble_eq_true rfl) ?_
  refine ok_aload_n 5 0 dX3_init_4 rfl rfl rfl ?_
  refine ok_new (ty := ty9) (ci := 9) 8 dX3_init_5 rfl rfl kl_Encores_Moment_9 in_Encores_Table wi_Encores_Table (by decide) rfl ty9_ok dv_9 (by decide +kernel) (by decide +kernel) rfl (by decide +kernel) ?_
  refine ok_shape (S2 := S_100) rfl ?_
  refine ok_bndME (fun m_5_4 hm_m_5_4 => ?_)
  show Ok _ _ _ _ _ _ (.ref 51 :: _) _ _ _
  refine ok_dup 9 dX3_init_8 rfl rfl ?_
  refine ok_bipush 11 12 dX3_init_9 rfl rfl ?_
  refine ok_bipush 13 8 dX3_init_11 rfl rfl ?_
  refine ok_callI (np := 2) (M' := m_X9_init) (As := [.int 12, .int 8]) (st := [.ref 51, .ref 50]) (r := 51) 16 dX3_init_13 rfl rfl km_X9_init ki_X9_init ml_Encores_Moment_11 (by decide) rfl rfl rfl rfl (Nat.le_of_ble_eq_true rfl) (ci_27 (d + 0) m_5_4) (by decide +kernel) (Or.inr (okR_of rfl)) (fun _ m_13_8 _ => ?_)
  refine ok_putFR 19 dX3_init_16 rfl rfl rfl rfl F_Encores_Moment_14 (show S_102[50]? = some (3, 4, [none, none, none, none]) from rfl) (Nat.le_of_ble_eq_true rfl) (Nat.le_of_ble_eq_true rfl) rfl rfl pZ_3_0 (fun _ => rfl) (fun _ => rfl) ?_
  refine ok_shape (S2 := S_103) rfl ?_
  refine ok_aload_n 20 0 dX3_init_19 rfl rfl rfl ?_
  refine ok_new (ty := ty9) (ci := 9) 23 dX3_init_20 rfl rfl kl_Encores_Moment_9 in_Encores_Table wi_Encores_Table (by decide) rfl ty9_ok dv_9 (by decide +kernel) (by decide +kernel) rfl (by decide +kernel) ?_
  refine ok_shape (S2 := S_104) rfl ?_
  refine ok_bndME (fun m_20_11 hm_m_20_11 => ?_)
  show Ok _ _ _ _ _ _ (.ref 53 :: _) _ _ _
  refine ok_dup 24 dX3_init_23 rfl rfl ?_
  refine ok_bipush 26 8 dX3_init_24 rfl rfl ?_
  refine ok_iconst 27 5 dX3_init_26 rfl rfl ?_
  refine ok_callI (np := 2) (M' := m_X9_init) (As := [.int 8, .int 5]) (st := [.ref 53, .ref 50]) (r := 53) 30 dX3_init_27 rfl rfl km_X9_init ki_X9_init ml_Encores_Moment_11 (by decide) rfl rfl rfl rfl (Nat.le_of_ble_eq_true rfl) (ci_28 (d + 0) m_20_11) (by decide +kernel) (Or.inr (okR_of rfl)) (fun _ m_27_15 _ => ?_)
  refine ok_putFR 33 dX3_init_30 rfl rfl rfl rfl F_Encores_Moment_20 (show S_106[50]? = some (3, 4, [some 51, none, none, none]) from rfl) (Nat.le_of_ble_eq_true rfl) (Nat.le_of_ble_eq_true rfl) rfl rfl pZ_3_1 (fun _ => rfl) (fun _ => rfl) ?_
  refine ok_shape (S2 := S_107) rfl ?_
  refine ok_aload_n 34 0 dX3_init_33 rfl rfl rfl ?_
  refine ok_new (ty := ty9) (ci := 9) 37 dX3_init_34 rfl rfl kl_Encores_Moment_9 in_Encores_Table wi_Encores_Table (by decide) rfl ty9_ok dv_9 (by decide +kernel) (by decide +kernel) rfl (by decide +kernel) ?_
  refine ok_shape (S2 := S_108) rfl ?_
  refine ok_bndME (fun m_34_18 hm_m_34_18 => ?_)
  show Ok _ _ _ _ _ _ (.ref 55 :: _) _ _ _
  refine ok_dup 38 dX3_init_37 rfl rfl ?_
  refine ok_iconst 39 1 dX3_init_38 rfl rfl ?_
  refine ok_bipush 41 7 dX3_init_39 rfl rfl ?_
  refine ok_callI (np := 2) (M' := m_X9_init) (As := [.int 1, .int 7]) (st := [.ref 55, .ref 50]) (r := 55) 44 dX3_init_41 rfl rfl km_X9_init ki_X9_init ml_Encores_Moment_11 (by decide) rfl rfl rfl rfl (Nat.le_of_ble_eq_true rfl) (ci_29 (d + 0) m_34_18) (by decide +kernel) (Or.inr (okR_of rfl)) (fun _ m_41_22 _ => ?_)
  refine ok_putFR 47 dX3_init_44 rfl rfl rfl rfl F_Encores_Moment_23 (show S_110[50]? = some (3, 4, [some 51, some 53, none, none]) from rfl) (Nat.le_of_ble_eq_true rfl) (Nat.le_of_ble_eq_true rfl) rfl rfl pZ_3_2 (fun _ => rfl) (fun _ => rfl) ?_
  refine ok_shape (S2 := S_111) rfl ?_
  exact ok_vret dX3_init_47 rfl
theorem ci_26 (d : Nat) (m : Mem) : CM SX (d + 2) m_X3_init S_111 S_99 [.ref 50] m (gi_26 m) :=
  CM.ofOk km_X3_init (by decide +kernel) (by simp [Value.category]) (Nat.le_of_ble_eq_true rfl) (oi_26 d m)

def gi_31 (m : Mem) : Ans :=
bnd (mset m 58 1 12) fun m_10_7 =>
bnd (mset m_10_7 58 2 8) fun m_19_12 =>
bnd (mnew m_19_12 59) fun m_36_21 =>
bnd (mset m_36_21 58 3 0) fun m_43_25 =>
some (0, m_43_25)
set_option maxRecDepth 100000 in
set_option maxHeartbeats 8000000 in
theorem oi_31 (d : Nat) (m : Mem) : Ok SX S_116 (d + 1) m_X9_init 0 [some (.ref 58), some (.int 12), some (.int 8)] [] S_114 m (gi_31 m) := by
  unfold gi_31
  refine ok_aload_n 1 0 dX9_init_0 rfl rfl rfl ?_
  refine ok_objInit 4 (by decide +kernel) dX9_init_1 rfl rfl ml_Encores_Table_3 (Nat.le_of_ble_eq_true rfl) ?_
  refine ok_aload_n 5 0 dX9_init_4 rfl rfl rfl ?_
  refine ok_iconst 6 0 dX9_init_5 rfl rfl ?_
  refine ok_iload_n 7 1 dX9_init_6 rfl rfl rfl ?_
  refine ok_max 10 (by decide +kernel) dX9_init_7 rfl rfl ml_Encores_Table_9 (Nat.le_of_ble_eq_true rfl) ?_
  rw [show (if (0 : Int32) < 12 then (12 : Int32) else 0) = 12 by decide]
  refine ok_putF 13 dX9_init_10 rfl rfl rfl rfl F_Encores_Table_15 (show S_114[58]? = some (9, 4, [none, none, none, none]) from rfl) rfl (Nat.le_of_ble_eq_true rfl) rfl rfl pZ_9_1 rfl rfl ?_
  refine ok_bndME (fun m_10_7 hm_m_10_7 => ?_)
  refine ok_aload_n 14 0 dX9_init_13 rfl rfl rfl ?_
  refine ok_iconst 15 1 dX9_init_14 rfl rfl ?_
  refine ok_iload_n 16 2 dX9_init_15 rfl rfl rfl ?_
  refine ok_max 19 (by decide +kernel) dX9_init_16 rfl rfl ml_Encores_Table_9 (Nat.le_of_ble_eq_true rfl) ?_
  rw [show (if (1 : Int32) < 8 then (8 : Int32) else 1) = 8 by decide]
  refine ok_putF 22 dX9_init_19 rfl rfl rfl rfl F_Encores_Table_21 (show S_114[58]? = some (9, 4, [none, none, none, none]) from rfl) rfl (Nat.le_of_ble_eq_true rfl) rfl rfl pZ_9_2 rfl rfl ?_
  refine ok_bndME (fun m_19_12 hm_m_19_12 => ?_)
  refine ok_aload_n 23 0 dX9_init_22 rfl rfl rfl ?_
  refine ok_iconst 24 0 dX9_init_23 rfl rfl ?_
  refine ok_aload_n 25 0 dX9_init_24 rfl rfl rfl ?_
  refine ok_getI 28 dX9_init_25 rfl rfl F_Encores_Table_15 (show S_114[58]? = some (9, 4, [none, none, none, none]) from rfl) rfl (Nat.le_of_ble_eq_true rfl) rfl ?_
  rw [show m_19_12 58 1 = 12 by subst_vars; rfl]
  refine ok_aload_n 29 0 dX9_init_28 rfl rfl rfl ?_
  refine ok_getI 32 dX9_init_29 rfl rfl F_Encores_Table_21 (show S_114[58]? = some (9, 4, [none, none, none, none]) from rfl) rfl (Nat.le_of_ble_eq_true rfl) rfl ?_
  rw [show m_19_12 58 2 = 8 by subst_vars; rfl]
  refine ok_imul 33 dX9_init_32 rfl ?_
  rw [show (12 * 8 : Int32) = 96 by decide]
  refine ok_max 36 (by decide +kernel) dX9_init_33 rfl rfl ml_Encores_Table_9 (Nat.le_of_ble_eq_true rfl) ?_
  rw [show (if (0 : Int32) < 96 then (96 : Int32) else 0) = 96 by decide]
  refine ok_newa (N := 96) 38 dX9_init_36 rfl (by decide) (by decide) (by decide) (by decide +kernel) (by decide +kernel) rfl (by decide +kernel) ?_
  refine ok_shape (S2 := S_115) rfl ?_
  refine ok_bndME (fun m_36_21 hm_m_36_21 => ?_)
  show Ok _ _ _ _ _ _ (.ref 59 :: _) _ _ _
  refine ok_putFR 41 dX9_init_38 rfl rfl rfl rfl F_Encores_Table_24 (show S_115[58]? = some (9, 4, [none, none, none, none]) from rfl) (Nat.le_of_ble_eq_true rfl) (Nat.le_of_ble_eq_true rfl) rfl rfl pZ_9_0 (fun _ => rfl) (fun _ => rfl) ?_
  refine ok_shape (S2 := S_116) rfl ?_
  refine ok_aload_n 42 0 dX9_init_41 rfl rfl rfl ?_
  refine ok_iconst 43 0 dX9_init_42 rfl rfl ?_
  refine ok_putI 46 dX9_init_43 rfl rfl F_Encores_Table_28 (show S_116[58]? = some (9, 4, [some 59, none, none, none]) from rfl) rfl (Nat.le_of_ble_eq_true rfl) rfl rfl pZ_9_3 rfl rfl ?_
  refine ok_bndME (fun m_43_25 hm_m_43_25 => ?_)
  exact ok_vret dX9_init_46 rfl
theorem ci_31 (d : Nat) (m : Mem) : CM SX (d + 1) m_X9_init S_116 S_114 [.ref 58, .int 12, .int 8] m (gi_31 m) :=
  CM.ofOk km_X9_init (by decide +kernel) (by simp [Value.category]) (Nat.le_of_ble_eq_true rfl) (oi_31 d m)

def gi_32 (m : Mem) : Ans :=
bnd (mset m 60 1 8) fun m_10_7 =>
bnd (mset m_10_7 60 2 5) fun m_19_12 =>
bnd (mnew m_19_12 61) fun m_36_21 =>
bnd (mset m_36_21 60 3 0) fun m_43_25 =>
some (0, m_43_25)
set_option maxRecDepth 100000 in
set_option maxHeartbeats 8000000 in
theorem oi_32 (d : Nat) (m : Mem) : Ok SX S_120 (d + 1) m_X9_init 0 [some (.ref 60), some (.int 8), some (.int 5)] [] S_118 m (gi_32 m) := by
  unfold gi_32
  refine ok_aload_n 1 0 dX9_init_0 rfl rfl rfl ?_
  refine ok_objInit 4 (by decide +kernel) dX9_init_1 rfl rfl ml_Encores_Table_3 (Nat.le_of_ble_eq_true rfl) ?_
  refine ok_aload_n 5 0 dX9_init_4 rfl rfl rfl ?_
  refine ok_iconst 6 0 dX9_init_5 rfl rfl ?_
  refine ok_iload_n 7 1 dX9_init_6 rfl rfl rfl ?_
  refine ok_max 10 (by decide +kernel) dX9_init_7 rfl rfl ml_Encores_Table_9 (Nat.le_of_ble_eq_true rfl) ?_
  rw [show (if (0 : Int32) < 8 then (8 : Int32) else 0) = 8 by decide]
  refine ok_putF 13 dX9_init_10 rfl rfl rfl rfl F_Encores_Table_15 (show S_118[60]? = some (9, 4, [none, none, none, none]) from rfl) rfl (Nat.le_of_ble_eq_true rfl) rfl rfl pZ_9_1 rfl rfl ?_
  refine ok_bndME (fun m_10_7 hm_m_10_7 => ?_)
  refine ok_aload_n 14 0 dX9_init_13 rfl rfl rfl ?_
  refine ok_iconst 15 1 dX9_init_14 rfl rfl ?_
  refine ok_iload_n 16 2 dX9_init_15 rfl rfl rfl ?_
  refine ok_max 19 (by decide +kernel) dX9_init_16 rfl rfl ml_Encores_Table_9 (Nat.le_of_ble_eq_true rfl) ?_
  rw [show (if (1 : Int32) < 5 then (5 : Int32) else 1) = 5 by decide]
  refine ok_putF 22 dX9_init_19 rfl rfl rfl rfl F_Encores_Table_21 (show S_118[60]? = some (9, 4, [none, none, none, none]) from rfl) rfl (Nat.le_of_ble_eq_true rfl) rfl rfl pZ_9_2 rfl rfl ?_
  refine ok_bndME (fun m_19_12 hm_m_19_12 => ?_)
  refine ok_aload_n 23 0 dX9_init_22 rfl rfl rfl ?_
  refine ok_iconst 24 0 dX9_init_23 rfl rfl ?_
  refine ok_aload_n 25 0 dX9_init_24 rfl rfl rfl ?_
  refine ok_getI 28 dX9_init_25 rfl rfl F_Encores_Table_15 (show S_118[60]? = some (9, 4, [none, none, none, none]) from rfl) rfl (Nat.le_of_ble_eq_true rfl) rfl ?_
  rw [show m_19_12 60 1 = 8 by subst_vars; rfl]
  refine ok_aload_n 29 0 dX9_init_28 rfl rfl rfl ?_
  refine ok_getI 32 dX9_init_29 rfl rfl F_Encores_Table_21 (show S_118[60]? = some (9, 4, [none, none, none, none]) from rfl) rfl (Nat.le_of_ble_eq_true rfl) rfl ?_
  rw [show m_19_12 60 2 = 5 by subst_vars; rfl]
  refine ok_imul 33 dX9_init_32 rfl ?_
  rw [show (8 * 5 : Int32) = 40 by decide]
  refine ok_max 36 (by decide +kernel) dX9_init_33 rfl rfl ml_Encores_Table_9 (Nat.le_of_ble_eq_true rfl) ?_
  rw [show (if (0 : Int32) < 40 then (40 : Int32) else 0) = 40 by decide]
  refine ok_newa (N := 40) 38 dX9_init_36 rfl (by decide) (by decide) (by decide) (by decide +kernel) (by decide +kernel) rfl (by decide +kernel) ?_
  refine ok_shape (S2 := S_119) rfl ?_
  refine ok_bndME (fun m_36_21 hm_m_36_21 => ?_)
  show Ok _ _ _ _ _ _ (.ref 61 :: _) _ _ _
  refine ok_putFR 41 dX9_init_38 rfl rfl rfl rfl F_Encores_Table_24 (show S_119[60]? = some (9, 4, [none, none, none, none]) from rfl) (Nat.le_of_ble_eq_true rfl) (Nat.le_of_ble_eq_true rfl) rfl rfl pZ_9_0 (fun _ => rfl) (fun _ => rfl) ?_
  refine ok_shape (S2 := S_120) rfl ?_
  refine ok_aload_n 42 0 dX9_init_41 rfl rfl rfl ?_
  refine ok_iconst 43 0 dX9_init_42 rfl rfl ?_
  refine ok_putI 46 dX9_init_43 rfl rfl F_Encores_Table_28 (show S_120[60]? = some (9, 4, [some 61, none, none, none]) from rfl) rfl (Nat.le_of_ble_eq_true rfl) rfl rfl pZ_9_3 rfl rfl ?_
  refine ok_bndME (fun m_43_25 hm_m_43_25 => ?_)
  exact ok_vret dX9_init_46 rfl
theorem ci_32 (d : Nat) (m : Mem) : CM SX (d + 1) m_X9_init S_120 S_118 [.ref 60, .int 8, .int 5] m (gi_32 m) :=
  CM.ofOk km_X9_init (by decide +kernel) (by simp [Value.category]) (Nat.le_of_ble_eq_true rfl) (oi_32 d m)

def gi_33 (m : Mem) : Ans :=
bnd (mset m 62 1 1) fun m_10_7 =>
bnd (mset m_10_7 62 2 7) fun m_19_12 =>
bnd (mnew m_19_12 63) fun m_36_21 =>
bnd (mset m_36_21 62 3 0) fun m_43_25 =>
some (0, m_43_25)
set_option maxRecDepth 100000 in
set_option maxHeartbeats 8000000 in
theorem oi_33 (d : Nat) (m : Mem) : Ok SX S_124 (d + 1) m_X9_init 0 [some (.ref 62), some (.int 1), some (.int 7)] [] S_122 m (gi_33 m) := by
  unfold gi_33
  refine ok_aload_n 1 0 dX9_init_0 rfl rfl rfl ?_
  refine ok_objInit 4 (by decide +kernel) dX9_init_1 rfl rfl ml_Encores_Table_3 (Nat.le_of_ble_eq_true rfl) ?_
  refine ok_aload_n 5 0 dX9_init_4 rfl rfl rfl ?_
  refine ok_iconst 6 0 dX9_init_5 rfl rfl ?_
  refine ok_iload_n 7 1 dX9_init_6 rfl rfl rfl ?_
  refine ok_max 10 (by decide +kernel) dX9_init_7 rfl rfl ml_Encores_Table_9 (Nat.le_of_ble_eq_true rfl) ?_
  rw [show (if (0 : Int32) < 1 then (1 : Int32) else 0) = 1 by decide]
  refine ok_putF 13 dX9_init_10 rfl rfl rfl rfl F_Encores_Table_15 (show S_122[62]? = some (9, 4, [none, none, none, none]) from rfl) rfl (Nat.le_of_ble_eq_true rfl) rfl rfl pZ_9_1 rfl rfl ?_
  refine ok_bndME (fun m_10_7 hm_m_10_7 => ?_)
  refine ok_aload_n 14 0 dX9_init_13 rfl rfl rfl ?_
  refine ok_iconst 15 1 dX9_init_14 rfl rfl ?_
  refine ok_iload_n 16 2 dX9_init_15 rfl rfl rfl ?_
  refine ok_max 19 (by decide +kernel) dX9_init_16 rfl rfl ml_Encores_Table_9 (Nat.le_of_ble_eq_true rfl) ?_
  rw [show (if (1 : Int32) < 7 then (7 : Int32) else 1) = 7 by decide]
  refine ok_putF 22 dX9_init_19 rfl rfl rfl rfl F_Encores_Table_21 (show S_122[62]? = some (9, 4, [none, none, none, none]) from rfl) rfl (Nat.le_of_ble_eq_true rfl) rfl rfl pZ_9_2 rfl rfl ?_
  refine ok_bndME (fun m_19_12 hm_m_19_12 => ?_)
  refine ok_aload_n 23 0 dX9_init_22 rfl rfl rfl ?_
  refine ok_iconst 24 0 dX9_init_23 rfl rfl ?_
  refine ok_aload_n 25 0 dX9_init_24 rfl rfl rfl ?_
  refine ok_getI 28 dX9_init_25 rfl rfl F_Encores_Table_15 (show S_122[62]? = some (9, 4, [none, none, none, none]) from rfl) rfl (Nat.le_of_ble_eq_true rfl) rfl ?_
  rw [show m_19_12 62 1 = 1 by subst_vars; rfl]
  refine ok_aload_n 29 0 dX9_init_28 rfl rfl rfl ?_
  refine ok_getI 32 dX9_init_29 rfl rfl F_Encores_Table_21 (show S_122[62]? = some (9, 4, [none, none, none, none]) from rfl) rfl (Nat.le_of_ble_eq_true rfl) rfl ?_
  rw [show m_19_12 62 2 = 7 by subst_vars; rfl]
  refine ok_imul 33 dX9_init_32 rfl ?_
  rw [show (1 * 7 : Int32) = 7 by decide]
  refine ok_max 36 (by decide +kernel) dX9_init_33 rfl rfl ml_Encores_Table_9 (Nat.le_of_ble_eq_true rfl) ?_
  rw [show (if (0 : Int32) < 7 then (7 : Int32) else 0) = 7 by decide]
  refine ok_newa (N := 7) 38 dX9_init_36 rfl (by decide) (by decide) (by decide) (by decide +kernel) (by decide +kernel) rfl (by decide +kernel) ?_
  refine ok_shape (S2 := S_123) rfl ?_
  refine ok_bndME (fun m_36_21 hm_m_36_21 => ?_)
  show Ok _ _ _ _ _ _ (.ref 63 :: _) _ _ _
  refine ok_putFR 41 dX9_init_38 rfl rfl rfl rfl F_Encores_Table_24 (show S_123[62]? = some (9, 4, [none, none, none, none]) from rfl) (Nat.le_of_ble_eq_true rfl) (Nat.le_of_ble_eq_true rfl) rfl rfl pZ_9_0 (fun _ => rfl) (fun _ => rfl) ?_
  refine ok_shape (S2 := S_124) rfl ?_
  refine ok_aload_n 42 0 dX9_init_41 rfl rfl rfl ?_
  refine ok_iconst 43 0 dX9_init_42 rfl rfl ?_
  refine ok_putI 46 dX9_init_43 rfl rfl F_Encores_Table_28 (show S_124[62]? = some (9, 4, [some 63, none, none, none]) from rfl) rfl (Nat.le_of_ble_eq_true rfl) rfl rfl pZ_9_3 rfl rfl ?_
  refine ok_bndME (fun m_43_25 hm_m_43_25 => ?_)
  exact ok_vret dX9_init_46 rfl
theorem ci_33 (d : Nat) (m : Mem) : CM SX (d + 1) m_X9_init S_124 S_122 [.ref 62, .int 1, .int 7] m (gi_33 m) :=
  CM.ofOk km_X9_init (by decide +kernel) (by simp [Value.category]) (Nat.le_of_ble_eq_true rfl) (oi_33 d m)

def gi_30 (m : Mem) : Ans :=
bnd (mnew m 58) fun m_5_4 =>
bd (gi_31 m_5_4) fun _ m_13_8 =>
bnd (mnew m_13_8 60) fun m_20_11 =>
bd (gi_32 m_20_11) fun _ m_27_15 =>
bnd (mnew m_27_15 62) fun m_34_18 =>
bd (gi_33 m_34_18) fun _ m_41_22 =>
some (0, m_41_22)
set_option maxRecDepth 100000 in
set_option maxHeartbeats 8000000 in
theorem oi_30 (d : Nat) (m : Mem) : Ok SX S_125 (d + 2) m_X3_init 0 [some (.ref 57)] [] S_113 m (gi_30 m) := by
  unfold gi_30
  refine ok_aload_n 1 0 dX3_init_0 rfl rfl rfl ?_
  refine ok_objInit 4 (by decide +kernel) dX3_init_1 rfl rfl ml_Encores_Moment_3 (Nat.le_of_ble_eq_true rfl) ?_
  refine ok_aload_n 5 0 dX3_init_4 rfl rfl rfl ?_
  refine ok_new (ty := ty9) (ci := 9) 8 dX3_init_5 rfl rfl kl_Encores_Moment_9 in_Encores_Table wi_Encores_Table (by decide) rfl ty9_ok dv_9 (by decide +kernel) (by decide +kernel) rfl (by decide +kernel) ?_
  refine ok_shape (S2 := S_114) rfl ?_
  refine ok_bndME (fun m_5_4 hm_m_5_4 => ?_)
  show Ok _ _ _ _ _ _ (.ref 58 :: _) _ _ _
  refine ok_dup 9 dX3_init_8 rfl rfl ?_
  refine ok_bipush 11 12 dX3_init_9 rfl rfl ?_
  refine ok_bipush 13 8 dX3_init_11 rfl rfl ?_
  refine ok_callI (np := 2) (M' := m_X9_init) (As := [.int 12, .int 8]) (st := [.ref 58, .ref 57]) (r := 58) 16 dX3_init_13 rfl rfl km_X9_init ki_X9_init ml_Encores_Moment_11 (by decide) rfl rfl rfl rfl (Nat.le_of_ble_eq_true rfl) (ci_31 (d + 0) m_5_4) (by decide +kernel) (Or.inr (okR_of rfl)) (fun _ m_13_8 _ => ?_)
  refine ok_putFR 19 dX3_init_16 rfl rfl rfl rfl F_Encores_Moment_14 (show S_116[57]? = some (3, 4, [none, none, none, none]) from rfl) (Nat.le_of_ble_eq_true rfl) (Nat.le_of_ble_eq_true rfl) rfl rfl pZ_3_0 (fun _ => rfl) (fun _ => rfl) ?_
  refine ok_shape (S2 := S_117) rfl ?_
  refine ok_aload_n 20 0 dX3_init_19 rfl rfl rfl ?_
  refine ok_new (ty := ty9) (ci := 9) 23 dX3_init_20 rfl rfl kl_Encores_Moment_9 in_Encores_Table wi_Encores_Table (by decide) rfl ty9_ok dv_9 (by decide +kernel) (by decide +kernel) rfl (by decide +kernel) ?_
  refine ok_shape (S2 := S_118) rfl ?_
  refine ok_bndME (fun m_20_11 hm_m_20_11 => ?_)
  show Ok _ _ _ _ _ _ (.ref 60 :: _) _ _ _
  refine ok_dup 24 dX3_init_23 rfl rfl ?_
  refine ok_bipush 26 8 dX3_init_24 rfl rfl ?_
  refine ok_iconst 27 5 dX3_init_26 rfl rfl ?_
  refine ok_callI (np := 2) (M' := m_X9_init) (As := [.int 8, .int 5]) (st := [.ref 60, .ref 57]) (r := 60) 30 dX3_init_27 rfl rfl km_X9_init ki_X9_init ml_Encores_Moment_11 (by decide) rfl rfl rfl rfl (Nat.le_of_ble_eq_true rfl) (ci_32 (d + 0) m_20_11) (by decide +kernel) (Or.inr (okR_of rfl)) (fun _ m_27_15 _ => ?_)
  refine ok_putFR 33 dX3_init_30 rfl rfl rfl rfl F_Encores_Moment_20 (show S_120[57]? = some (3, 4, [some 58, none, none, none]) from rfl) (Nat.le_of_ble_eq_true rfl) (Nat.le_of_ble_eq_true rfl) rfl rfl pZ_3_1 (fun _ => rfl) (fun _ => rfl) ?_
  refine ok_shape (S2 := S_121) rfl ?_
  refine ok_aload_n 34 0 dX3_init_33 rfl rfl rfl ?_
  refine ok_new (ty := ty9) (ci := 9) 37 dX3_init_34 rfl rfl kl_Encores_Moment_9 in_Encores_Table wi_Encores_Table (by decide) rfl ty9_ok dv_9 (by decide +kernel) (by decide +kernel) rfl (by decide +kernel) ?_
  refine ok_shape (S2 := S_122) rfl ?_
  refine ok_bndME (fun m_34_18 hm_m_34_18 => ?_)
  show Ok _ _ _ _ _ _ (.ref 62 :: _) _ _ _
  refine ok_dup 38 dX3_init_37 rfl rfl ?_
  refine ok_iconst 39 1 dX3_init_38 rfl rfl ?_
  refine ok_bipush 41 7 dX3_init_39 rfl rfl ?_
  refine ok_callI (np := 2) (M' := m_X9_init) (As := [.int 1, .int 7]) (st := [.ref 62, .ref 57]) (r := 62) 44 dX3_init_41 rfl rfl km_X9_init ki_X9_init ml_Encores_Moment_11 (by decide) rfl rfl rfl rfl (Nat.le_of_ble_eq_true rfl) (ci_33 (d + 0) m_34_18) (by decide +kernel) (Or.inr (okR_of rfl)) (fun _ m_41_22 _ => ?_)
  refine ok_putFR 47 dX3_init_44 rfl rfl rfl rfl F_Encores_Moment_23 (show S_124[57]? = some (3, 4, [some 58, some 60, none, none]) from rfl) (Nat.le_of_ble_eq_true rfl) (Nat.le_of_ble_eq_true rfl) rfl rfl pZ_3_2 (fun _ => rfl) (fun _ => rfl) ?_
  refine ok_shape (S2 := S_125) rfl ?_
  exact ok_vret dX3_init_47 rfl
theorem ci_30 (d : Nat) (m : Mem) : CM SX (d + 2) m_X3_init S_125 S_113 [.ref 57] m (gi_30 m) :=
  CM.ofOk km_X3_init (by decide +kernel) (by simp [Value.category]) (Nat.le_of_ble_eq_true rfl) (oi_30 d m)

def gi_35 (m : Mem) : Ans :=
bnd (mset m 65 1 12) fun m_10_7 =>
bnd (mset m_10_7 65 2 8) fun m_19_12 =>
bnd (mnew m_19_12 66) fun m_36_21 =>
bnd (mset m_36_21 65 3 0) fun m_43_25 =>
some (0, m_43_25)
set_option maxRecDepth 100000 in
set_option maxHeartbeats 8000000 in
theorem oi_35 (d : Nat) (m : Mem) : Ok SX S_130 (d + 1) m_X9_init 0 [some (.ref 65), some (.int 12), some (.int 8)] [] S_128 m (gi_35 m) := by
  unfold gi_35
  refine ok_aload_n 1 0 dX9_init_0 rfl rfl rfl ?_
  refine ok_objInit 4 (by decide +kernel) dX9_init_1 rfl rfl ml_Encores_Table_3 (Nat.le_of_ble_eq_true rfl) ?_
  refine ok_aload_n 5 0 dX9_init_4 rfl rfl rfl ?_
  refine ok_iconst 6 0 dX9_init_5 rfl rfl ?_
  refine ok_iload_n 7 1 dX9_init_6 rfl rfl rfl ?_
  refine ok_max 10 (by decide +kernel) dX9_init_7 rfl rfl ml_Encores_Table_9 (Nat.le_of_ble_eq_true rfl) ?_
  rw [show (if (0 : Int32) < 12 then (12 : Int32) else 0) = 12 by decide]
  refine ok_putF 13 dX9_init_10 rfl rfl rfl rfl F_Encores_Table_15 (show S_128[65]? = some (9, 4, [none, none, none, none]) from rfl) rfl (Nat.le_of_ble_eq_true rfl) rfl rfl pZ_9_1 rfl rfl ?_
  refine ok_bndME (fun m_10_7 hm_m_10_7 => ?_)
  refine ok_aload_n 14 0 dX9_init_13 rfl rfl rfl ?_
  refine ok_iconst 15 1 dX9_init_14 rfl rfl ?_
  refine ok_iload_n 16 2 dX9_init_15 rfl rfl rfl ?_
  refine ok_max 19 (by decide +kernel) dX9_init_16 rfl rfl ml_Encores_Table_9 (Nat.le_of_ble_eq_true rfl) ?_
  rw [show (if (1 : Int32) < 8 then (8 : Int32) else 1) = 8 by decide]
  refine ok_putF 22 dX9_init_19 rfl rfl rfl rfl F_Encores_Table_21 (show S_128[65]? = some (9, 4, [none, none, none, none]) from rfl) rfl (Nat.le_of_ble_eq_true rfl) rfl rfl pZ_9_2 rfl rfl ?_
  refine ok_bndME (fun m_19_12 hm_m_19_12 => ?_)
  refine ok_aload_n 23 0 dX9_init_22 rfl rfl rfl ?_
  refine ok_iconst 24 0 dX9_init_23 rfl rfl ?_
  refine ok_aload_n 25 0 dX9_init_24 rfl rfl rfl ?_
  refine ok_getI 28 dX9_init_25 rfl rfl F_Encores_Table_15 (show S_128[65]? = some (9, 4, [none, none, none, none]) from rfl) rfl (Nat.le_of_ble_eq_true rfl) rfl ?_
  rw [show m_19_12 65 1 = 12 by subst_vars; rfl]
  refine ok_aload_n 29 0 dX9_init_28 rfl rfl rfl ?_
  refine ok_getI 32 dX9_init_29 rfl rfl F_Encores_Table_21 (show S_128[65]? = some (9, 4, [none, none, none, none]) from rfl) rfl (Nat.le_of_ble_eq_true rfl) rfl ?_
  rw [show m_19_12 65 2 = 8 by subst_vars; rfl]
  refine ok_imul 33 dX9_init_32 rfl ?_
  rw [show (12 * 8 : Int32) = 96 by decide]
  refine ok_max 36 (by decide +kernel) dX9_init_33 rfl rfl ml_Encores_Table_9 (Nat.le_of_ble_eq_true rfl) ?_
  rw [show (if (0 : Int32) < 96 then (96 : Int32) else 0) = 96 by decide]
  refine ok_newa (N := 96) 38 dX9_init_36 rfl (by decide) (by decide) (by decide) (by decide +kernel) (by decide +kernel) rfl (by decide +kernel) ?_
  refine ok_shape (S2 := S_129) rfl ?_
  refine ok_bndME (fun m_36_21 hm_m_36_21 => ?_)
  show Ok _ _ _ _ _ _ (.ref 66 :: _) _ _ _
  refine ok_putFR 41 dX9_init_38 rfl rfl rfl rfl F_Encores_Table_24 (show S_129[65]? = some (9, 4, [none, none, none, none]) from rfl) (Nat.le_of_ble_eq_true rfl) (Nat.le_of_ble_eq_true rfl) rfl rfl pZ_9_0 (fun _ => rfl) (fun _ => rfl) ?_
  refine ok_shape (S2 := S_130) rfl ?_
  refine ok_aload_n 42 0 dX9_init_41 rfl rfl rfl ?_
  refine ok_iconst 43 0 dX9_init_42 rfl rfl ?_
  refine ok_putI 46 dX9_init_43 rfl rfl F_Encores_Table_28 (show S_130[65]? = some (9, 4, [some 66, none, none, none]) from rfl) rfl (Nat.le_of_ble_eq_true rfl) rfl rfl pZ_9_3 rfl rfl ?_
  refine ok_bndME (fun m_43_25 hm_m_43_25 => ?_)
  exact ok_vret dX9_init_46 rfl
theorem ci_35 (d : Nat) (m : Mem) : CM SX (d + 1) m_X9_init S_130 S_128 [.ref 65, .int 12, .int 8] m (gi_35 m) :=
  CM.ofOk km_X9_init (by decide +kernel) (by simp [Value.category]) (Nat.le_of_ble_eq_true rfl) (oi_35 d m)

def gi_36 (m : Mem) : Ans :=
bnd (mset m 67 1 8) fun m_10_7 =>
bnd (mset m_10_7 67 2 5) fun m_19_12 =>
bnd (mnew m_19_12 68) fun m_36_21 =>
bnd (mset m_36_21 67 3 0) fun m_43_25 =>
some (0, m_43_25)
set_option maxRecDepth 100000 in
set_option maxHeartbeats 8000000 in
theorem oi_36 (d : Nat) (m : Mem) : Ok SX S_134 (d + 1) m_X9_init 0 [some (.ref 67), some (.int 8), some (.int 5)] [] S_132 m (gi_36 m) := by
  unfold gi_36
  refine ok_aload_n 1 0 dX9_init_0 rfl rfl rfl ?_
  refine ok_objInit 4 (by decide +kernel) dX9_init_1 rfl rfl ml_Encores_Table_3 (Nat.le_of_ble_eq_true rfl) ?_
  refine ok_aload_n 5 0 dX9_init_4 rfl rfl rfl ?_
  refine ok_iconst 6 0 dX9_init_5 rfl rfl ?_
  refine ok_iload_n 7 1 dX9_init_6 rfl rfl rfl ?_
  refine ok_max 10 (by decide +kernel) dX9_init_7 rfl rfl ml_Encores_Table_9 (Nat.le_of_ble_eq_true rfl) ?_
  rw [show (if (0 : Int32) < 8 then (8 : Int32) else 0) = 8 by decide]
  refine ok_putF 13 dX9_init_10 rfl rfl rfl rfl F_Encores_Table_15 (show S_132[67]? = some (9, 4, [none, none, none, none]) from rfl) rfl (Nat.le_of_ble_eq_true rfl) rfl rfl pZ_9_1 rfl rfl ?_
  refine ok_bndME (fun m_10_7 hm_m_10_7 => ?_)
  refine ok_aload_n 14 0 dX9_init_13 rfl rfl rfl ?_
  refine ok_iconst 15 1 dX9_init_14 rfl rfl ?_
  refine ok_iload_n 16 2 dX9_init_15 rfl rfl rfl ?_
  refine ok_max 19 (by decide +kernel) dX9_init_16 rfl rfl ml_Encores_Table_9 (Nat.le_of_ble_eq_true rfl) ?_
  rw [show (if (1 : Int32) < 5 then (5 : Int32) else 1) = 5 by decide]
  refine ok_putF 22 dX9_init_19 rfl rfl rfl rfl F_Encores_Table_21 (show S_132[67]? = some (9, 4, [none, none, none, none]) from rfl) rfl (Nat.le_of_ble_eq_true rfl) rfl rfl pZ_9_2 rfl rfl ?_
  refine ok_bndME (fun m_19_12 hm_m_19_12 => ?_)
  refine ok_aload_n 23 0 dX9_init_22 rfl rfl rfl ?_
  refine ok_iconst 24 0 dX9_init_23 rfl rfl ?_
  refine ok_aload_n 25 0 dX9_init_24 rfl rfl rfl ?_
  refine ok_getI 28 dX9_init_25 rfl rfl F_Encores_Table_15 (show S_132[67]? = some (9, 4, [none, none, none, none]) from rfl) rfl (Nat.le_of_ble_eq_true rfl) rfl ?_
  rw [show m_19_12 67 1 = 8 by subst_vars; rfl]
  refine ok_aload_n 29 0 dX9_init_28 rfl rfl rfl ?_
  refine ok_getI 32 dX9_init_29 rfl rfl F_Encores_Table_21 (show S_132[67]? = some (9, 4, [none, none, none, none]) from rfl) rfl (Nat.le_of_ble_eq_true rfl) rfl ?_
  rw [show m_19_12 67 2 = 5 by subst_vars; rfl]
  refine ok_imul 33 dX9_init_32 rfl ?_
  rw [show (8 * 5 : Int32) = 40 by decide]
  refine ok_max 36 (by decide +kernel) dX9_init_33 rfl rfl ml_Encores_Table_9 (Nat.le_of_ble_eq_true rfl) ?_
  rw [show (if (0 : Int32) < 40 then (40 : Int32) else 0) = 40 by decide]
  refine ok_newa (N := 40) 38 dX9_init_36 rfl (by decide) (by decide) (by decide) (by decide +kernel) (by decide +kernel) rfl (by decide +kernel) ?_
  refine ok_shape (S2 := S_133) rfl ?_
  refine ok_bndME (fun m_36_21 hm_m_36_21 => ?_)
  show Ok _ _ _ _ _ _ (.ref 68 :: _) _ _ _
  refine ok_putFR 41 dX9_init_38 rfl rfl rfl rfl F_Encores_Table_24 (show S_133[67]? = some (9, 4, [none, none, none, none]) from rfl) (Nat.le_of_ble_eq_true rfl) (Nat.le_of_ble_eq_true rfl) rfl rfl pZ_9_0 (fun _ => rfl) (fun _ => rfl) ?_
  refine ok_shape (S2 := S_134) rfl ?_
  refine ok_aload_n 42 0 dX9_init_41 rfl rfl rfl ?_
  refine ok_iconst 43 0 dX9_init_42 rfl rfl ?_
  refine ok_putI 46 dX9_init_43 rfl rfl F_Encores_Table_28 (show S_134[67]? = some (9, 4, [some 68, none, none, none]) from rfl) rfl (Nat.le_of_ble_eq_true rfl) rfl rfl pZ_9_3 rfl rfl ?_
  refine ok_bndME (fun m_43_25 hm_m_43_25 => ?_)
  exact ok_vret dX9_init_46 rfl
theorem ci_36 (d : Nat) (m : Mem) : CM SX (d + 1) m_X9_init S_134 S_132 [.ref 67, .int 8, .int 5] m (gi_36 m) :=
  CM.ofOk km_X9_init (by decide +kernel) (by simp [Value.category]) (Nat.le_of_ble_eq_true rfl) (oi_36 d m)

def gi_37 (m : Mem) : Ans :=
bnd (mset m 69 1 1) fun m_10_7 =>
bnd (mset m_10_7 69 2 7) fun m_19_12 =>
bnd (mnew m_19_12 70) fun m_36_21 =>
bnd (mset m_36_21 69 3 0) fun m_43_25 =>
some (0, m_43_25)
set_option maxRecDepth 100000 in
set_option maxHeartbeats 8000000 in
theorem oi_37 (d : Nat) (m : Mem) : Ok SX S_138 (d + 1) m_X9_init 0 [some (.ref 69), some (.int 1), some (.int 7)] [] S_136 m (gi_37 m) := by
  unfold gi_37
  refine ok_aload_n 1 0 dX9_init_0 rfl rfl rfl ?_
  refine ok_objInit 4 (by decide +kernel) dX9_init_1 rfl rfl ml_Encores_Table_3 (Nat.le_of_ble_eq_true rfl) ?_
  refine ok_aload_n 5 0 dX9_init_4 rfl rfl rfl ?_
  refine ok_iconst 6 0 dX9_init_5 rfl rfl ?_
  refine ok_iload_n 7 1 dX9_init_6 rfl rfl rfl ?_
  refine ok_max 10 (by decide +kernel) dX9_init_7 rfl rfl ml_Encores_Table_9 (Nat.le_of_ble_eq_true rfl) ?_
  rw [show (if (0 : Int32) < 1 then (1 : Int32) else 0) = 1 by decide]
  refine ok_putF 13 dX9_init_10 rfl rfl rfl rfl F_Encores_Table_15 (show S_136[69]? = some (9, 4, [none, none, none, none]) from rfl) rfl (Nat.le_of_ble_eq_true rfl) rfl rfl pZ_9_1 rfl rfl ?_
  refine ok_bndME (fun m_10_7 hm_m_10_7 => ?_)
  refine ok_aload_n 14 0 dX9_init_13 rfl rfl rfl ?_
  refine ok_iconst 15 1 dX9_init_14 rfl rfl ?_
  refine ok_iload_n 16 2 dX9_init_15 rfl rfl rfl ?_
  refine ok_max 19 (by decide +kernel) dX9_init_16 rfl rfl ml_Encores_Table_9 (Nat.le_of_ble_eq_true rfl) ?_
  rw [show (if (1 : Int32) < 7 then (7 : Int32) else 1) = 7 by decide]
  refine ok_putF 22 dX9_init_19 rfl rfl rfl rfl F_Encores_Table_21 (show S_136[69]? = some (9, 4, [none, none, none, none]) from rfl) rfl (Nat.le_of_ble_eq_true rfl) rfl rfl pZ_9_2 rfl rfl ?_
  refine ok_bndME (fun m_19_12 hm_m_19_12 => ?_)
  refine ok_aload_n 23 0 dX9_init_22 rfl rfl rfl ?_
  refine ok_iconst 24 0 dX9_init_23 rfl rfl ?_
  refine ok_aload_n 25 0 dX9_init_24 rfl rfl rfl ?_
  refine ok_getI 28 dX9_init_25 rfl rfl F_Encores_Table_15 (show S_136[69]? = some (9, 4, [none, none, none, none]) from rfl) rfl (Nat.le_of_ble_eq_true rfl) rfl ?_
  rw [show m_19_12 69 1 = 1 by subst_vars; rfl]
  refine ok_aload_n 29 0 dX9_init_28 rfl rfl rfl ?_
  refine ok_getI 32 dX9_init_29 rfl rfl F_Encores_Table_21 (show S_136[69]? = some (9, 4, [none, none, none, none]) from rfl) rfl (Nat.le_of_ble_eq_true rfl) rfl ?_
  rw [show m_19_12 69 2 = 7 by subst_vars; rfl]
  refine ok_imul 33 dX9_init_32 rfl ?_
  rw [show (1 * 7 : Int32) = 7 by decide]
  refine ok_max 36 (by decide +kernel) dX9_init_33 rfl rfl ml_Encores_Table_9 (Nat.le_of_ble_eq_true rfl) ?_
  rw [show (if (0 : Int32) < 7 then (7 : Int32) else 0) = 7 by decide]
  refine ok_newa (N := 7) 38 dX9_init_36 rfl (by decide) (by decide) (by decide) (by decide +kernel) (by decide +kernel) rfl (by decide +kernel) ?_
  refine ok_shape (S2 := S_137) rfl ?_
  refine ok_bndME (fun m_36_21 hm_m_36_21 => ?_)
  show Ok _ _ _ _ _ _ (.ref 70 :: _) _ _ _
  refine ok_putFR 41 dX9_init_38 rfl rfl rfl rfl F_Encores_Table_24 (show S_137[69]? = some (9, 4, [none, none, none, none]) from rfl) (Nat.le_of_ble_eq_true rfl) (Nat.le_of_ble_eq_true rfl) rfl rfl pZ_9_0 (fun _ => rfl) (fun _ => rfl) ?_
  refine ok_shape (S2 := S_138) rfl ?_
  refine ok_aload_n 42 0 dX9_init_41 rfl rfl rfl ?_
  refine ok_iconst 43 0 dX9_init_42 rfl rfl ?_
  refine ok_putI 46 dX9_init_43 rfl rfl F_Encores_Table_28 (show S_138[69]? = some (9, 4, [some 70, none, none, none]) from rfl) rfl (Nat.le_of_ble_eq_true rfl) rfl rfl pZ_9_3 rfl rfl ?_
  refine ok_bndME (fun m_43_25 hm_m_43_25 => ?_)
  exact ok_vret dX9_init_46 rfl
theorem ci_37 (d : Nat) (m : Mem) : CM SX (d + 1) m_X9_init S_138 S_136 [.ref 69, .int 1, .int 7] m (gi_37 m) :=
  CM.ofOk km_X9_init (by decide +kernel) (by simp [Value.category]) (Nat.le_of_ble_eq_true rfl) (oi_37 d m)

def gi_34 (m : Mem) : Ans :=
bnd (mnew m 65) fun m_5_4 =>
bd (gi_35 m_5_4) fun _ m_13_8 =>
bnd (mnew m_13_8 67) fun m_20_11 =>
bd (gi_36 m_20_11) fun _ m_27_15 =>
bnd (mnew m_27_15 69) fun m_34_18 =>
bd (gi_37 m_34_18) fun _ m_41_22 =>
some (0, m_41_22)
set_option maxRecDepth 100000 in
set_option maxHeartbeats 8000000 in
theorem oi_34 (d : Nat) (m : Mem) : Ok SX S_139 (d + 2) m_X3_init 0 [some (.ref 64)] [] S_127 m (gi_34 m) := by
  unfold gi_34
  refine ok_aload_n 1 0 dX3_init_0 rfl rfl rfl ?_
  refine ok_objInit 4 (by decide +kernel) dX3_init_1 rfl rfl ml_Encores_Moment_3 (Nat.le_of_ble_eq_true rfl) ?_
  refine ok_aload_n 5 0 dX3_init_4 rfl rfl rfl ?_
  refine ok_new (ty := ty9) (ci := 9) 8 dX3_init_5 rfl rfl kl_Encores_Moment_9 in_Encores_Table wi_Encores_Table (by decide) rfl ty9_ok dv_9 (by decide +kernel) (by decide +kernel) rfl (by decide +kernel) ?_
  refine ok_shape (S2 := S_128) rfl ?_
  refine ok_bndME (fun m_5_4 hm_m_5_4 => ?_)
  show Ok _ _ _ _ _ _ (.ref 65 :: _) _ _ _
  refine ok_dup 9 dX3_init_8 rfl rfl ?_
  refine ok_bipush 11 12 dX3_init_9 rfl rfl ?_
  refine ok_bipush 13 8 dX3_init_11 rfl rfl ?_
  refine ok_callI (np := 2) (M' := m_X9_init) (As := [.int 12, .int 8]) (st := [.ref 65, .ref 64]) (r := 65) 16 dX3_init_13 rfl rfl km_X9_init ki_X9_init ml_Encores_Moment_11 (by decide) rfl rfl rfl rfl (Nat.le_of_ble_eq_true rfl) (ci_35 (d + 0) m_5_4) (by decide +kernel) (Or.inr (okR_of rfl)) (fun _ m_13_8 _ => ?_)
  refine ok_putFR 19 dX3_init_16 rfl rfl rfl rfl F_Encores_Moment_14 (show S_130[64]? = some (3, 4, [none, none, none, none]) from rfl) (Nat.le_of_ble_eq_true rfl) (Nat.le_of_ble_eq_true rfl) rfl rfl pZ_3_0 (fun _ => rfl) (fun _ => rfl) ?_
  refine ok_shape (S2 := S_131) rfl ?_
  refine ok_aload_n 20 0 dX3_init_19 rfl rfl rfl ?_
  refine ok_new (ty := ty9) (ci := 9) 23 dX3_init_20 rfl rfl kl_Encores_Moment_9 in_Encores_Table wi_Encores_Table (by decide) rfl ty9_ok dv_9 (by decide +kernel) (by decide +kernel) rfl (by decide +kernel) ?_
  refine ok_shape (S2 := S_132) rfl ?_
  refine ok_bndME (fun m_20_11 hm_m_20_11 => ?_)
  show Ok _ _ _ _ _ _ (.ref 67 :: _) _ _ _
  refine ok_dup 24 dX3_init_23 rfl rfl ?_
  refine ok_bipush 26 8 dX3_init_24 rfl rfl ?_
  refine ok_iconst 27 5 dX3_init_26 rfl rfl ?_
  refine ok_callI (np := 2) (M' := m_X9_init) (As := [.int 8, .int 5]) (st := [.ref 67, .ref 64]) (r := 67) 30 dX3_init_27 rfl rfl km_X9_init ki_X9_init ml_Encores_Moment_11 (by decide) rfl rfl rfl rfl (Nat.le_of_ble_eq_true rfl) (ci_36 (d + 0) m_20_11) (by decide +kernel) (Or.inr (okR_of rfl)) (fun _ m_27_15 _ => ?_)
  refine ok_putFR 33 dX3_init_30 rfl rfl rfl rfl F_Encores_Moment_20 (show S_134[64]? = some (3, 4, [some 65, none, none, none]) from rfl) (Nat.le_of_ble_eq_true rfl) (Nat.le_of_ble_eq_true rfl) rfl rfl pZ_3_1 (fun _ => rfl) (fun _ => rfl) ?_
  refine ok_shape (S2 := S_135) rfl ?_
  refine ok_aload_n 34 0 dX3_init_33 rfl rfl rfl ?_
  refine ok_new (ty := ty9) (ci := 9) 37 dX3_init_34 rfl rfl kl_Encores_Moment_9 in_Encores_Table wi_Encores_Table (by decide) rfl ty9_ok dv_9 (by decide +kernel) (by decide +kernel) rfl (by decide +kernel) ?_
  refine ok_shape (S2 := S_136) rfl ?_
  refine ok_bndME (fun m_34_18 hm_m_34_18 => ?_)
  show Ok _ _ _ _ _ _ (.ref 69 :: _) _ _ _
  refine ok_dup 38 dX3_init_37 rfl rfl ?_
  refine ok_iconst 39 1 dX3_init_38 rfl rfl ?_
  refine ok_bipush 41 7 dX3_init_39 rfl rfl ?_
  refine ok_callI (np := 2) (M' := m_X9_init) (As := [.int 1, .int 7]) (st := [.ref 69, .ref 64]) (r := 69) 44 dX3_init_41 rfl rfl km_X9_init ki_X9_init ml_Encores_Moment_11 (by decide) rfl rfl rfl rfl (Nat.le_of_ble_eq_true rfl) (ci_37 (d + 0) m_34_18) (by decide +kernel) (Or.inr (okR_of rfl)) (fun _ m_41_22 _ => ?_)
  refine ok_putFR 47 dX3_init_44 rfl rfl rfl rfl F_Encores_Moment_23 (show S_138[64]? = some (3, 4, [some 65, some 67, none, none]) from rfl) (Nat.le_of_ble_eq_true rfl) (Nat.le_of_ble_eq_true rfl) rfl rfl pZ_3_2 (fun _ => rfl) (fun _ => rfl) ?_
  refine ok_shape (S2 := S_139) rfl ?_
  exact ok_vret dX3_init_47 rfl
theorem ci_34 (d : Nat) (m : Mem) : CM SX (d + 2) m_X3_init S_139 S_127 [.ref 64] m (gi_34 m) :=
  CM.ofOk km_X3_init (by decide +kernel) (by simp [Value.category]) (Nat.le_of_ble_eq_true rfl) (oi_34 d m)

def gi_39 (m : Mem) : Ans :=
bnd (mset m 72 1 12) fun m_10_7 =>
bnd (mset m_10_7 72 2 8) fun m_19_12 =>
bnd (mnew m_19_12 73) fun m_36_21 =>
bnd (mset m_36_21 72 3 0) fun m_43_25 =>
some (0, m_43_25)
set_option maxRecDepth 100000 in
set_option maxHeartbeats 8000000 in
theorem oi_39 (d : Nat) (m : Mem) : Ok SX S_144 (d + 1) m_X9_init 0 [some (.ref 72), some (.int 12), some (.int 8)] [] S_142 m (gi_39 m) := by
  unfold gi_39
  refine ok_aload_n 1 0 dX9_init_0 rfl rfl rfl ?_
  refine ok_objInit 4 (by decide +kernel) dX9_init_1 rfl rfl ml_Encores_Table_3 (Nat.le_of_ble_eq_true rfl) ?_
  refine ok_aload_n 5 0 dX9_init_4 rfl rfl rfl ?_
  refine ok_iconst 6 0 dX9_init_5 rfl rfl ?_
  refine ok_iload_n 7 1 dX9_init_6 rfl rfl rfl ?_
  refine ok_max 10 (by decide +kernel) dX9_init_7 rfl rfl ml_Encores_Table_9 (Nat.le_of_ble_eq_true rfl) ?_
  rw [show (if (0 : Int32) < 12 then (12 : Int32) else 0) = 12 by decide]
  refine ok_putF 13 dX9_init_10 rfl rfl rfl rfl F_Encores_Table_15 (show S_142[72]? = some (9, 4, [none, none, none, none]) from rfl) rfl (Nat.le_of_ble_eq_true rfl) rfl rfl pZ_9_1 rfl rfl ?_
  refine ok_bndME (fun m_10_7 hm_m_10_7 => ?_)
  refine ok_aload_n 14 0 dX9_init_13 rfl rfl rfl ?_
  refine ok_iconst 15 1 dX9_init_14 rfl rfl ?_
  refine ok_iload_n 16 2 dX9_init_15 rfl rfl rfl ?_
  refine ok_max 19 (by decide +kernel) dX9_init_16 rfl rfl ml_Encores_Table_9 (Nat.le_of_ble_eq_true rfl) ?_
  rw [show (if (1 : Int32) < 8 then (8 : Int32) else 1) = 8 by decide]
  refine ok_putF 22 dX9_init_19 rfl rfl rfl rfl F_Encores_Table_21 (show S_142[72]? = some (9, 4, [none, none, none, none]) from rfl) rfl (Nat.le_of_ble_eq_true rfl) rfl rfl pZ_9_2 rfl rfl ?_
  refine ok_bndME (fun m_19_12 hm_m_19_12 => ?_)
  refine ok_aload_n 23 0 dX9_init_22 rfl rfl rfl ?_
  refine ok_iconst 24 0 dX9_init_23 rfl rfl ?_
  refine ok_aload_n 25 0 dX9_init_24 rfl rfl rfl ?_
  refine ok_getI 28 dX9_init_25 rfl rfl F_Encores_Table_15 (show S_142[72]? = some (9, 4, [none, none, none, none]) from rfl) rfl (Nat.le_of_ble_eq_true rfl) rfl ?_
  rw [show m_19_12 72 1 = 12 by subst_vars; rfl]
  refine ok_aload_n 29 0 dX9_init_28 rfl rfl rfl ?_
  refine ok_getI 32 dX9_init_29 rfl rfl F_Encores_Table_21 (show S_142[72]? = some (9, 4, [none, none, none, none]) from rfl) rfl (Nat.le_of_ble_eq_true rfl) rfl ?_
  rw [show m_19_12 72 2 = 8 by subst_vars; rfl]
  refine ok_imul 33 dX9_init_32 rfl ?_
  rw [show (12 * 8 : Int32) = 96 by decide]
  refine ok_max 36 (by decide +kernel) dX9_init_33 rfl rfl ml_Encores_Table_9 (Nat.le_of_ble_eq_true rfl) ?_
  rw [show (if (0 : Int32) < 96 then (96 : Int32) else 0) = 96 by decide]
  refine ok_newa (N := 96) 38 dX9_init_36 rfl (by decide) (by decide) (by decide) (by decide +kernel) (by decide +kernel) rfl (by decide +kernel) ?_
  refine ok_shape (S2 := S_143) rfl ?_
  refine ok_bndME (fun m_36_21 hm_m_36_21 => ?_)
  show Ok _ _ _ _ _ _ (.ref 73 :: _) _ _ _
  refine ok_putFR 41 dX9_init_38 rfl rfl rfl rfl F_Encores_Table_24 (show S_143[72]? = some (9, 4, [none, none, none, none]) from rfl) (Nat.le_of_ble_eq_true rfl) (Nat.le_of_ble_eq_true rfl) rfl rfl pZ_9_0 (fun _ => rfl) (fun _ => rfl) ?_
  refine ok_shape (S2 := S_144) rfl ?_
  refine ok_aload_n 42 0 dX9_init_41 rfl rfl rfl ?_
  refine ok_iconst 43 0 dX9_init_42 rfl rfl ?_
  refine ok_putI 46 dX9_init_43 rfl rfl F_Encores_Table_28 (show S_144[72]? = some (9, 4, [some 73, none, none, none]) from rfl) rfl (Nat.le_of_ble_eq_true rfl) rfl rfl pZ_9_3 rfl rfl ?_
  refine ok_bndME (fun m_43_25 hm_m_43_25 => ?_)
  exact ok_vret dX9_init_46 rfl
theorem ci_39 (d : Nat) (m : Mem) : CM SX (d + 1) m_X9_init S_144 S_142 [.ref 72, .int 12, .int 8] m (gi_39 m) :=
  CM.ofOk km_X9_init (by decide +kernel) (by simp [Value.category]) (Nat.le_of_ble_eq_true rfl) (oi_39 d m)

def gi_40 (m : Mem) : Ans :=
bnd (mset m 74 1 8) fun m_10_7 =>
bnd (mset m_10_7 74 2 5) fun m_19_12 =>
bnd (mnew m_19_12 75) fun m_36_21 =>
bnd (mset m_36_21 74 3 0) fun m_43_25 =>
some (0, m_43_25)
set_option maxRecDepth 100000 in
set_option maxHeartbeats 8000000 in
theorem oi_40 (d : Nat) (m : Mem) : Ok SX S_148 (d + 1) m_X9_init 0 [some (.ref 74), some (.int 8), some (.int 5)] [] S_146 m (gi_40 m) := by
  unfold gi_40
  refine ok_aload_n 1 0 dX9_init_0 rfl rfl rfl ?_
  refine ok_objInit 4 (by decide +kernel) dX9_init_1 rfl rfl ml_Encores_Table_3 (Nat.le_of_ble_eq_true rfl) ?_
  refine ok_aload_n 5 0 dX9_init_4 rfl rfl rfl ?_
  refine ok_iconst 6 0 dX9_init_5 rfl rfl ?_
  refine ok_iload_n 7 1 dX9_init_6 rfl rfl rfl ?_
  refine ok_max 10 (by decide +kernel) dX9_init_7 rfl rfl ml_Encores_Table_9 (Nat.le_of_ble_eq_true rfl) ?_
  rw [show (if (0 : Int32) < 8 then (8 : Int32) else 0) = 8 by decide]
  refine ok_putF 13 dX9_init_10 rfl rfl rfl rfl F_Encores_Table_15 (show S_146[74]? = some (9, 4, [none, none, none, none]) from rfl) rfl (Nat.le_of_ble_eq_true rfl) rfl rfl pZ_9_1 rfl rfl ?_
  refine ok_bndME (fun m_10_7 hm_m_10_7 => ?_)
  refine ok_aload_n 14 0 dX9_init_13 rfl rfl rfl ?_
  refine ok_iconst 15 1 dX9_init_14 rfl rfl ?_
  refine ok_iload_n 16 2 dX9_init_15 rfl rfl rfl ?_
  refine ok_max 19 (by decide +kernel) dX9_init_16 rfl rfl ml_Encores_Table_9 (Nat.le_of_ble_eq_true rfl) ?_
  rw [show (if (1 : Int32) < 5 then (5 : Int32) else 1) = 5 by decide]
  refine ok_putF 22 dX9_init_19 rfl rfl rfl rfl F_Encores_Table_21 (show S_146[74]? = some (9, 4, [none, none, none, none]) from rfl) rfl (Nat.le_of_ble_eq_true rfl) rfl rfl pZ_9_2 rfl rfl ?_
  refine ok_bndME (fun m_19_12 hm_m_19_12 => ?_)
  refine ok_aload_n 23 0 dX9_init_22 rfl rfl rfl ?_
  refine ok_iconst 24 0 dX9_init_23 rfl rfl ?_
  refine ok_aload_n 25 0 dX9_init_24 rfl rfl rfl ?_
  refine ok_getI 28 dX9_init_25 rfl rfl F_Encores_Table_15 (show S_146[74]? = some (9, 4, [none, none, none, none]) from rfl) rfl (Nat.le_of_ble_eq_true rfl) rfl ?_
  rw [show m_19_12 74 1 = 8 by subst_vars; rfl]
  refine ok_aload_n 29 0 dX9_init_28 rfl rfl rfl ?_
  refine ok_getI 32 dX9_init_29 rfl rfl F_Encores_Table_21 (show S_146[74]? = some (9, 4, [none, none, none, none]) from rfl) rfl (Nat.le_of_ble_eq_true rfl) rfl ?_
  rw [show m_19_12 74 2 = 5 by subst_vars; rfl]
  refine ok_imul 33 dX9_init_32 rfl ?_
  rw [show (8 * 5 : Int32) = 40 by decide]
  refine ok_max 36 (by decide +kernel) dX9_init_33 rfl rfl ml_Encores_Table_9 (Nat.le_of_ble_eq_true rfl) ?_
  rw [show (if (0 : Int32) < 40 then (40 : Int32) else 0) = 40 by decide]
  refine ok_newa (N := 40) 38 dX9_init_36 rfl (by decide) (by decide) (by decide) (by decide +kernel) (by decide +kernel) rfl (by decide +kernel) ?_
  refine ok_shape (S2 := S_147) rfl ?_
  refine ok_bndME (fun m_36_21 hm_m_36_21 => ?_)
  show Ok _ _ _ _ _ _ (.ref 75 :: _) _ _ _
  refine ok_putFR 41 dX9_init_38 rfl rfl rfl rfl F_Encores_Table_24 (show S_147[74]? = some (9, 4, [none, none, none, none]) from rfl) (Nat.le_of_ble_eq_true rfl) (Nat.le_of_ble_eq_true rfl) rfl rfl pZ_9_0 (fun _ => rfl) (fun _ => rfl) ?_
  refine ok_shape (S2 := S_148) rfl ?_
  refine ok_aload_n 42 0 dX9_init_41 rfl rfl rfl ?_
  refine ok_iconst 43 0 dX9_init_42 rfl rfl ?_
  refine ok_putI 46 dX9_init_43 rfl rfl F_Encores_Table_28 (show S_148[74]? = some (9, 4, [some 75, none, none, none]) from rfl) rfl (Nat.le_of_ble_eq_true rfl) rfl rfl pZ_9_3 rfl rfl ?_
  refine ok_bndME (fun m_43_25 hm_m_43_25 => ?_)
  exact ok_vret dX9_init_46 rfl
theorem ci_40 (d : Nat) (m : Mem) : CM SX (d + 1) m_X9_init S_148 S_146 [.ref 74, .int 8, .int 5] m (gi_40 m) :=
  CM.ofOk km_X9_init (by decide +kernel) (by simp [Value.category]) (Nat.le_of_ble_eq_true rfl) (oi_40 d m)

def gi_41 (m : Mem) : Ans :=
bnd (mset m 76 1 1) fun m_10_7 =>
bnd (mset m_10_7 76 2 7) fun m_19_12 =>
bnd (mnew m_19_12 77) fun m_36_21 =>
bnd (mset m_36_21 76 3 0) fun m_43_25 =>
some (0, m_43_25)
set_option maxRecDepth 100000 in
set_option maxHeartbeats 8000000 in
theorem oi_41 (d : Nat) (m : Mem) : Ok SX S_152 (d + 1) m_X9_init 0 [some (.ref 76), some (.int 1), some (.int 7)] [] S_150 m (gi_41 m) := by
  unfold gi_41
  refine ok_aload_n 1 0 dX9_init_0 rfl rfl rfl ?_
  refine ok_objInit 4 (by decide +kernel) dX9_init_1 rfl rfl ml_Encores_Table_3 (Nat.le_of_ble_eq_true rfl) ?_
  refine ok_aload_n 5 0 dX9_init_4 rfl rfl rfl ?_
  refine ok_iconst 6 0 dX9_init_5 rfl rfl ?_
  refine ok_iload_n 7 1 dX9_init_6 rfl rfl rfl ?_
  refine ok_max 10 (by decide +kernel) dX9_init_7 rfl rfl ml_Encores_Table_9 (Nat.le_of_ble_eq_true rfl) ?_
  rw [show (if (0 : Int32) < 1 then (1 : Int32) else 0) = 1 by decide]
  refine ok_putF 13 dX9_init_10 rfl rfl rfl rfl F_Encores_Table_15 (show S_150[76]? = some (9, 4, [none, none, none, none]) from rfl) rfl (Nat.le_of_ble_eq_true rfl) rfl rfl pZ_9_1 rfl rfl ?_
  refine ok_bndME (fun m_10_7 hm_m_10_7 => ?_)
  refine ok_aload_n 14 0 dX9_init_13 rfl rfl rfl ?_
  refine ok_iconst 15 1 dX9_init_14 rfl rfl ?_
  refine ok_iload_n 16 2 dX9_init_15 rfl rfl rfl ?_
  refine ok_max 19 (by decide +kernel) dX9_init_16 rfl rfl ml_Encores_Table_9 (Nat.le_of_ble_eq_true rfl) ?_
  rw [show (if (1 : Int32) < 7 then (7 : Int32) else 1) = 7 by decide]
  refine ok_putF 22 dX9_init_19 rfl rfl rfl rfl F_Encores_Table_21 (show S_150[76]? = some (9, 4, [none, none, none, none]) from rfl) rfl (Nat.le_of_ble_eq_true rfl) rfl rfl pZ_9_2 rfl rfl ?_
  refine ok_bndME (fun m_19_12 hm_m_19_12 => ?_)
  refine ok_aload_n 23 0 dX9_init_22 rfl rfl rfl ?_
  refine ok_iconst 24 0 dX9_init_23 rfl rfl ?_
  refine ok_aload_n 25 0 dX9_init_24 rfl rfl rfl ?_
  refine ok_getI 28 dX9_init_25 rfl rfl F_Encores_Table_15 (show S_150[76]? = some (9, 4, [none, none, none, none]) from rfl) rfl (Nat.le_of_ble_eq_true rfl) rfl ?_
  rw [show m_19_12 76 1 = 1 by subst_vars; rfl]
  refine ok_aload_n 29 0 dX9_init_28 rfl rfl rfl ?_
  refine ok_getI 32 dX9_init_29 rfl rfl F_Encores_Table_21 (show S_150[76]? = some (9, 4, [none, none, none, none]) from rfl) rfl (Nat.le_of_ble_eq_true rfl) rfl ?_
  rw [show m_19_12 76 2 = 7 by subst_vars; rfl]
  refine ok_imul 33 dX9_init_32 rfl ?_
  rw [show (1 * 7 : Int32) = 7 by decide]
  refine ok_max 36 (by decide +kernel) dX9_init_33 rfl rfl ml_Encores_Table_9 (Nat.le_of_ble_eq_true rfl) ?_
  rw [show (if (0 : Int32) < 7 then (7 : Int32) else 0) = 7 by decide]
  refine ok_newa (N := 7) 38 dX9_init_36 rfl (by decide) (by decide) (by decide) (by decide +kernel) (by decide +kernel) rfl (by decide +kernel) ?_
  refine ok_shape (S2 := S_151) rfl ?_
  refine ok_bndME (fun m_36_21 hm_m_36_21 => ?_)
  show Ok _ _ _ _ _ _ (.ref 77 :: _) _ _ _
  refine ok_putFR 41 dX9_init_38 rfl rfl rfl rfl F_Encores_Table_24 (show S_151[76]? = some (9, 4, [none, none, none, none]) from rfl) (Nat.le_of_ble_eq_true rfl) (Nat.le_of_ble_eq_true rfl) rfl rfl pZ_9_0 (fun _ => rfl) (fun _ => rfl) ?_
  refine ok_shape (S2 := S_152) rfl ?_
  refine ok_aload_n 42 0 dX9_init_41 rfl rfl rfl ?_
  refine ok_iconst 43 0 dX9_init_42 rfl rfl ?_
  refine ok_putI 46 dX9_init_43 rfl rfl F_Encores_Table_28 (show S_152[76]? = some (9, 4, [some 77, none, none, none]) from rfl) rfl (Nat.le_of_ble_eq_true rfl) rfl rfl pZ_9_3 rfl rfl ?_
  refine ok_bndME (fun m_43_25 hm_m_43_25 => ?_)
  exact ok_vret dX9_init_46 rfl
theorem ci_41 (d : Nat) (m : Mem) : CM SX (d + 1) m_X9_init S_152 S_150 [.ref 76, .int 1, .int 7] m (gi_41 m) :=
  CM.ofOk km_X9_init (by decide +kernel) (by simp [Value.category]) (Nat.le_of_ble_eq_true rfl) (oi_41 d m)

def gi_38 (m : Mem) : Ans :=
bnd (mnew m 72) fun m_5_4 =>
bd (gi_39 m_5_4) fun _ m_13_8 =>
bnd (mnew m_13_8 74) fun m_20_11 =>
bd (gi_40 m_20_11) fun _ m_27_15 =>
bnd (mnew m_27_15 76) fun m_34_18 =>
bd (gi_41 m_34_18) fun _ m_41_22 =>
some (0, m_41_22)
set_option maxRecDepth 100000 in
set_option maxHeartbeats 8000000 in
theorem oi_38 (d : Nat) (m : Mem) : Ok SX S_153 (d + 2) m_X3_init 0 [some (.ref 71)] [] S_141 m (gi_38 m) := by
  unfold gi_38
  refine ok_aload_n 1 0 dX3_init_0 rfl rfl rfl ?_
  refine ok_objInit 4 (by decide +kernel) dX3_init_1 rfl rfl ml_Encores_Moment_3 (Nat.le_of_ble_eq_true rfl) ?_
  refine ok_aload_n 5 0 dX3_init_4 rfl rfl rfl ?_
  refine ok_new (ty := ty9) (ci := 9) 8 dX3_init_5 rfl rfl kl_Encores_Moment_9 in_Encores_Table wi_Encores_Table (by decide) rfl ty9_ok dv_9 (by decide +kernel) (by decide +kernel) rfl (by decide +kernel) ?_
  refine ok_shape (S2 := S_142) rfl ?_
  refine ok_bndME (fun m_5_4 hm_m_5_4 => ?_)
  show Ok _ _ _ _ _ _ (.ref 72 :: _) _ _ _
  refine ok_dup 9 dX3_init_8 rfl rfl ?_
  refine ok_bipush 11 12 dX3_init_9 rfl rfl ?_
  refine ok_bipush 13 8 dX3_init_11 rfl rfl ?_
  refine ok_callI (np := 2) (M' := m_X9_init) (As := [.int 12, .int 8]) (st := [.ref 72, .ref 71]) (r := 72) 16 dX3_init_13 rfl rfl km_X9_init ki_X9_init ml_Encores_Moment_11 (by decide) rfl rfl rfl rfl (Nat.le_of_ble_eq_true rfl) (ci_39 (d + 0) m_5_4) (by decide +kernel) (Or.inr (okR_of rfl)) (fun _ m_13_8 _ => ?_)
  refine ok_putFR 19 dX3_init_16 rfl rfl rfl rfl F_Encores_Moment_14 (show S_144[71]? = some (3, 4, [none, none, none, none]) from rfl) (Nat.le_of_ble_eq_true rfl) (Nat.le_of_ble_eq_true rfl) rfl rfl pZ_3_0 (fun _ => rfl) (fun _ => rfl) ?_
  refine ok_shape (S2 := S_145) rfl ?_
  refine ok_aload_n 20 0 dX3_init_19 rfl rfl rfl ?_
  refine ok_new (ty := ty9) (ci := 9) 23 dX3_init_20 rfl rfl kl_Encores_Moment_9 in_Encores_Table wi_Encores_Table (by decide) rfl ty9_ok dv_9 (by decide +kernel) (by decide +kernel) rfl (by decide +kernel) ?_
  refine ok_shape (S2 := S_146) rfl ?_
  refine ok_bndME (fun m_20_11 hm_m_20_11 => ?_)
  show Ok _ _ _ _ _ _ (.ref 74 :: _) _ _ _
  refine ok_dup 24 dX3_init_23 rfl rfl ?_
  refine ok_bipush 26 8 dX3_init_24 rfl rfl ?_
  refine ok_iconst 27 5 dX3_init_26 rfl rfl ?_
  refine ok_callI (np := 2) (M' := m_X9_init) (As := [.int 8, .int 5]) (st := [.ref 74, .ref 71]) (r := 74) 30 dX3_init_27 rfl rfl km_X9_init ki_X9_init ml_Encores_Moment_11 (by decide) rfl rfl rfl rfl (Nat.le_of_ble_eq_true rfl) (ci_40 (d + 0) m_20_11) (by decide +kernel) (Or.inr (okR_of rfl)) (fun _ m_27_15 _ => ?_)
  refine ok_putFR 33 dX3_init_30 rfl rfl rfl rfl F_Encores_Moment_20 (show S_148[71]? = some (3, 4, [some 72, none, none, none]) from rfl) (Nat.le_of_ble_eq_true rfl) (Nat.le_of_ble_eq_true rfl) rfl rfl pZ_3_1 (fun _ => rfl) (fun _ => rfl) ?_
  refine ok_shape (S2 := S_149) rfl ?_
  refine ok_aload_n 34 0 dX3_init_33 rfl rfl rfl ?_
  refine ok_new (ty := ty9) (ci := 9) 37 dX3_init_34 rfl rfl kl_Encores_Moment_9 in_Encores_Table wi_Encores_Table (by decide) rfl ty9_ok dv_9 (by decide +kernel) (by decide +kernel) rfl (by decide +kernel) ?_
  refine ok_shape (S2 := S_150) rfl ?_
  refine ok_bndME (fun m_34_18 hm_m_34_18 => ?_)
  show Ok _ _ _ _ _ _ (.ref 76 :: _) _ _ _
  refine ok_dup 38 dX3_init_37 rfl rfl ?_
  refine ok_iconst 39 1 dX3_init_38 rfl rfl ?_
  refine ok_bipush 41 7 dX3_init_39 rfl rfl ?_
  refine ok_callI (np := 2) (M' := m_X9_init) (As := [.int 1, .int 7]) (st := [.ref 76, .ref 71]) (r := 76) 44 dX3_init_41 rfl rfl km_X9_init ki_X9_init ml_Encores_Moment_11 (by decide) rfl rfl rfl rfl (Nat.le_of_ble_eq_true rfl) (ci_41 (d + 0) m_34_18) (by decide +kernel) (Or.inr (okR_of rfl)) (fun _ m_41_22 _ => ?_)
  refine ok_putFR 47 dX3_init_44 rfl rfl rfl rfl F_Encores_Moment_23 (show S_152[71]? = some (3, 4, [some 72, some 74, none, none]) from rfl) (Nat.le_of_ble_eq_true rfl) (Nat.le_of_ble_eq_true rfl) rfl rfl pZ_3_2 (fun _ => rfl) (fun _ => rfl) ?_
  refine ok_shape (S2 := S_153) rfl ?_
  exact ok_vret dX3_init_47 rfl
theorem ci_38 (d : Nat) (m : Mem) : CM SX (d + 2) m_X3_init S_153 S_141 [.ref 71] m (gi_38 m) :=
  CM.ofOk km_X3_init (by decide +kernel) (by simp [Value.category]) (Nat.le_of_ble_eq_true rfl) (oi_38 d m)

def gi_43 (m : Mem) : Ans :=
bnd (mset m 79 1 12) fun m_10_7 =>
bnd (mset m_10_7 79 2 8) fun m_19_12 =>
bnd (mnew m_19_12 80) fun m_36_21 =>
bnd (mset m_36_21 79 3 0) fun m_43_25 =>
some (0, m_43_25)
set_option maxRecDepth 100000 in
set_option maxHeartbeats 8000000 in
theorem oi_43 (d : Nat) (m : Mem) : Ok SX S_158 (d + 1) m_X9_init 0 [some (.ref 79), some (.int 12), some (.int 8)] [] S_156 m (gi_43 m) := by
  unfold gi_43
  refine ok_aload_n 1 0 dX9_init_0 rfl rfl rfl ?_
  refine ok_objInit 4 (by decide +kernel) dX9_init_1 rfl rfl ml_Encores_Table_3 (Nat.le_of_ble_eq_true rfl) ?_
  refine ok_aload_n 5 0 dX9_init_4 rfl rfl rfl ?_
  refine ok_iconst 6 0 dX9_init_5 rfl rfl ?_
  refine ok_iload_n 7 1 dX9_init_6 rfl rfl rfl ?_
  refine ok_max 10 (by decide +kernel) dX9_init_7 rfl rfl ml_Encores_Table_9 (Nat.le_of_ble_eq_true rfl) ?_
  rw [show (if (0 : Int32) < 12 then (12 : Int32) else 0) = 12 by decide]
  refine ok_putF 13 dX9_init_10 rfl rfl rfl rfl F_Encores_Table_15 (show S_156[79]? = some (9, 4, [none, none, none, none]) from rfl) rfl (Nat.le_of_ble_eq_true rfl) rfl rfl pZ_9_1 rfl rfl ?_
  refine ok_bndME (fun m_10_7 hm_m_10_7 => ?_)
  refine ok_aload_n 14 0 dX9_init_13 rfl rfl rfl ?_
  refine ok_iconst 15 1 dX9_init_14 rfl rfl ?_
  refine ok_iload_n 16 2 dX9_init_15 rfl rfl rfl ?_
  refine ok_max 19 (by decide +kernel) dX9_init_16 rfl rfl ml_Encores_Table_9 (Nat.le_of_ble_eq_true rfl) ?_
  rw [show (if (1 : Int32) < 8 then (8 : Int32) else 1) = 8 by decide]
  refine ok_putF 22 dX9_init_19 rfl rfl rfl rfl F_Encores_Table_21 (show S_156[79]? = some (9, 4, [none, none, none, none]) from rfl) rfl (Nat.le_of_ble_eq_true rfl) rfl rfl pZ_9_2 rfl rfl ?_
  refine ok_bndME (fun m_19_12 hm_m_19_12 => ?_)
  refine ok_aload_n 23 0 dX9_init_22 rfl rfl rfl ?_
  refine ok_iconst 24 0 dX9_init_23 rfl rfl ?_
  refine ok_aload_n 25 0 dX9_init_24 rfl rfl rfl ?_
  refine ok_getI 28 dX9_init_25 rfl rfl F_Encores_Table_15 (show S_156[79]? = some (9, 4, [none, none, none, none]) from rfl) rfl (Nat.le_of_ble_eq_true rfl) rfl ?_
  rw [show m_19_12 79 1 = 12 by subst_vars; rfl]
  refine ok_aload_n 29 0 dX9_init_28 rfl rfl rfl ?_
  refine ok_getI 32 dX9_init_29 rfl rfl F_Encores_Table_21 (show S_156[79]? = some (9, 4, [none, none, none, none]) from rfl) rfl (Nat.le_of_ble_eq_true rfl) rfl ?_
  rw [show m_19_12 79 2 = 8 by subst_vars; rfl]
  refine ok_imul 33 dX9_init_32 rfl ?_
  rw [show (12 * 8 : Int32) = 96 by decide]
  refine ok_max 36 (by decide +kernel) dX9_init_33 rfl rfl ml_Encores_Table_9 (Nat.le_of_ble_eq_true rfl) ?_
  rw [show (if (0 : Int32) < 96 then (96 : Int32) else 0) = 96 by decide]
  refine ok_newa (N := 96) 38 dX9_init_36 rfl (by decide) (by decide) (by decide) (by decide +kernel) (by decide +kernel) rfl (by decide +kernel) ?_
  refine ok_shape (S2 := S_157) rfl ?_
  refine ok_bndME (fun m_36_21 hm_m_36_21 => ?_)
  show Ok _ _ _ _ _ _ (.ref 80 :: _) _ _ _
  refine ok_putFR 41 dX9_init_38 rfl rfl rfl rfl F_Encores_Table_24 (show S_157[79]? = some (9, 4, [none, none, none, none]) from rfl) (Nat.le_of_ble_eq_true rfl) (Nat.le_of_ble_eq_true rfl) rfl rfl pZ_9_0 (fun _ => rfl) (fun _ => rfl) ?_
  refine ok_shape (S2 := S_158) rfl ?_
  refine ok_aload_n 42 0 dX9_init_41 rfl rfl rfl ?_
  refine ok_iconst 43 0 dX9_init_42 rfl rfl ?_
  refine ok_putI 46 dX9_init_43 rfl rfl F_Encores_Table_28 (show S_158[79]? = some (9, 4, [some 80, none, none, none]) from rfl) rfl (Nat.le_of_ble_eq_true rfl) rfl rfl pZ_9_3 rfl rfl ?_
  refine ok_bndME (fun m_43_25 hm_m_43_25 => ?_)
  exact ok_vret dX9_init_46 rfl
theorem ci_43 (d : Nat) (m : Mem) : CM SX (d + 1) m_X9_init S_158 S_156 [.ref 79, .int 12, .int 8] m (gi_43 m) :=
  CM.ofOk km_X9_init (by decide +kernel) (by simp [Value.category]) (Nat.le_of_ble_eq_true rfl) (oi_43 d m)

def gi_44 (m : Mem) : Ans :=
bnd (mset m 81 1 8) fun m_10_7 =>
bnd (mset m_10_7 81 2 5) fun m_19_12 =>
bnd (mnew m_19_12 82) fun m_36_21 =>
bnd (mset m_36_21 81 3 0) fun m_43_25 =>
some (0, m_43_25)
set_option maxRecDepth 100000 in
set_option maxHeartbeats 8000000 in
theorem oi_44 (d : Nat) (m : Mem) : Ok SX S_162 (d + 1) m_X9_init 0 [some (.ref 81), some (.int 8), some (.int 5)] [] S_160 m (gi_44 m) := by
  unfold gi_44
  refine ok_aload_n 1 0 dX9_init_0 rfl rfl rfl ?_
  refine ok_objInit 4 (by decide +kernel) dX9_init_1 rfl rfl ml_Encores_Table_3 (Nat.le_of_ble_eq_true rfl) ?_
  refine ok_aload_n 5 0 dX9_init_4 rfl rfl rfl ?_
  refine ok_iconst 6 0 dX9_init_5 rfl rfl ?_
  refine ok_iload_n 7 1 dX9_init_6 rfl rfl rfl ?_
  refine ok_max 10 (by decide +kernel) dX9_init_7 rfl rfl ml_Encores_Table_9 (Nat.le_of_ble_eq_true rfl) ?_
  rw [show (if (0 : Int32) < 8 then (8 : Int32) else 0) = 8 by decide]
  refine ok_putF 13 dX9_init_10 rfl rfl rfl rfl F_Encores_Table_15 (show S_160[81]? = some (9, 4, [none, none, none, none]) from rfl) rfl (Nat.le_of_ble_eq_true rfl) rfl rfl pZ_9_1 rfl rfl ?_
  refine ok_bndME (fun m_10_7 hm_m_10_7 => ?_)
  refine ok_aload_n 14 0 dX9_init_13 rfl rfl rfl ?_
  refine ok_iconst 15 1 dX9_init_14 rfl rfl ?_
  refine ok_iload_n 16 2 dX9_init_15 rfl rfl rfl ?_
  refine ok_max 19 (by decide +kernel) dX9_init_16 rfl rfl ml_Encores_Table_9 (Nat.le_of_ble_eq_true rfl) ?_
  rw [show (if (1 : Int32) < 5 then (5 : Int32) else 1) = 5 by decide]
  refine ok_putF 22 dX9_init_19 rfl rfl rfl rfl F_Encores_Table_21 (show S_160[81]? = some (9, 4, [none, none, none, none]) from rfl) rfl (Nat.le_of_ble_eq_true rfl) rfl rfl pZ_9_2 rfl rfl ?_
  refine ok_bndME (fun m_19_12 hm_m_19_12 => ?_)
  refine ok_aload_n 23 0 dX9_init_22 rfl rfl rfl ?_
  refine ok_iconst 24 0 dX9_init_23 rfl rfl ?_
  refine ok_aload_n 25 0 dX9_init_24 rfl rfl rfl ?_
  refine ok_getI 28 dX9_init_25 rfl rfl F_Encores_Table_15 (show S_160[81]? = some (9, 4, [none, none, none, none]) from rfl) rfl (Nat.le_of_ble_eq_true rfl) rfl ?_
  rw [show m_19_12 81 1 = 8 by subst_vars; rfl]
  refine ok_aload_n 29 0 dX9_init_28 rfl rfl rfl ?_
  refine ok_getI 32 dX9_init_29 rfl rfl F_Encores_Table_21 (show S_160[81]? = some (9, 4, [none, none, none, none]) from rfl) rfl (Nat.le_of_ble_eq_true rfl) rfl ?_
  rw [show m_19_12 81 2 = 5 by subst_vars; rfl]
  refine ok_imul 33 dX9_init_32 rfl ?_
  rw [show (8 * 5 : Int32) = 40 by decide]
  refine ok_max 36 (by decide +kernel) dX9_init_33 rfl rfl ml_Encores_Table_9 (Nat.le_of_ble_eq_true rfl) ?_
  rw [show (if (0 : Int32) < 40 then (40 : Int32) else 0) = 40 by decide]
  refine ok_newa (N := 40) 38 dX9_init_36 rfl (by decide) (by decide) (by decide) (by decide +kernel) (by decide +kernel) rfl (by decide +kernel) ?_
  refine ok_shape (S2 := S_161) rfl ?_
  refine ok_bndME (fun m_36_21 hm_m_36_21 => ?_)
  show Ok _ _ _ _ _ _ (.ref 82 :: _) _ _ _
  refine ok_putFR 41 dX9_init_38 rfl rfl rfl rfl F_Encores_Table_24 (show S_161[81]? = some (9, 4, [none, none, none, none]) from rfl) (Nat.le_of_ble_eq_true rfl) (Nat.le_of_ble_eq_true rfl) rfl rfl pZ_9_0 (fun _ => rfl) (fun _ => rfl) ?_
  refine ok_shape (S2 := S_162) rfl ?_
  refine ok_aload_n 42 0 dX9_init_41 rfl rfl rfl ?_
  refine ok_iconst 43 0 dX9_init_42 rfl rfl ?_
  refine ok_putI 46 dX9_init_43 rfl rfl F_Encores_Table_28 (show S_162[81]? = some (9, 4, [some 82, none, none, none]) from rfl) rfl (Nat.le_of_ble_eq_true rfl) rfl rfl pZ_9_3 rfl rfl ?_
  refine ok_bndME (fun m_43_25 hm_m_43_25 => ?_)
  exact ok_vret dX9_init_46 rfl
theorem ci_44 (d : Nat) (m : Mem) : CM SX (d + 1) m_X9_init S_162 S_160 [.ref 81, .int 8, .int 5] m (gi_44 m) :=
  CM.ofOk km_X9_init (by decide +kernel) (by simp [Value.category]) (Nat.le_of_ble_eq_true rfl) (oi_44 d m)

def gi_45 (m : Mem) : Ans :=
bnd (mset m 83 1 1) fun m_10_7 =>
bnd (mset m_10_7 83 2 7) fun m_19_12 =>
bnd (mnew m_19_12 84) fun m_36_21 =>
bnd (mset m_36_21 83 3 0) fun m_43_25 =>
some (0, m_43_25)
set_option maxRecDepth 100000 in
set_option maxHeartbeats 8000000 in
theorem oi_45 (d : Nat) (m : Mem) : Ok SX S_166 (d + 1) m_X9_init 0 [some (.ref 83), some (.int 1), some (.int 7)] [] S_164 m (gi_45 m) := by
  unfold gi_45
  refine ok_aload_n 1 0 dX9_init_0 rfl rfl rfl ?_
  refine ok_objInit 4 (by decide +kernel) dX9_init_1 rfl rfl ml_Encores_Table_3 (Nat.le_of_ble_eq_true rfl) ?_
  refine ok_aload_n 5 0 dX9_init_4 rfl rfl rfl ?_
  refine ok_iconst 6 0 dX9_init_5 rfl rfl ?_
  refine ok_iload_n 7 1 dX9_init_6 rfl rfl rfl ?_
  refine ok_max 10 (by decide +kernel) dX9_init_7 rfl rfl ml_Encores_Table_9 (Nat.le_of_ble_eq_true rfl) ?_
  rw [show (if (0 : Int32) < 1 then (1 : Int32) else 0) = 1 by decide]
  refine ok_putF 13 dX9_init_10 rfl rfl rfl rfl F_Encores_Table_15 (show S_164[83]? = some (9, 4, [none, none, none, none]) from rfl) rfl (Nat.le_of_ble_eq_true rfl) rfl rfl pZ_9_1 rfl rfl ?_
  refine ok_bndME (fun m_10_7 hm_m_10_7 => ?_)
  refine ok_aload_n 14 0 dX9_init_13 rfl rfl rfl ?_
  refine ok_iconst 15 1 dX9_init_14 rfl rfl ?_
  refine ok_iload_n 16 2 dX9_init_15 rfl rfl rfl ?_
  refine ok_max 19 (by decide +kernel) dX9_init_16 rfl rfl ml_Encores_Table_9 (Nat.le_of_ble_eq_true rfl) ?_
  rw [show (if (1 : Int32) < 7 then (7 : Int32) else 1) = 7 by decide]
  refine ok_putF 22 dX9_init_19 rfl rfl rfl rfl F_Encores_Table_21 (show S_164[83]? = some (9, 4, [none, none, none, none]) from rfl) rfl (Nat.le_of_ble_eq_true rfl) rfl rfl pZ_9_2 rfl rfl ?_
  refine ok_bndME (fun m_19_12 hm_m_19_12 => ?_)
  refine ok_aload_n 23 0 dX9_init_22 rfl rfl rfl ?_
  refine ok_iconst 24 0 dX9_init_23 rfl rfl ?_
  refine ok_aload_n 25 0 dX9_init_24 rfl rfl rfl ?_
  refine ok_getI 28 dX9_init_25 rfl rfl F_Encores_Table_15 (show S_164[83]? = some (9, 4, [none, none, none, none]) from rfl) rfl (Nat.le_of_ble_eq_true rfl) rfl ?_
  rw [show m_19_12 83 1 = 1 by subst_vars; rfl]
  refine ok_aload_n 29 0 dX9_init_28 rfl rfl rfl ?_
  refine ok_getI 32 dX9_init_29 rfl rfl F_Encores_Table_21 (show S_164[83]? = some (9, 4, [none, none, none, none]) from rfl) rfl (Nat.le_of_ble_eq_true rfl) rfl ?_
  rw [show m_19_12 83 2 = 7 by subst_vars; rfl]
  refine ok_imul 33 dX9_init_32 rfl ?_
  rw [show (1 * 7 : Int32) = 7 by decide]
  refine ok_max 36 (by decide +kernel) dX9_init_33 rfl rfl ml_Encores_Table_9 (Nat.le_of_ble_eq_true rfl) ?_
  rw [show (if (0 : Int32) < 7 then (7 : Int32) else 0) = 7 by decide]
  refine ok_newa (N := 7) 38 dX9_init_36 rfl (by decide) (by decide) (by decide) (by decide +kernel) (by decide +kernel) rfl (by decide +kernel) ?_
  refine ok_shape (S2 := S_165) rfl ?_
  refine ok_bndME (fun m_36_21 hm_m_36_21 => ?_)
  show Ok _ _ _ _ _ _ (.ref 84 :: _) _ _ _
  refine ok_putFR 41 dX9_init_38 rfl rfl rfl rfl F_Encores_Table_24 (show S_165[83]? = some (9, 4, [none, none, none, none]) from rfl) (Nat.le_of_ble_eq_true rfl) (Nat.le_of_ble_eq_true rfl) rfl rfl pZ_9_0 (fun _ => rfl) (fun _ => rfl) ?_
  refine ok_shape (S2 := S_166) rfl ?_
  refine ok_aload_n 42 0 dX9_init_41 rfl rfl rfl ?_
  refine ok_iconst 43 0 dX9_init_42 rfl rfl ?_
  refine ok_putI 46 dX9_init_43 rfl rfl F_Encores_Table_28 (show S_166[83]? = some (9, 4, [some 84, none, none, none]) from rfl) rfl (Nat.le_of_ble_eq_true rfl) rfl rfl pZ_9_3 rfl rfl ?_
  refine ok_bndME (fun m_43_25 hm_m_43_25 => ?_)
  exact ok_vret dX9_init_46 rfl
theorem ci_45 (d : Nat) (m : Mem) : CM SX (d + 1) m_X9_init S_166 S_164 [.ref 83, .int 1, .int 7] m (gi_45 m) :=
  CM.ofOk km_X9_init (by decide +kernel) (by simp [Value.category]) (Nat.le_of_ble_eq_true rfl) (oi_45 d m)

def gi_42 (m : Mem) : Ans :=
bnd (mnew m 79) fun m_5_4 =>
bd (gi_43 m_5_4) fun _ m_13_8 =>
bnd (mnew m_13_8 81) fun m_20_11 =>
bd (gi_44 m_20_11) fun _ m_27_15 =>
bnd (mnew m_27_15 83) fun m_34_18 =>
bd (gi_45 m_34_18) fun _ m_41_22 =>
some (0, m_41_22)
set_option maxRecDepth 100000 in
set_option maxHeartbeats 8000000 in
theorem oi_42 (d : Nat) (m : Mem) : Ok SX S_167 (d + 2) m_X3_init 0 [some (.ref 78)] [] S_155 m (gi_42 m) := by
  unfold gi_42
  refine ok_aload_n 1 0 dX3_init_0 rfl rfl rfl ?_
  refine ok_objInit 4 (by decide +kernel) dX3_init_1 rfl rfl ml_Encores_Moment_3 (Nat.le_of_ble_eq_true rfl) ?_
  refine ok_aload_n 5 0 dX3_init_4 rfl rfl rfl ?_
  refine ok_new (ty := ty9) (ci := 9) 8 dX3_init_5 rfl rfl kl_Encores_Moment_9 in_Encores_Table wi_Encores_Table (by decide) rfl ty9_ok dv_9 (by decide +kernel) (by decide +kernel) rfl (by decide +kernel) ?_
  refine ok_shape (S2 := S_156) rfl ?_
  refine ok_bndME (fun m_5_4 hm_m_5_4 => ?_)
  show Ok _ _ _ _ _ _ (.ref 79 :: _) _ _ _
  refine ok_dup 9 dX3_init_8 rfl rfl ?_
  refine ok_bipush 11 12 dX3_init_9 rfl rfl ?_
  refine ok_bipush 13 8 dX3_init_11 rfl rfl ?_
  refine ok_callI (np := 2) (M' := m_X9_init) (As := [.int 12, .int 8]) (st := [.ref 79, .ref 78]) (r := 79) 16 dX3_init_13 rfl rfl km_X9_init ki_X9_init ml_Encores_Moment_11 (by decide) rfl rfl rfl rfl (Nat.le_of_ble_eq_true rfl) (ci_43 (d + 0) m_5_4) (by decide +kernel) (Or.inr (okR_of rfl)) (fun _ m_13_8 _ => ?_)
  refine ok_putFR 19 dX3_init_16 rfl rfl rfl rfl F_Encores_Moment_14 (show S_158[78]? = some (3, 4, [none, none, none, none]) from rfl) (Nat.le_of_ble_eq_true rfl) (Nat.le_of_ble_eq_true rfl) rfl rfl pZ_3_0 (fun _ => rfl) (fun _ => rfl) ?_
  refine ok_shape (S2 := S_159) rfl ?_
  refine ok_aload_n 20 0 dX3_init_19 rfl rfl rfl ?_
  refine ok_new (ty := ty9) (ci := 9) 23 dX3_init_20 rfl rfl kl_Encores_Moment_9 in_Encores_Table wi_Encores_Table (by decide) rfl ty9_ok dv_9 (by decide +kernel) (by decide +kernel) rfl (by decide +kernel) ?_
  refine ok_shape (S2 := S_160) rfl ?_
  refine ok_bndME (fun m_20_11 hm_m_20_11 => ?_)
  show Ok _ _ _ _ _ _ (.ref 81 :: _) _ _ _
  refine ok_dup 24 dX3_init_23 rfl rfl ?_
  refine ok_bipush 26 8 dX3_init_24 rfl rfl ?_
  refine ok_iconst 27 5 dX3_init_26 rfl rfl ?_
  refine ok_callI (np := 2) (M' := m_X9_init) (As := [.int 8, .int 5]) (st := [.ref 81, .ref 78]) (r := 81) 30 dX3_init_27 rfl rfl km_X9_init ki_X9_init ml_Encores_Moment_11 (by decide) rfl rfl rfl rfl (Nat.le_of_ble_eq_true rfl) (ci_44 (d + 0) m_20_11) (by decide +kernel) (Or.inr (okR_of rfl)) (fun _ m_27_15 _ => ?_)
  refine ok_putFR 33 dX3_init_30 rfl rfl rfl rfl F_Encores_Moment_20 (show S_162[78]? = some (3, 4, [some 79, none, none, none]) from rfl) (Nat.le_of_ble_eq_true rfl) (Nat.le_of_ble_eq_true rfl) rfl rfl pZ_3_1 (fun _ => rfl) (fun _ => rfl) ?_
  refine ok_shape (S2 := S_163) rfl ?_
  refine ok_aload_n 34 0 dX3_init_33 rfl rfl rfl ?_
  refine ok_new (ty := ty9) (ci := 9) 37 dX3_init_34 rfl rfl kl_Encores_Moment_9 in_Encores_Table wi_Encores_Table (by decide) rfl ty9_ok dv_9 (by decide +kernel) (by decide +kernel) rfl (by decide +kernel) ?_
  refine ok_shape (S2 := S_164) rfl ?_
  refine ok_bndME (fun m_34_18 hm_m_34_18 => ?_)
  show Ok _ _ _ _ _ _ (.ref 83 :: _) _ _ _
  refine ok_dup 38 dX3_init_37 rfl rfl ?_
  refine ok_iconst 39 1 dX3_init_38 rfl rfl ?_
  refine ok_bipush 41 7 dX3_init_39 rfl rfl ?_
  refine ok_callI (np := 2) (M' := m_X9_init) (As := [.int 1, .int 7]) (st := [.ref 83, .ref 78]) (r := 83) 44 dX3_init_41 rfl rfl km_X9_init ki_X9_init ml_Encores_Moment_11 (by decide) rfl rfl rfl rfl (Nat.le_of_ble_eq_true rfl) (ci_45 (d + 0) m_34_18) (by decide +kernel) (Or.inr (okR_of rfl)) (fun _ m_41_22 _ => ?_)
  refine ok_putFR 47 dX3_init_44 rfl rfl rfl rfl F_Encores_Moment_23 (show S_166[78]? = some (3, 4, [some 79, some 81, none, none]) from rfl) (Nat.le_of_ble_eq_true rfl) (Nat.le_of_ble_eq_true rfl) rfl rfl pZ_3_2 (fun _ => rfl) (fun _ => rfl) ?_
  refine ok_shape (S2 := S_167) rfl ?_
  exact ok_vret dX3_init_47 rfl
theorem ci_42 (d : Nat) (m : Mem) : CM SX (d + 2) m_X3_init S_167 S_155 [.ref 78] m (gi_42 m) :=
  CM.ofOk km_X3_init (by decide +kernel) (by simp [Value.category]) (Nat.le_of_ble_eq_true rfl) (oi_42 d m)

def gi_47 (m : Mem) : Ans :=
bnd (mset m 86 1 12) fun m_10_7 =>
bnd (mset m_10_7 86 2 8) fun m_19_12 =>
bnd (mnew m_19_12 87) fun m_36_21 =>
bnd (mset m_36_21 86 3 0) fun m_43_25 =>
some (0, m_43_25)
set_option maxRecDepth 100000 in
set_option maxHeartbeats 8000000 in
theorem oi_47 (d : Nat) (m : Mem) : Ok SX S_172 (d + 1) m_X9_init 0 [some (.ref 86), some (.int 12), some (.int 8)] [] S_170 m (gi_47 m) := by
  unfold gi_47
  refine ok_aload_n 1 0 dX9_init_0 rfl rfl rfl ?_
  refine ok_objInit 4 (by decide +kernel) dX9_init_1 rfl rfl ml_Encores_Table_3 (Nat.le_of_ble_eq_true rfl) ?_
  refine ok_aload_n 5 0 dX9_init_4 rfl rfl rfl ?_
  refine ok_iconst 6 0 dX9_init_5 rfl rfl ?_
  refine ok_iload_n 7 1 dX9_init_6 rfl rfl rfl ?_
  refine ok_max 10 (by decide +kernel) dX9_init_7 rfl rfl ml_Encores_Table_9 (Nat.le_of_ble_eq_true rfl) ?_
  rw [show (if (0 : Int32) < 12 then (12 : Int32) else 0) = 12 by decide]
  refine ok_putF 13 dX9_init_10 rfl rfl rfl rfl F_Encores_Table_15 (show S_170[86]? = some (9, 4, [none, none, none, none]) from rfl) rfl (Nat.le_of_ble_eq_true rfl) rfl rfl pZ_9_1 rfl rfl ?_
  refine ok_bndME (fun m_10_7 hm_m_10_7 => ?_)
  refine ok_aload_n 14 0 dX9_init_13 rfl rfl rfl ?_
  refine ok_iconst 15 1 dX9_init_14 rfl rfl ?_
  refine ok_iload_n 16 2 dX9_init_15 rfl rfl rfl ?_
  refine ok_max 19 (by decide +kernel) dX9_init_16 rfl rfl ml_Encores_Table_9 (Nat.le_of_ble_eq_true rfl) ?_
  rw [show (if (1 : Int32) < 8 then (8 : Int32) else 1) = 8 by decide]
  refine ok_putF 22 dX9_init_19 rfl rfl rfl rfl F_Encores_Table_21 (show S_170[86]? = some (9, 4, [none, none, none, none]) from rfl) rfl (Nat.le_of_ble_eq_true rfl) rfl rfl pZ_9_2 rfl rfl ?_
  refine ok_bndME (fun m_19_12 hm_m_19_12 => ?_)
  refine ok_aload_n 23 0 dX9_init_22 rfl rfl rfl ?_
  refine ok_iconst 24 0 dX9_init_23 rfl rfl ?_
  refine ok_aload_n 25 0 dX9_init_24 rfl rfl rfl ?_
  refine ok_getI 28 dX9_init_25 rfl rfl F_Encores_Table_15 (show S_170[86]? = some (9, 4, [none, none, none, none]) from rfl) rfl (Nat.le_of_ble_eq_true rfl) rfl ?_
  rw [show m_19_12 86 1 = 12 by subst_vars; rfl]
  refine ok_aload_n 29 0 dX9_init_28 rfl rfl rfl ?_
  refine ok_getI 32 dX9_init_29 rfl rfl F_Encores_Table_21 (show S_170[86]? = some (9, 4, [none, none, none, none]) from rfl) rfl (Nat.le_of_ble_eq_true rfl) rfl ?_
  rw [show m_19_12 86 2 = 8 by subst_vars; rfl]
  refine ok_imul 33 dX9_init_32 rfl ?_
  rw [show (12 * 8 : Int32) = 96 by decide]
  refine ok_max 36 (by decide +kernel) dX9_init_33 rfl rfl ml_Encores_Table_9 (Nat.le_of_ble_eq_true rfl) ?_
  rw [show (if (0 : Int32) < 96 then (96 : Int32) else 0) = 96 by decide]
  refine ok_newa (N := 96) 38 dX9_init_36 rfl (by decide) (by decide) (by decide) (by decide +kernel) (by decide +kernel) rfl (by decide +kernel) ?_
  refine ok_shape (S2 := S_171) rfl ?_
  refine ok_bndME (fun m_36_21 hm_m_36_21 => ?_)
  show Ok _ _ _ _ _ _ (.ref 87 :: _) _ _ _
  refine ok_putFR 41 dX9_init_38 rfl rfl rfl rfl F_Encores_Table_24 (show S_171[86]? = some (9, 4, [none, none, none, none]) from rfl) (Nat.le_of_ble_eq_true rfl) (Nat.le_of_ble_eq_true rfl) rfl rfl pZ_9_0 (fun _ => rfl) (fun _ => rfl) ?_
  refine ok_shape (S2 := S_172) rfl ?_
  refine ok_aload_n 42 0 dX9_init_41 rfl rfl rfl ?_
  refine ok_iconst 43 0 dX9_init_42 rfl rfl ?_
  refine ok_putI 46 dX9_init_43 rfl rfl F_Encores_Table_28 (show S_172[86]? = some (9, 4, [some 87, none, none, none]) from rfl) rfl (Nat.le_of_ble_eq_true rfl) rfl rfl pZ_9_3 rfl rfl ?_
  refine ok_bndME (fun m_43_25 hm_m_43_25 => ?_)
  exact ok_vret dX9_init_46 rfl
theorem ci_47 (d : Nat) (m : Mem) : CM SX (d + 1) m_X9_init S_172 S_170 [.ref 86, .int 12, .int 8] m (gi_47 m) :=
  CM.ofOk km_X9_init (by decide +kernel) (by simp [Value.category]) (Nat.le_of_ble_eq_true rfl) (oi_47 d m)

def gi_48 (m : Mem) : Ans :=
bnd (mset m 88 1 8) fun m_10_7 =>
bnd (mset m_10_7 88 2 5) fun m_19_12 =>
bnd (mnew m_19_12 89) fun m_36_21 =>
bnd (mset m_36_21 88 3 0) fun m_43_25 =>
some (0, m_43_25)
set_option maxRecDepth 100000 in
set_option maxHeartbeats 8000000 in
theorem oi_48 (d : Nat) (m : Mem) : Ok SX S_176 (d + 1) m_X9_init 0 [some (.ref 88), some (.int 8), some (.int 5)] [] S_174 m (gi_48 m) := by
  unfold gi_48
  refine ok_aload_n 1 0 dX9_init_0 rfl rfl rfl ?_
  refine ok_objInit 4 (by decide +kernel) dX9_init_1 rfl rfl ml_Encores_Table_3 (Nat.le_of_ble_eq_true rfl) ?_
  refine ok_aload_n 5 0 dX9_init_4 rfl rfl rfl ?_
  refine ok_iconst 6 0 dX9_init_5 rfl rfl ?_
  refine ok_iload_n 7 1 dX9_init_6 rfl rfl rfl ?_
  refine ok_max 10 (by decide +kernel) dX9_init_7 rfl rfl ml_Encores_Table_9 (Nat.le_of_ble_eq_true rfl) ?_
  rw [show (if (0 : Int32) < 8 then (8 : Int32) else 0) = 8 by decide]
  refine ok_putF 13 dX9_init_10 rfl rfl rfl rfl F_Encores_Table_15 (show S_174[88]? = some (9, 4, [none, none, none, none]) from rfl) rfl (Nat.le_of_ble_eq_true rfl) rfl rfl pZ_9_1 rfl rfl ?_
  refine ok_bndME (fun m_10_7 hm_m_10_7 => ?_)
  refine ok_aload_n 14 0 dX9_init_13 rfl rfl rfl ?_
  refine ok_iconst 15 1 dX9_init_14 rfl rfl ?_
  refine ok_iload_n 16 2 dX9_init_15 rfl rfl rfl ?_
  refine ok_max 19 (by decide +kernel) dX9_init_16 rfl rfl ml_Encores_Table_9 (Nat.le_of_ble_eq_true rfl) ?_
  rw [show (if (1 : Int32) < 5 then (5 : Int32) else 1) = 5 by decide]
  refine ok_putF 22 dX9_init_19 rfl rfl rfl rfl F_Encores_Table_21 (show S_174[88]? = some (9, 4, [none, none, none, none]) from rfl) rfl (Nat.le_of_ble_eq_true rfl) rfl rfl pZ_9_2 rfl rfl ?_
  refine ok_bndME (fun m_19_12 hm_m_19_12 => ?_)
  refine ok_aload_n 23 0 dX9_init_22 rfl rfl rfl ?_
  refine ok_iconst 24 0 dX9_init_23 rfl rfl ?_
  refine ok_aload_n 25 0 dX9_init_24 rfl rfl rfl ?_
  refine ok_getI 28 dX9_init_25 rfl rfl F_Encores_Table_15 (show S_174[88]? = some (9, 4, [none, none, none, none]) from rfl) rfl (Nat.le_of_ble_eq_true rfl) rfl ?_
  rw [show m_19_12 88 1 = 8 by subst_vars; rfl]
  refine ok_aload_n 29 0 dX9_init_28 rfl rfl rfl ?_
  refine ok_getI 32 dX9_init_29 rfl rfl F_Encores_Table_21 (show S_174[88]? = some (9, 4, [none, none, none, none]) from rfl) rfl (Nat.le_of_ble_eq_true rfl) rfl ?_
  rw [show m_19_12 88 2 = 5 by subst_vars; rfl]
  refine ok_imul 33 dX9_init_32 rfl ?_
  rw [show (8 * 5 : Int32) = 40 by decide]
  refine ok_max 36 (by decide +kernel) dX9_init_33 rfl rfl ml_Encores_Table_9 (Nat.le_of_ble_eq_true rfl) ?_
  rw [show (if (0 : Int32) < 40 then (40 : Int32) else 0) = 40 by decide]
  refine ok_newa (N := 40) 38 dX9_init_36 rfl (by decide) (by decide) (by decide) (by decide +kernel) (by decide +kernel) rfl (by decide +kernel) ?_
  refine ok_shape (S2 := S_175) rfl ?_
  refine ok_bndME (fun m_36_21 hm_m_36_21 => ?_)
  show Ok _ _ _ _ _ _ (.ref 89 :: _) _ _ _
  refine ok_putFR 41 dX9_init_38 rfl rfl rfl rfl F_Encores_Table_24 (show S_175[88]? = some (9, 4, [none, none, none, none]) from rfl) (Nat.le_of_ble_eq_true rfl) (Nat.le_of_ble_eq_true rfl) rfl rfl pZ_9_0 (fun _ => rfl) (fun _ => rfl) ?_
  refine ok_shape (S2 := S_176) rfl ?_
  refine ok_aload_n 42 0 dX9_init_41 rfl rfl rfl ?_
  refine ok_iconst 43 0 dX9_init_42 rfl rfl ?_
  refine ok_putI 46 dX9_init_43 rfl rfl F_Encores_Table_28 (show S_176[88]? = some (9, 4, [some 89, none, none, none]) from rfl) rfl (Nat.le_of_ble_eq_true rfl) rfl rfl pZ_9_3 rfl rfl ?_
  refine ok_bndME (fun m_43_25 hm_m_43_25 => ?_)
  exact ok_vret dX9_init_46 rfl
theorem ci_48 (d : Nat) (m : Mem) : CM SX (d + 1) m_X9_init S_176 S_174 [.ref 88, .int 8, .int 5] m (gi_48 m) :=
  CM.ofOk km_X9_init (by decide +kernel) (by simp [Value.category]) (Nat.le_of_ble_eq_true rfl) (oi_48 d m)

def gi_49 (m : Mem) : Ans :=
bnd (mset m 90 1 1) fun m_10_7 =>
bnd (mset m_10_7 90 2 7) fun m_19_12 =>
bnd (mnew m_19_12 91) fun m_36_21 =>
bnd (mset m_36_21 90 3 0) fun m_43_25 =>
some (0, m_43_25)
set_option maxRecDepth 100000 in
set_option maxHeartbeats 8000000 in
theorem oi_49 (d : Nat) (m : Mem) : Ok SX S_180 (d + 1) m_X9_init 0 [some (.ref 90), some (.int 1), some (.int 7)] [] S_178 m (gi_49 m) := by
  unfold gi_49
  refine ok_aload_n 1 0 dX9_init_0 rfl rfl rfl ?_
  refine ok_objInit 4 (by decide +kernel) dX9_init_1 rfl rfl ml_Encores_Table_3 (Nat.le_of_ble_eq_true rfl) ?_
  refine ok_aload_n 5 0 dX9_init_4 rfl rfl rfl ?_
  refine ok_iconst 6 0 dX9_init_5 rfl rfl ?_
  refine ok_iload_n 7 1 dX9_init_6 rfl rfl rfl ?_
  refine ok_max 10 (by decide +kernel) dX9_init_7 rfl rfl ml_Encores_Table_9 (Nat.le_of_ble_eq_true rfl) ?_
  rw [show (if (0 : Int32) < 1 then (1 : Int32) else 0) = 1 by decide]
  refine ok_putF 13 dX9_init_10 rfl rfl rfl rfl F_Encores_Table_15 (show S_178[90]? = some (9, 4, [none, none, none, none]) from rfl) rfl (Nat.le_of_ble_eq_true rfl) rfl rfl pZ_9_1 rfl rfl ?_
  refine ok_bndME (fun m_10_7 hm_m_10_7 => ?_)
  refine ok_aload_n 14 0 dX9_init_13 rfl rfl rfl ?_
  refine ok_iconst 15 1 dX9_init_14 rfl rfl ?_
  refine ok_iload_n 16 2 dX9_init_15 rfl rfl rfl ?_
  refine ok_max 19 (by decide +kernel) dX9_init_16 rfl rfl ml_Encores_Table_9 (Nat.le_of_ble_eq_true rfl) ?_
  rw [show (if (1 : Int32) < 7 then (7 : Int32) else 1) = 7 by decide]
  refine ok_putF 22 dX9_init_19 rfl rfl rfl rfl F_Encores_Table_21 (show S_178[90]? = some (9, 4, [none, none, none, none]) from rfl) rfl (Nat.le_of_ble_eq_true rfl) rfl rfl pZ_9_2 rfl rfl ?_
  refine ok_bndME (fun m_19_12 hm_m_19_12 => ?_)
  refine ok_aload_n 23 0 dX9_init_22 rfl rfl rfl ?_
  refine ok_iconst 24 0 dX9_init_23 rfl rfl ?_
  refine ok_aload_n 25 0 dX9_init_24 rfl rfl rfl ?_
  refine ok_getI 28 dX9_init_25 rfl rfl F_Encores_Table_15 (show S_178[90]? = some (9, 4, [none, none, none, none]) from rfl) rfl (Nat.le_of_ble_eq_true rfl) rfl ?_
  rw [show m_19_12 90 1 = 1 by subst_vars; rfl]
  refine ok_aload_n 29 0 dX9_init_28 rfl rfl rfl ?_
  refine ok_getI 32 dX9_init_29 rfl rfl F_Encores_Table_21 (show S_178[90]? = some (9, 4, [none, none, none, none]) from rfl) rfl (Nat.le_of_ble_eq_true rfl) rfl ?_
  rw [show m_19_12 90 2 = 7 by subst_vars; rfl]
  refine ok_imul 33 dX9_init_32 rfl ?_
  rw [show (1 * 7 : Int32) = 7 by decide]
  refine ok_max 36 (by decide +kernel) dX9_init_33 rfl rfl ml_Encores_Table_9 (Nat.le_of_ble_eq_true rfl) ?_
  rw [show (if (0 : Int32) < 7 then (7 : Int32) else 0) = 7 by decide]
  refine ok_newa (N := 7) 38 dX9_init_36 rfl (by decide) (by decide) (by decide) (by decide +kernel) (by decide +kernel) rfl (by decide +kernel) ?_
  refine ok_shape (S2 := S_179) rfl ?_
  refine ok_bndME (fun m_36_21 hm_m_36_21 => ?_)
  show Ok _ _ _ _ _ _ (.ref 91 :: _) _ _ _
  refine ok_putFR 41 dX9_init_38 rfl rfl rfl rfl F_Encores_Table_24 (show S_179[90]? = some (9, 4, [none, none, none, none]) from rfl) (Nat.le_of_ble_eq_true rfl) (Nat.le_of_ble_eq_true rfl) rfl rfl pZ_9_0 (fun _ => rfl) (fun _ => rfl) ?_
  refine ok_shape (S2 := S_180) rfl ?_
  refine ok_aload_n 42 0 dX9_init_41 rfl rfl rfl ?_
  refine ok_iconst 43 0 dX9_init_42 rfl rfl ?_
  refine ok_putI 46 dX9_init_43 rfl rfl F_Encores_Table_28 (show S_180[90]? = some (9, 4, [some 91, none, none, none]) from rfl) rfl (Nat.le_of_ble_eq_true rfl) rfl rfl pZ_9_3 rfl rfl ?_
  refine ok_bndME (fun m_43_25 hm_m_43_25 => ?_)
  exact ok_vret dX9_init_46 rfl
theorem ci_49 (d : Nat) (m : Mem) : CM SX (d + 1) m_X9_init S_180 S_178 [.ref 90, .int 1, .int 7] m (gi_49 m) :=
  CM.ofOk km_X9_init (by decide +kernel) (by simp [Value.category]) (Nat.le_of_ble_eq_true rfl) (oi_49 d m)

def gi_46 (m : Mem) : Ans :=
bnd (mnew m 86) fun m_5_4 =>
bd (gi_47 m_5_4) fun _ m_13_8 =>
bnd (mnew m_13_8 88) fun m_20_11 =>
bd (gi_48 m_20_11) fun _ m_27_15 =>
bnd (mnew m_27_15 90) fun m_34_18 =>
bd (gi_49 m_34_18) fun _ m_41_22 =>
some (0, m_41_22)
set_option maxRecDepth 100000 in
set_option maxHeartbeats 8000000 in
theorem oi_46 (d : Nat) (m : Mem) : Ok SX S_181 (d + 2) m_X3_init 0 [some (.ref 85)] [] S_169 m (gi_46 m) := by
  unfold gi_46
  refine ok_aload_n 1 0 dX3_init_0 rfl rfl rfl ?_
  refine ok_objInit 4 (by decide +kernel) dX3_init_1 rfl rfl ml_Encores_Moment_3 (Nat.le_of_ble_eq_true rfl) ?_
  refine ok_aload_n 5 0 dX3_init_4 rfl rfl rfl ?_
  refine ok_new (ty := ty9) (ci := 9) 8 dX3_init_5 rfl rfl kl_Encores_Moment_9 in_Encores_Table wi_Encores_Table (by decide) rfl ty9_ok dv_9 (by decide +kernel) (by decide +kernel) rfl (by decide +kernel) ?_
  refine ok_shape (S2 := S_170) rfl ?_
  refine ok_bndME (fun m_5_4 hm_m_5_4 => ?_)
  show Ok _ _ _ _ _ _ (.ref 86 :: _) _ _ _
  refine ok_dup 9 dX3_init_8 rfl rfl ?_
  refine ok_bipush 11 12 dX3_init_9 rfl rfl ?_
  refine ok_bipush 13 8 dX3_init_11 rfl rfl ?_
  refine ok_callI (np := 2) (M' := m_X9_init) (As := [.int 12, .int 8]) (st := [.ref 86, .ref 85]) (r := 86) 16 dX3_init_13 rfl rfl km_X9_init ki_X9_init ml_Encores_Moment_11 (by decide) rfl rfl rfl rfl (Nat.le_of_ble_eq_true rfl) (ci_47 (d + 0) m_5_4) (by decide +kernel) (Or.inr (okR_of rfl)) (fun _ m_13_8 _ => ?_)
  refine ok_putFR 19 dX3_init_16 rfl rfl rfl rfl F_Encores_Moment_14 (show S_172[85]? = some (3, 4, [none, none, none, none]) from rfl) (Nat.le_of_ble_eq_true rfl) (Nat.le_of_ble_eq_true rfl) rfl rfl pZ_3_0 (fun _ => rfl) (fun _ => rfl) ?_
  refine ok_shape (S2 := S_173) rfl ?_
  refine ok_aload_n 20 0 dX3_init_19 rfl rfl rfl ?_
  refine ok_new (ty := ty9) (ci := 9) 23 dX3_init_20 rfl rfl kl_Encores_Moment_9 in_Encores_Table wi_Encores_Table (by decide) rfl ty9_ok dv_9 (by decide +kernel) (by decide +kernel) rfl (by decide +kernel) ?_
  refine ok_shape (S2 := S_174) rfl ?_
  refine ok_bndME (fun m_20_11 hm_m_20_11 => ?_)
  show Ok _ _ _ _ _ _ (.ref 88 :: _) _ _ _
  refine ok_dup 24 dX3_init_23 rfl rfl ?_
  refine ok_bipush 26 8 dX3_init_24 rfl rfl ?_
  refine ok_iconst 27 5 dX3_init_26 rfl rfl ?_
  refine ok_callI (np := 2) (M' := m_X9_init) (As := [.int 8, .int 5]) (st := [.ref 88, .ref 85]) (r := 88) 30 dX3_init_27 rfl rfl km_X9_init ki_X9_init ml_Encores_Moment_11 (by decide) rfl rfl rfl rfl (Nat.le_of_ble_eq_true rfl) (ci_48 (d + 0) m_20_11) (by decide +kernel) (Or.inr (okR_of rfl)) (fun _ m_27_15 _ => ?_)
  refine ok_putFR 33 dX3_init_30 rfl rfl rfl rfl F_Encores_Moment_20 (show S_176[85]? = some (3, 4, [some 86, none, none, none]) from rfl) (Nat.le_of_ble_eq_true rfl) (Nat.le_of_ble_eq_true rfl) rfl rfl pZ_3_1 (fun _ => rfl) (fun _ => rfl) ?_
  refine ok_shape (S2 := S_177) rfl ?_
  refine ok_aload_n 34 0 dX3_init_33 rfl rfl rfl ?_
  refine ok_new (ty := ty9) (ci := 9) 37 dX3_init_34 rfl rfl kl_Encores_Moment_9 in_Encores_Table wi_Encores_Table (by decide) rfl ty9_ok dv_9 (by decide +kernel) (by decide +kernel) rfl (by decide +kernel) ?_
  refine ok_shape (S2 := S_178) rfl ?_
  refine ok_bndME (fun m_34_18 hm_m_34_18 => ?_)
  show Ok _ _ _ _ _ _ (.ref 90 :: _) _ _ _
  refine ok_dup 38 dX3_init_37 rfl rfl ?_
  refine ok_iconst 39 1 dX3_init_38 rfl rfl ?_
  refine ok_bipush 41 7 dX3_init_39 rfl rfl ?_
  refine ok_callI (np := 2) (M' := m_X9_init) (As := [.int 1, .int 7]) (st := [.ref 90, .ref 85]) (r := 90) 44 dX3_init_41 rfl rfl km_X9_init ki_X9_init ml_Encores_Moment_11 (by decide) rfl rfl rfl rfl (Nat.le_of_ble_eq_true rfl) (ci_49 (d + 0) m_34_18) (by decide +kernel) (Or.inr (okR_of rfl)) (fun _ m_41_22 _ => ?_)
  refine ok_putFR 47 dX3_init_44 rfl rfl rfl rfl F_Encores_Moment_23 (show S_180[85]? = some (3, 4, [some 86, some 88, none, none]) from rfl) (Nat.le_of_ble_eq_true rfl) (Nat.le_of_ble_eq_true rfl) rfl rfl pZ_3_2 (fun _ => rfl) (fun _ => rfl) ?_
  refine ok_shape (S2 := S_181) rfl ?_
  exact ok_vret dX3_init_47 rfl
theorem ci_46 (d : Nat) (m : Mem) : CM SX (d + 2) m_X3_init S_181 S_169 [.ref 85] m (gi_46 m) :=
  CM.ofOk km_X3_init (by decide +kernel) (by simp [Value.category]) (Nat.le_of_ble_eq_true rfl) (oi_46 d m)

def gi_25 (m : Mem) : Ans :=
bnd (mnew m 49) fun m_7_5 =>
bnd (mnew m_7_5 50) fun m_29_17 =>
bd (gi_26 m_29_17) fun _ m_33_19 =>
bnd (mnew m_33_19 57) fun m_29_31 =>
bd (gi_30 m_29_31) fun _ m_33_33 =>
bnd (mnew m_33_33 64) fun m_29_45 =>
bd (gi_34 m_29_45) fun _ m_33_47 =>
bnd (mnew m_33_47 71) fun m_29_59 =>
bd (gi_38 m_29_59) fun _ m_33_61 =>
bnd (mnew m_33_61 78) fun m_29_73 =>
bd (gi_42 m_29_73) fun _ m_33_75 =>
bnd (mnew m_33_75 85) fun m_29_87 =>
bd (gi_46 m_29_87) fun _ m_33_89 =>
some (0, m_33_89)
set_option maxRecDepth 100000 in
set_option maxHeartbeats 8000000 in
theorem oi_25 (d : Nat) (m : Mem) : Ok SX S_182 (d + 3) m_X4_init 0 [some (.ref 48), none] [] S_96 m (gi_25 m) := by
  unfold gi_25
  refine ok_aload_n 1 0 dX4_init_0 rfl rfl rfl ?_
  refine ok_objInit 4 (by decide +kernel) dX4_init_1 rfl rfl ml_Encores_Past_3 (Nat.le_of_ble_eq_true rfl) ?_
  refine ok_aload_n 5 0 dX4_init_4 rfl rfl rfl ?_
  refine ok_bipush 7 6 dX4_init_5 rfl rfl ?_
  refine ok_newq (N := 6) 10 dX4_init_7 rfl rfl kl_Encores_Past_9 (by decide) (by decide) (by decide) (by decide +kernel) (by decide +kernel) rfl (by decide +kernel) ?_
  refine ok_shape (S2 := S_97) rfl ?_
  refine ok_bndME (fun m_7_5 hm_m_7_5 => ?_)
  show Ok _ _ _ _ _ _ (.ref 49 :: _) _ _ _
  refine ok_putFR 13 dX4_init_10 rfl rfl rfl rfl F_Encores_Past_11 (show S_97[48]? = some (4, 3, [none, none, none]) from rfl) (Nat.le_of_ble_eq_true rfl) (Nat.le_of_ble_eq_true rfl) rfl rfl pZ_4_0 (fun _ => rfl) (fun _ => rfl) ?_
  refine ok_shape (S2 := S_98) rfl ?_
  refine ok_iconst 14 0 dX4_init_13 rfl rfl ?_
  refine ok_istore_n 15 1 [some (.ref 48), some (.int 0)] dX4_init_14 rfl rfl (by decide) rfl ?_
  refine ok_iload_n 16 1 dX4_init_15 rfl rfl rfl ?_
  refine ok_aload_n 17 0 dX4_init_16 rfl rfl rfl ?_
  refine ok_getR 20 dX4_init_17 rfl rfl F_Encores_Past_11 (show S_98[48]? = some (4, 3, [some 49, none, none]) from rfl) rfl (Nat.le_of_ble_eq_true rfl) rfl rfl ?_
  refine ok_alenR 21 dX4_init_20 rfl (show S_98[49]? = some (101, 6, [none, none, none, none, none, none]) from rfl) ?_
  rw [show Int32.ofNat 6 = 6 from rfl]
  refine ok_eqx (if_neg (by decide : ¬ (6 : Int32) ≤ 0)) (ok_icmp_ge (x1 := none) 43 24 dX4_init_21 (by decide) rfl (fun _ => Ok.none) (fun _ => ?_))
  refine ok_aload_n 25 0 dX4_init_24 rfl rfl rfl ?_
  refine ok_getR 28 dX4_init_25 rfl rfl F_Encores_Past_11 (show S_98[48]? = some (4, 3, [some 49, none, none]) from rfl) rfl (Nat.le_of_ble_eq_true rfl) rfl rfl ?_
  refine ok_iload_n 29 1 dX4_init_28 rfl rfl rfl ?_
  refine ok_new (ty := ty3) (ci := 3) 32 dX4_init_29 rfl rfl kl_Encores_Past_9 in_Encores_Moment wi_Encores_Moment (by decide) rfl ty3_ok dv_3 (by decide +kernel) (by decide +kernel) rfl (by decide +kernel) ?_
  refine ok_shape (S2 := S_99) rfl ?_
  refine ok_bndME (fun m_29_17 hm_m_29_17 => ?_)
  show Ok _ _ _ _ _ _ (.ref 50 :: _) _ _ _
  refine ok_dup 33 dX4_init_32 rfl rfl ?_
  refine ok_callIN (np := 0) (M' := m_X3_init) (As := []) (st := [.ref 50, .int 0, .ref 49]) (r := 50) 36 2 dX4_init_33 rfl rfl km_X3_init ki_X3_init rfl (by decide) rfl rfl rfl rfl (Nat.le_of_ble_eq_true rfl) (ci_26 (d + 0) m_29_17) (by decide +kernel) (Or.inr (okR_of rfl)) (fun _ m_33_19 _ => ?_)
  refine ok_aast 37 0 dX4_init_36 rfl (show S_111[49]? = some (101, 6, [none, none, none, none, none, none]) from rfl) (show S_111[50]? = some (3, 4, [some 51, some 53, some 55, none]) from rfl) rfl (by decide) (by decide) (Nat.le_of_ble_eq_true rfl) ?_
  refine ok_shape (S2 := S_112) rfl ?_
  refine ok_iinc 40 1 1 [some (.ref 48), some (.int 1)] dX4_init_37 rfl rfl rfl (by decide) rfl ?_
  refine ok_goto 15 dX4_init_40 (by decide) ?_
  refine ok_iload_n 16 1 dX4_init_15 rfl rfl rfl ?_
  refine ok_aload_n 17 0 dX4_init_16 rfl rfl rfl ?_
  refine ok_getR 20 dX4_init_17 rfl rfl F_Encores_Past_11 (show S_112[48]? = some (4, 3, [some 49, none, none]) from rfl) rfl (Nat.le_of_ble_eq_true rfl) rfl rfl ?_
  refine ok_alenR 21 dX4_init_20 rfl (show S_112[49]? = some (101, 6, [some 50, none, none, none, none, none]) from rfl) ?_
  rw [show Int32.ofNat 6 = 6 from rfl]
  refine ok_eqx (if_neg (by decide : ¬ (6 : Int32) ≤ 1)) (ok_icmp_ge (x1 := none) 43 24 dX4_init_21 (by decide) rfl (fun _ => Ok.none) (fun _ => ?_))
  refine ok_aload_n 25 0 dX4_init_24 rfl rfl rfl ?_
  refine ok_getR 28 dX4_init_25 rfl rfl F_Encores_Past_11 (show S_112[48]? = some (4, 3, [some 49, none, none]) from rfl) rfl (Nat.le_of_ble_eq_true rfl) rfl rfl ?_
  refine ok_iload_n 29 1 dX4_init_28 rfl rfl rfl ?_
  refine ok_new (ty := ty3) (ci := 3) 32 dX4_init_29 rfl rfl kl_Encores_Past_9 in_Encores_Moment wi_Encores_Moment (by decide) rfl ty3_ok dv_3 (by decide +kernel) (by decide +kernel) rfl (by decide +kernel) ?_
  refine ok_shape (S2 := S_113) rfl ?_
  refine ok_bndME (fun m_29_31 hm_m_29_31 => ?_)
  show Ok _ _ _ _ _ _ (.ref 57 :: _) _ _ _
  refine ok_dup 33 dX4_init_32 rfl rfl ?_
  refine ok_callIN (np := 0) (M' := m_X3_init) (As := []) (st := [.ref 57, .int 1, .ref 49]) (r := 57) 36 2 dX4_init_33 rfl rfl km_X3_init ki_X3_init rfl (by decide) rfl rfl rfl rfl (Nat.le_of_ble_eq_true rfl) (ci_30 (d + 0) m_29_31) (by decide +kernel) (Or.inr (okR_of rfl)) (fun _ m_33_33 _ => ?_)
  refine ok_aast 37 1 dX4_init_36 rfl (show S_125[49]? = some (101, 6, [some 50, none, none, none, none, none]) from rfl) (show S_125[57]? = some (3, 4, [some 58, some 60, some 62, none]) from rfl) rfl (by decide) (by decide) (Nat.le_of_ble_eq_true rfl) ?_
  refine ok_shape (S2 := S_126) rfl ?_
  refine ok_iinc 40 1 1 [some (.ref 48), some (.int 2)] dX4_init_37 rfl rfl rfl (by decide) rfl ?_
  refine ok_goto 15 dX4_init_40 (by decide) ?_
  refine ok_iload_n 16 1 dX4_init_15 rfl rfl rfl ?_
  refine ok_aload_n 17 0 dX4_init_16 rfl rfl rfl ?_
  refine ok_getR 20 dX4_init_17 rfl rfl F_Encores_Past_11 (show S_126[48]? = some (4, 3, [some 49, none, none]) from rfl) rfl (Nat.le_of_ble_eq_true rfl) rfl rfl ?_
  refine ok_alenR 21 dX4_init_20 rfl (show S_126[49]? = some (101, 6, [some 50, some 57, none, none, none, none]) from rfl) ?_
  rw [show Int32.ofNat 6 = 6 from rfl]
  refine ok_eqx (if_neg (by decide : ¬ (6 : Int32) ≤ 2)) (ok_icmp_ge (x1 := none) 43 24 dX4_init_21 (by decide) rfl (fun _ => Ok.none) (fun _ => ?_))
  refine ok_aload_n 25 0 dX4_init_24 rfl rfl rfl ?_
  refine ok_getR 28 dX4_init_25 rfl rfl F_Encores_Past_11 (show S_126[48]? = some (4, 3, [some 49, none, none]) from rfl) rfl (Nat.le_of_ble_eq_true rfl) rfl rfl ?_
  refine ok_iload_n 29 1 dX4_init_28 rfl rfl rfl ?_
  refine ok_new (ty := ty3) (ci := 3) 32 dX4_init_29 rfl rfl kl_Encores_Past_9 in_Encores_Moment wi_Encores_Moment (by decide) rfl ty3_ok dv_3 (by decide +kernel) (by decide +kernel) rfl (by decide +kernel) ?_
  refine ok_shape (S2 := S_127) rfl ?_
  refine ok_bndME (fun m_29_45 hm_m_29_45 => ?_)
  show Ok _ _ _ _ _ _ (.ref 64 :: _) _ _ _
  refine ok_dup 33 dX4_init_32 rfl rfl ?_
  refine ok_callIN (np := 0) (M' := m_X3_init) (As := []) (st := [.ref 64, .int 2, .ref 49]) (r := 64) 36 2 dX4_init_33 rfl rfl km_X3_init ki_X3_init rfl (by decide) rfl rfl rfl rfl (Nat.le_of_ble_eq_true rfl) (ci_34 (d + 0) m_29_45) (by decide +kernel) (Or.inr (okR_of rfl)) (fun _ m_33_47 _ => ?_)
  refine ok_aast 37 2 dX4_init_36 rfl (show S_139[49]? = some (101, 6, [some 50, some 57, none, none, none, none]) from rfl) (show S_139[64]? = some (3, 4, [some 65, some 67, some 69, none]) from rfl) rfl (by decide) (by decide) (Nat.le_of_ble_eq_true rfl) ?_
  refine ok_shape (S2 := S_140) rfl ?_
  refine ok_iinc 40 1 1 [some (.ref 48), some (.int 3)] dX4_init_37 rfl rfl rfl (by decide) rfl ?_
  refine ok_goto 15 dX4_init_40 (by decide) ?_
  refine ok_iload_n 16 1 dX4_init_15 rfl rfl rfl ?_
  refine ok_aload_n 17 0 dX4_init_16 rfl rfl rfl ?_
  refine ok_getR 20 dX4_init_17 rfl rfl F_Encores_Past_11 (show S_140[48]? = some (4, 3, [some 49, none, none]) from rfl) rfl (Nat.le_of_ble_eq_true rfl) rfl rfl ?_
  refine ok_alenR 21 dX4_init_20 rfl (show S_140[49]? = some (101, 6, [some 50, some 57, some 64, none, none, none]) from rfl) ?_
  rw [show Int32.ofNat 6 = 6 from rfl]
  refine ok_eqx (if_neg (by decide : ¬ (6 : Int32) ≤ 3)) (ok_icmp_ge (x1 := none) 43 24 dX4_init_21 (by decide) rfl (fun _ => Ok.none) (fun _ => ?_))
  refine ok_aload_n 25 0 dX4_init_24 rfl rfl rfl ?_
  refine ok_getR 28 dX4_init_25 rfl rfl F_Encores_Past_11 (show S_140[48]? = some (4, 3, [some 49, none, none]) from rfl) rfl (Nat.le_of_ble_eq_true rfl) rfl rfl ?_
  refine ok_iload_n 29 1 dX4_init_28 rfl rfl rfl ?_
  refine ok_new (ty := ty3) (ci := 3) 32 dX4_init_29 rfl rfl kl_Encores_Past_9 in_Encores_Moment wi_Encores_Moment (by decide) rfl ty3_ok dv_3 (by decide +kernel) (by decide +kernel) rfl (by decide +kernel) ?_
  refine ok_shape (S2 := S_141) rfl ?_
  refine ok_bndME (fun m_29_59 hm_m_29_59 => ?_)
  show Ok _ _ _ _ _ _ (.ref 71 :: _) _ _ _
  refine ok_dup 33 dX4_init_32 rfl rfl ?_
  refine ok_callIN (np := 0) (M' := m_X3_init) (As := []) (st := [.ref 71, .int 3, .ref 49]) (r := 71) 36 2 dX4_init_33 rfl rfl km_X3_init ki_X3_init rfl (by decide) rfl rfl rfl rfl (Nat.le_of_ble_eq_true rfl) (ci_38 (d + 0) m_29_59) (by decide +kernel) (Or.inr (okR_of rfl)) (fun _ m_33_61 _ => ?_)
  refine ok_aast 37 3 dX4_init_36 rfl (show S_153[49]? = some (101, 6, [some 50, some 57, some 64, none, none, none]) from rfl) (show S_153[71]? = some (3, 4, [some 72, some 74, some 76, none]) from rfl) rfl (by decide) (by decide) (Nat.le_of_ble_eq_true rfl) ?_
  refine ok_shape (S2 := S_154) rfl ?_
  refine ok_iinc 40 1 1 [some (.ref 48), some (.int 4)] dX4_init_37 rfl rfl rfl (by decide) rfl ?_
  refine ok_goto 15 dX4_init_40 (by decide) ?_
  refine ok_iload_n 16 1 dX4_init_15 rfl rfl rfl ?_
  refine ok_aload_n 17 0 dX4_init_16 rfl rfl rfl ?_
  refine ok_getR 20 dX4_init_17 rfl rfl F_Encores_Past_11 (show S_154[48]? = some (4, 3, [some 49, none, none]) from rfl) rfl (Nat.le_of_ble_eq_true rfl) rfl rfl ?_
  refine ok_alenR 21 dX4_init_20 rfl (show S_154[49]? = some (101, 6, [some 50, some 57, some 64, some 71, none, none]) from rfl) ?_
  rw [show Int32.ofNat 6 = 6 from rfl]
  refine ok_eqx (if_neg (by decide : ¬ (6 : Int32) ≤ 4)) (ok_icmp_ge (x1 := none) 43 24 dX4_init_21 (by decide) rfl (fun _ => Ok.none) (fun _ => ?_))
  refine ok_aload_n 25 0 dX4_init_24 rfl rfl rfl ?_
  refine ok_getR 28 dX4_init_25 rfl rfl F_Encores_Past_11 (show S_154[48]? = some (4, 3, [some 49, none, none]) from rfl) rfl (Nat.le_of_ble_eq_true rfl) rfl rfl ?_
  refine ok_iload_n 29 1 dX4_init_28 rfl rfl rfl ?_
  refine ok_new (ty := ty3) (ci := 3) 32 dX4_init_29 rfl rfl kl_Encores_Past_9 in_Encores_Moment wi_Encores_Moment (by decide) rfl ty3_ok dv_3 (by decide +kernel) (by decide +kernel) rfl (by decide +kernel) ?_
  refine ok_shape (S2 := S_155) rfl ?_
  refine ok_bndME (fun m_29_73 hm_m_29_73 => ?_)
  show Ok _ _ _ _ _ _ (.ref 78 :: _) _ _ _
  refine ok_dup 33 dX4_init_32 rfl rfl ?_
  refine ok_callIN (np := 0) (M' := m_X3_init) (As := []) (st := [.ref 78, .int 4, .ref 49]) (r := 78) 36 2 dX4_init_33 rfl rfl km_X3_init ki_X3_init rfl (by decide) rfl rfl rfl rfl (Nat.le_of_ble_eq_true rfl) (ci_42 (d + 0) m_29_73) (by decide +kernel) (Or.inr (okR_of rfl)) (fun _ m_33_75 _ => ?_)
  refine ok_aast 37 4 dX4_init_36 rfl (show S_167[49]? = some (101, 6, [some 50, some 57, some 64, some 71, none, none]) from rfl) (show S_167[78]? = some (3, 4, [some 79, some 81, some 83, none]) from rfl) rfl (by decide) (by decide) (Nat.le_of_ble_eq_true rfl) ?_
  refine ok_shape (S2 := S_168) rfl ?_
  refine ok_iinc 40 1 1 [some (.ref 48), some (.int 5)] dX4_init_37 rfl rfl rfl (by decide) rfl ?_
  refine ok_goto 15 dX4_init_40 (by decide) ?_
  refine ok_iload_n 16 1 dX4_init_15 rfl rfl rfl ?_
  refine ok_aload_n 17 0 dX4_init_16 rfl rfl rfl ?_
  refine ok_getR 20 dX4_init_17 rfl rfl F_Encores_Past_11 (show S_168[48]? = some (4, 3, [some 49, none, none]) from rfl) rfl (Nat.le_of_ble_eq_true rfl) rfl rfl ?_
  refine ok_alenR 21 dX4_init_20 rfl (show S_168[49]? = some (101, 6, [some 50, some 57, some 64, some 71, some 78, none]) from rfl) ?_
  rw [show Int32.ofNat 6 = 6 from rfl]
  refine ok_eqx (if_neg (by decide : ¬ (6 : Int32) ≤ 5)) (ok_icmp_ge (x1 := none) 43 24 dX4_init_21 (by decide) rfl (fun _ => Ok.none) (fun _ => ?_))
  refine ok_aload_n 25 0 dX4_init_24 rfl rfl rfl ?_
  refine ok_getR 28 dX4_init_25 rfl rfl F_Encores_Past_11 (show S_168[48]? = some (4, 3, [some 49, none, none]) from rfl) rfl (Nat.le_of_ble_eq_true rfl) rfl rfl ?_
  refine ok_iload_n 29 1 dX4_init_28 rfl rfl rfl ?_
  refine ok_new (ty := ty3) (ci := 3) 32 dX4_init_29 rfl rfl kl_Encores_Past_9 in_Encores_Moment wi_Encores_Moment (by decide) rfl ty3_ok dv_3 (by decide +kernel) (by decide +kernel) rfl (by decide +kernel) ?_
  refine ok_shape (S2 := S_169) rfl ?_
  refine ok_bndME (fun m_29_87 hm_m_29_87 => ?_)
  show Ok _ _ _ _ _ _ (.ref 85 :: _) _ _ _
  refine ok_dup 33 dX4_init_32 rfl rfl ?_
  refine ok_callIN (np := 0) (M' := m_X3_init) (As := []) (st := [.ref 85, .int 5, .ref 49]) (r := 85) 36 2 dX4_init_33 rfl rfl km_X3_init ki_X3_init rfl (by decide) rfl rfl rfl rfl (Nat.le_of_ble_eq_true rfl) (ci_46 (d + 0) m_29_87) (by decide +kernel) (Or.inr (okR_of rfl)) (fun _ m_33_89 _ => ?_)
  refine ok_aast 37 5 dX4_init_36 rfl (show S_181[49]? = some (101, 6, [some 50, some 57, some 64, some 71, some 78, none]) from rfl) (show S_181[85]? = some (3, 4, [some 86, some 88, some 90, none]) from rfl) rfl (by decide) (by decide) (Nat.le_of_ble_eq_true rfl) ?_
  refine ok_shape (S2 := S_182) rfl ?_
  refine ok_iinc 40 1 1 [some (.ref 48), some (.int 6)] dX4_init_37 rfl rfl rfl (by decide) rfl ?_
  refine ok_goto 15 dX4_init_40 (by decide) ?_
  refine ok_iload_n 16 1 dX4_init_15 rfl rfl rfl ?_
  refine ok_aload_n 17 0 dX4_init_16 rfl rfl rfl ?_
  refine ok_getR 20 dX4_init_17 rfl rfl F_Encores_Past_11 (show S_182[48]? = some (4, 3, [some 49, none, none]) from rfl) rfl (Nat.le_of_ble_eq_true rfl) rfl rfl ?_
  refine ok_alenR 21 dX4_init_20 rfl (show S_182[49]? = some (101, 6, [some 50, some 57, some 64, some 71, some 78, some 85]) from rfl) ?_
  rw [show Int32.ofNat 6 = 6 from rfl]
  refine ok_eqx (if_pos (by decide : (6 : Int32) ≤ 6)) (ok_icmp_ge (x2 := none) 43 24 dX4_init_21 (by decide) rfl (fun _ => ?_) (fun _ => Ok.none))
  exact ok_vret dX4_init_43 rfl
theorem ci_25 (d : Nat) (m : Mem) : CM SX (d + 3) m_X4_init S_182 S_96 [.ref 48] m (gi_25 m) :=
  CM.ofOk km_X4_init (by decide +kernel) (by simp [Value.category]) (Nat.le_of_ble_eq_true rfl) (oi_25 d m)

def gi_51 (m : Mem) : Ans :=
bnd (mset m 93 1 12) fun m_10_7 =>
bnd (mset m_10_7 93 2 8) fun m_19_12 =>
bnd (mnew m_19_12 94) fun m_36_21 =>
bnd (mset m_36_21 93 3 0) fun m_43_25 =>
some (0, m_43_25)
set_option maxRecDepth 100000 in
set_option maxHeartbeats 8000000 in
theorem oi_51 (d : Nat) (m : Mem) : Ok SX S_187 (d + 1) m_X9_init 0 [some (.ref 93), some (.int 12), some (.int 8)] [] S_185 m (gi_51 m) := by
  unfold gi_51
  refine ok_aload_n 1 0 dX9_init_0 rfl rfl rfl ?_
  refine ok_objInit 4 (by decide +kernel) dX9_init_1 rfl rfl ml_Encores_Table_3 (Nat.le_of_ble_eq_true rfl) ?_
  refine ok_aload_n 5 0 dX9_init_4 rfl rfl rfl ?_
  refine ok_iconst 6 0 dX9_init_5 rfl rfl ?_
  refine ok_iload_n 7 1 dX9_init_6 rfl rfl rfl ?_
  refine ok_max 10 (by decide +kernel) dX9_init_7 rfl rfl ml_Encores_Table_9 (Nat.le_of_ble_eq_true rfl) ?_
  rw [show (if (0 : Int32) < 12 then (12 : Int32) else 0) = 12 by decide]
  refine ok_putF 13 dX9_init_10 rfl rfl rfl rfl F_Encores_Table_15 (show S_185[93]? = some (9, 4, [none, none, none, none]) from rfl) rfl (Nat.le_of_ble_eq_true rfl) rfl rfl pZ_9_1 rfl rfl ?_
  refine ok_bndME (fun m_10_7 hm_m_10_7 => ?_)
  refine ok_aload_n 14 0 dX9_init_13 rfl rfl rfl ?_
  refine ok_iconst 15 1 dX9_init_14 rfl rfl ?_
  refine ok_iload_n 16 2 dX9_init_15 rfl rfl rfl ?_
  refine ok_max 19 (by decide +kernel) dX9_init_16 rfl rfl ml_Encores_Table_9 (Nat.le_of_ble_eq_true rfl) ?_
  rw [show (if (1 : Int32) < 8 then (8 : Int32) else 1) = 8 by decide]
  refine ok_putF 22 dX9_init_19 rfl rfl rfl rfl F_Encores_Table_21 (show S_185[93]? = some (9, 4, [none, none, none, none]) from rfl) rfl (Nat.le_of_ble_eq_true rfl) rfl rfl pZ_9_2 rfl rfl ?_
  refine ok_bndME (fun m_19_12 hm_m_19_12 => ?_)
  refine ok_aload_n 23 0 dX9_init_22 rfl rfl rfl ?_
  refine ok_iconst 24 0 dX9_init_23 rfl rfl ?_
  refine ok_aload_n 25 0 dX9_init_24 rfl rfl rfl ?_
  refine ok_getI 28 dX9_init_25 rfl rfl F_Encores_Table_15 (show S_185[93]? = some (9, 4, [none, none, none, none]) from rfl) rfl (Nat.le_of_ble_eq_true rfl) rfl ?_
  rw [show m_19_12 93 1 = 12 by subst_vars; rfl]
  refine ok_aload_n 29 0 dX9_init_28 rfl rfl rfl ?_
  refine ok_getI 32 dX9_init_29 rfl rfl F_Encores_Table_21 (show S_185[93]? = some (9, 4, [none, none, none, none]) from rfl) rfl (Nat.le_of_ble_eq_true rfl) rfl ?_
  rw [show m_19_12 93 2 = 8 by subst_vars; rfl]
  refine ok_imul 33 dX9_init_32 rfl ?_
  rw [show (12 * 8 : Int32) = 96 by decide]
  refine ok_max 36 (by decide +kernel) dX9_init_33 rfl rfl ml_Encores_Table_9 (Nat.le_of_ble_eq_true rfl) ?_
  rw [show (if (0 : Int32) < 96 then (96 : Int32) else 0) = 96 by decide]
  refine ok_newa (N := 96) 38 dX9_init_36 rfl (by decide) (by decide) (by decide) (by decide +kernel) (by decide +kernel) rfl (by decide +kernel) ?_
  refine ok_shape (S2 := S_186) rfl ?_
  refine ok_bndME (fun m_36_21 hm_m_36_21 => ?_)
  show Ok _ _ _ _ _ _ (.ref 94 :: _) _ _ _
  refine ok_putFR 41 dX9_init_38 rfl rfl rfl rfl F_Encores_Table_24 (show S_186[93]? = some (9, 4, [none, none, none, none]) from rfl) (Nat.le_of_ble_eq_true rfl) (Nat.le_of_ble_eq_true rfl) rfl rfl pZ_9_0 (fun _ => rfl) (fun _ => rfl) ?_
  refine ok_shape (S2 := S_187) rfl ?_
  refine ok_aload_n 42 0 dX9_init_41 rfl rfl rfl ?_
  refine ok_iconst 43 0 dX9_init_42 rfl rfl ?_
  refine ok_putI 46 dX9_init_43 rfl rfl F_Encores_Table_28 (show S_187[93]? = some (9, 4, [some 94, none, none, none]) from rfl) rfl (Nat.le_of_ble_eq_true rfl) rfl rfl pZ_9_3 rfl rfl ?_
  refine ok_bndME (fun m_43_25 hm_m_43_25 => ?_)
  exact ok_vret dX9_init_46 rfl
theorem ci_51 (d : Nat) (m : Mem) : CM SX (d + 1) m_X9_init S_187 S_185 [.ref 93, .int 12, .int 8] m (gi_51 m) :=
  CM.ofOk km_X9_init (by decide +kernel) (by simp [Value.category]) (Nat.le_of_ble_eq_true rfl) (oi_51 d m)

def gi_52 (m : Mem) : Ans :=
bnd (mset m 95 1 8) fun m_10_7 =>
bnd (mset m_10_7 95 2 5) fun m_19_12 =>
bnd (mnew m_19_12 96) fun m_36_21 =>
bnd (mset m_36_21 95 3 0) fun m_43_25 =>
some (0, m_43_25)
set_option maxRecDepth 100000 in
set_option maxHeartbeats 8000000 in
theorem oi_52 (d : Nat) (m : Mem) : Ok SX S_191 (d + 1) m_X9_init 0 [some (.ref 95), some (.int 8), some (.int 5)] [] S_189 m (gi_52 m) := by
  unfold gi_52
  refine ok_aload_n 1 0 dX9_init_0 rfl rfl rfl ?_
  refine ok_objInit 4 (by decide +kernel) dX9_init_1 rfl rfl ml_Encores_Table_3 (Nat.le_of_ble_eq_true rfl) ?_
  refine ok_aload_n 5 0 dX9_init_4 rfl rfl rfl ?_
  refine ok_iconst 6 0 dX9_init_5 rfl rfl ?_
  refine ok_iload_n 7 1 dX9_init_6 rfl rfl rfl ?_
  refine ok_max 10 (by decide +kernel) dX9_init_7 rfl rfl ml_Encores_Table_9 (Nat.le_of_ble_eq_true rfl) ?_
  rw [show (if (0 : Int32) < 8 then (8 : Int32) else 0) = 8 by decide]
  refine ok_putF 13 dX9_init_10 rfl rfl rfl rfl F_Encores_Table_15 (show S_189[95]? = some (9, 4, [none, none, none, none]) from rfl) rfl (Nat.le_of_ble_eq_true rfl) rfl rfl pZ_9_1 rfl rfl ?_
  refine ok_bndME (fun m_10_7 hm_m_10_7 => ?_)
  refine ok_aload_n 14 0 dX9_init_13 rfl rfl rfl ?_
  refine ok_iconst 15 1 dX9_init_14 rfl rfl ?_
  refine ok_iload_n 16 2 dX9_init_15 rfl rfl rfl ?_
  refine ok_max 19 (by decide +kernel) dX9_init_16 rfl rfl ml_Encores_Table_9 (Nat.le_of_ble_eq_true rfl) ?_
  rw [show (if (1 : Int32) < 5 then (5 : Int32) else 1) = 5 by decide]
  refine ok_putF 22 dX9_init_19 rfl rfl rfl rfl F_Encores_Table_21 (show S_189[95]? = some (9, 4, [none, none, none, none]) from rfl) rfl (Nat.le_of_ble_eq_true rfl) rfl rfl pZ_9_2 rfl rfl ?_
  refine ok_bndME (fun m_19_12 hm_m_19_12 => ?_)
  refine ok_aload_n 23 0 dX9_init_22 rfl rfl rfl ?_
  refine ok_iconst 24 0 dX9_init_23 rfl rfl ?_
  refine ok_aload_n 25 0 dX9_init_24 rfl rfl rfl ?_
  refine ok_getI 28 dX9_init_25 rfl rfl F_Encores_Table_15 (show S_189[95]? = some (9, 4, [none, none, none, none]) from rfl) rfl (Nat.le_of_ble_eq_true rfl) rfl ?_
  rw [show m_19_12 95 1 = 8 by subst_vars; rfl]
  refine ok_aload_n 29 0 dX9_init_28 rfl rfl rfl ?_
  refine ok_getI 32 dX9_init_29 rfl rfl F_Encores_Table_21 (show S_189[95]? = some (9, 4, [none, none, none, none]) from rfl) rfl (Nat.le_of_ble_eq_true rfl) rfl ?_
  rw [show m_19_12 95 2 = 5 by subst_vars; rfl]
  refine ok_imul 33 dX9_init_32 rfl ?_
  rw [show (8 * 5 : Int32) = 40 by decide]
  refine ok_max 36 (by decide +kernel) dX9_init_33 rfl rfl ml_Encores_Table_9 (Nat.le_of_ble_eq_true rfl) ?_
  rw [show (if (0 : Int32) < 40 then (40 : Int32) else 0) = 40 by decide]
  refine ok_newa (N := 40) 38 dX9_init_36 rfl (by decide) (by decide) (by decide) (by decide +kernel) (by decide +kernel) rfl (by decide +kernel) ?_
  refine ok_shape (S2 := S_190) rfl ?_
  refine ok_bndME (fun m_36_21 hm_m_36_21 => ?_)
  show Ok _ _ _ _ _ _ (.ref 96 :: _) _ _ _
  refine ok_putFR 41 dX9_init_38 rfl rfl rfl rfl F_Encores_Table_24 (show S_190[95]? = some (9, 4, [none, none, none, none]) from rfl) (Nat.le_of_ble_eq_true rfl) (Nat.le_of_ble_eq_true rfl) rfl rfl pZ_9_0 (fun _ => rfl) (fun _ => rfl) ?_
  refine ok_shape (S2 := S_191) rfl ?_
  refine ok_aload_n 42 0 dX9_init_41 rfl rfl rfl ?_
  refine ok_iconst 43 0 dX9_init_42 rfl rfl ?_
  refine ok_putI 46 dX9_init_43 rfl rfl F_Encores_Table_28 (show S_191[95]? = some (9, 4, [some 96, none, none, none]) from rfl) rfl (Nat.le_of_ble_eq_true rfl) rfl rfl pZ_9_3 rfl rfl ?_
  refine ok_bndME (fun m_43_25 hm_m_43_25 => ?_)
  exact ok_vret dX9_init_46 rfl
theorem ci_52 (d : Nat) (m : Mem) : CM SX (d + 1) m_X9_init S_191 S_189 [.ref 95, .int 8, .int 5] m (gi_52 m) :=
  CM.ofOk km_X9_init (by decide +kernel) (by simp [Value.category]) (Nat.le_of_ble_eq_true rfl) (oi_52 d m)

def gi_53 (m : Mem) : Ans :=
bnd (mset m 97 1 1) fun m_10_7 =>
bnd (mset m_10_7 97 2 7) fun m_19_12 =>
bnd (mnew m_19_12 98) fun m_36_21 =>
bnd (mset m_36_21 97 3 0) fun m_43_25 =>
some (0, m_43_25)
set_option maxRecDepth 100000 in
set_option maxHeartbeats 8000000 in
theorem oi_53 (d : Nat) (m : Mem) : Ok SX S_195 (d + 1) m_X9_init 0 [some (.ref 97), some (.int 1), some (.int 7)] [] S_193 m (gi_53 m) := by
  unfold gi_53
  refine ok_aload_n 1 0 dX9_init_0 rfl rfl rfl ?_
  refine ok_objInit 4 (by decide +kernel) dX9_init_1 rfl rfl ml_Encores_Table_3 (Nat.le_of_ble_eq_true rfl) ?_
  refine ok_aload_n 5 0 dX9_init_4 rfl rfl rfl ?_
  refine ok_iconst 6 0 dX9_init_5 rfl rfl ?_
  refine ok_iload_n 7 1 dX9_init_6 rfl rfl rfl ?_
  refine ok_max 10 (by decide +kernel) dX9_init_7 rfl rfl ml_Encores_Table_9 (Nat.le_of_ble_eq_true rfl) ?_
  rw [show (if (0 : Int32) < 1 then (1 : Int32) else 0) = 1 by decide]
  refine ok_putF 13 dX9_init_10 rfl rfl rfl rfl F_Encores_Table_15 (show S_193[97]? = some (9, 4, [none, none, none, none]) from rfl) rfl (Nat.le_of_ble_eq_true rfl) rfl rfl pZ_9_1 rfl rfl ?_
  refine ok_bndME (fun m_10_7 hm_m_10_7 => ?_)
  refine ok_aload_n 14 0 dX9_init_13 rfl rfl rfl ?_
  refine ok_iconst 15 1 dX9_init_14 rfl rfl ?_
  refine ok_iload_n 16 2 dX9_init_15 rfl rfl rfl ?_
  refine ok_max 19 (by decide +kernel) dX9_init_16 rfl rfl ml_Encores_Table_9 (Nat.le_of_ble_eq_true rfl) ?_
  rw [show (if (1 : Int32) < 7 then (7 : Int32) else 1) = 7 by decide]
  refine ok_putF 22 dX9_init_19 rfl rfl rfl rfl F_Encores_Table_21 (show S_193[97]? = some (9, 4, [none, none, none, none]) from rfl) rfl (Nat.le_of_ble_eq_true rfl) rfl rfl pZ_9_2 rfl rfl ?_
  refine ok_bndME (fun m_19_12 hm_m_19_12 => ?_)
  refine ok_aload_n 23 0 dX9_init_22 rfl rfl rfl ?_
  refine ok_iconst 24 0 dX9_init_23 rfl rfl ?_
  refine ok_aload_n 25 0 dX9_init_24 rfl rfl rfl ?_
  refine ok_getI 28 dX9_init_25 rfl rfl F_Encores_Table_15 (show S_193[97]? = some (9, 4, [none, none, none, none]) from rfl) rfl (Nat.le_of_ble_eq_true rfl) rfl ?_
  rw [show m_19_12 97 1 = 1 by subst_vars; rfl]
  refine ok_aload_n 29 0 dX9_init_28 rfl rfl rfl ?_
  refine ok_getI 32 dX9_init_29 rfl rfl F_Encores_Table_21 (show S_193[97]? = some (9, 4, [none, none, none, none]) from rfl) rfl (Nat.le_of_ble_eq_true rfl) rfl ?_
  rw [show m_19_12 97 2 = 7 by subst_vars; rfl]
  refine ok_imul 33 dX9_init_32 rfl ?_
  rw [show (1 * 7 : Int32) = 7 by decide]
  refine ok_max 36 (by decide +kernel) dX9_init_33 rfl rfl ml_Encores_Table_9 (Nat.le_of_ble_eq_true rfl) ?_
  rw [show (if (0 : Int32) < 7 then (7 : Int32) else 0) = 7 by decide]
  refine ok_newa (N := 7) 38 dX9_init_36 rfl (by decide) (by decide) (by decide) (by decide +kernel) (by decide +kernel) rfl (by decide +kernel) ?_
  refine ok_shape (S2 := S_194) rfl ?_
  refine ok_bndME (fun m_36_21 hm_m_36_21 => ?_)
  show Ok _ _ _ _ _ _ (.ref 98 :: _) _ _ _
  refine ok_putFR 41 dX9_init_38 rfl rfl rfl rfl F_Encores_Table_24 (show S_194[97]? = some (9, 4, [none, none, none, none]) from rfl) (Nat.le_of_ble_eq_true rfl) (Nat.le_of_ble_eq_true rfl) rfl rfl pZ_9_0 (fun _ => rfl) (fun _ => rfl) ?_
  refine ok_shape (S2 := S_195) rfl ?_
  refine ok_aload_n 42 0 dX9_init_41 rfl rfl rfl ?_
  refine ok_iconst 43 0 dX9_init_42 rfl rfl ?_
  refine ok_putI 46 dX9_init_43 rfl rfl F_Encores_Table_28 (show S_195[97]? = some (9, 4, [some 98, none, none, none]) from rfl) rfl (Nat.le_of_ble_eq_true rfl) rfl rfl pZ_9_3 rfl rfl ?_
  refine ok_bndME (fun m_43_25 hm_m_43_25 => ?_)
  exact ok_vret dX9_init_46 rfl
theorem ci_53 (d : Nat) (m : Mem) : CM SX (d + 1) m_X9_init S_195 S_193 [.ref 97, .int 1, .int 7] m (gi_53 m) :=
  CM.ofOk km_X9_init (by decide +kernel) (by simp [Value.category]) (Nat.le_of_ble_eq_true rfl) (oi_53 d m)

def gi_50 (m : Mem) : Ans :=
bnd (mnew m 93) fun m_5_4 =>
bd (gi_51 m_5_4) fun _ m_13_8 =>
bnd (mnew m_13_8 95) fun m_20_11 =>
bd (gi_52 m_20_11) fun _ m_27_15 =>
bnd (mnew m_27_15 97) fun m_34_18 =>
bd (gi_53 m_34_18) fun _ m_41_22 =>
some (0, m_41_22)
set_option maxRecDepth 100000 in
set_option maxHeartbeats 8000000 in
theorem oi_50 (d : Nat) (m : Mem) : Ok SX S_196 (d + 2) m_X3_init 0 [some (.ref 92)] [] S_184 m (gi_50 m) := by
  unfold gi_50
  refine ok_aload_n 1 0 dX3_init_0 rfl rfl rfl ?_
  refine ok_objInit 4 (by decide +kernel) dX3_init_1 rfl rfl ml_Encores_Moment_3 (Nat.le_of_ble_eq_true rfl) ?_
  refine ok_aload_n 5 0 dX3_init_4 rfl rfl rfl ?_
  refine ok_new (ty := ty9) (ci := 9) 8 dX3_init_5 rfl rfl kl_Encores_Moment_9 in_Encores_Table wi_Encores_Table (by decide) rfl ty9_ok dv_9 (by decide +kernel) (by decide +kernel) rfl (by decide +kernel) ?_
  refine ok_shape (S2 := S_185) rfl ?_
  refine ok_bndME (fun m_5_4 hm_m_5_4 => ?_)
  show Ok _ _ _ _ _ _ (.ref 93 :: _) _ _ _
  refine ok_dup 9 dX3_init_8 rfl rfl ?_
  refine ok_bipush 11 12 dX3_init_9 rfl rfl ?_
  refine ok_bipush 13 8 dX3_init_11 rfl rfl ?_
  refine ok_callI (np := 2) (M' := m_X9_init) (As := [.int 12, .int 8]) (st := [.ref 93, .ref 92]) (r := 93) 16 dX3_init_13 rfl rfl km_X9_init ki_X9_init ml_Encores_Moment_11 (by decide) rfl rfl rfl rfl (Nat.le_of_ble_eq_true rfl) (ci_51 (d + 0) m_5_4) (by decide +kernel) (Or.inr (okR_of rfl)) (fun _ m_13_8 _ => ?_)
  refine ok_putFR 19 dX3_init_16 rfl rfl rfl rfl F_Encores_Moment_14 (show S_187[92]? = some (3, 4, [none, none, none, none]) from rfl) (Nat.le_of_ble_eq_true rfl) (Nat.le_of_ble_eq_true rfl) rfl rfl pZ_3_0 (fun _ => rfl) (fun _ => rfl) ?_
  refine ok_shape (S2 := S_188) rfl ?_
  refine ok_aload_n 20 0 dX3_init_19 rfl rfl rfl ?_
  refine ok_new (ty := ty9) (ci := 9) 23 dX3_init_20 rfl rfl kl_Encores_Moment_9 in_Encores_Table wi_Encores_Table (by decide) rfl ty9_ok dv_9 (by decide +kernel) (by decide +kernel) rfl (by decide +kernel) ?_
  refine ok_shape (S2 := S_189) rfl ?_
  refine ok_bndME (fun m_20_11 hm_m_20_11 => ?_)
  show Ok _ _ _ _ _ _ (.ref 95 :: _) _ _ _
  refine ok_dup 24 dX3_init_23 rfl rfl ?_
  refine ok_bipush 26 8 dX3_init_24 rfl rfl ?_
  refine ok_iconst 27 5 dX3_init_26 rfl rfl ?_
  refine ok_callI (np := 2) (M' := m_X9_init) (As := [.int 8, .int 5]) (st := [.ref 95, .ref 92]) (r := 95) 30 dX3_init_27 rfl rfl km_X9_init ki_X9_init ml_Encores_Moment_11 (by decide) rfl rfl rfl rfl (Nat.le_of_ble_eq_true rfl) (ci_52 (d + 0) m_20_11) (by decide +kernel) (Or.inr (okR_of rfl)) (fun _ m_27_15 _ => ?_)
  refine ok_putFR 33 dX3_init_30 rfl rfl rfl rfl F_Encores_Moment_20 (show S_191[92]? = some (3, 4, [some 93, none, none, none]) from rfl) (Nat.le_of_ble_eq_true rfl) (Nat.le_of_ble_eq_true rfl) rfl rfl pZ_3_1 (fun _ => rfl) (fun _ => rfl) ?_
  refine ok_shape (S2 := S_192) rfl ?_
  refine ok_aload_n 34 0 dX3_init_33 rfl rfl rfl ?_
  refine ok_new (ty := ty9) (ci := 9) 37 dX3_init_34 rfl rfl kl_Encores_Moment_9 in_Encores_Table wi_Encores_Table (by decide) rfl ty9_ok dv_9 (by decide +kernel) (by decide +kernel) rfl (by decide +kernel) ?_
  refine ok_shape (S2 := S_193) rfl ?_
  refine ok_bndME (fun m_34_18 hm_m_34_18 => ?_)
  show Ok _ _ _ _ _ _ (.ref 97 :: _) _ _ _
  refine ok_dup 38 dX3_init_37 rfl rfl ?_
  refine ok_iconst 39 1 dX3_init_38 rfl rfl ?_
  refine ok_bipush 41 7 dX3_init_39 rfl rfl ?_
  refine ok_callI (np := 2) (M' := m_X9_init) (As := [.int 1, .int 7]) (st := [.ref 97, .ref 92]) (r := 97) 44 dX3_init_41 rfl rfl km_X9_init ki_X9_init ml_Encores_Moment_11 (by decide) rfl rfl rfl rfl (Nat.le_of_ble_eq_true rfl) (ci_53 (d + 0) m_34_18) (by decide +kernel) (Or.inr (okR_of rfl)) (fun _ m_41_22 _ => ?_)
  refine ok_putFR 47 dX3_init_44 rfl rfl rfl rfl F_Encores_Moment_23 (show S_195[92]? = some (3, 4, [some 93, some 95, none, none]) from rfl) (Nat.le_of_ble_eq_true rfl) (Nat.le_of_ble_eq_true rfl) rfl rfl pZ_3_2 (fun _ => rfl) (fun _ => rfl) ?_
  refine ok_shape (S2 := S_196) rfl ?_
  exact ok_vret dX3_init_47 rfl
theorem ci_50 (d : Nat) (m : Mem) : CM SX (d + 2) m_X3_init S_196 S_184 [.ref 92] m (gi_50 m) :=
  CM.ofOk km_X3_init (by decide +kernel) (by simp [Value.category]) (Nat.le_of_ble_eq_true rfl) (oi_50 d m)

def gi_55 (m : Mem) : Ans :=
bnd (mset m 101 1 401) fun m_10_7 =>
bnd (mset m_10_7 101 2 3) fun m_19_12 =>
bnd (mnew m_19_12 102) fun m_36_21 =>
bnd (mset m_36_21 101 3 0) fun m_43_25 =>
some (0, m_43_25)
set_option maxRecDepth 100000 in
set_option maxHeartbeats 8000000 in
theorem oi_55 (d : Nat) (m : Mem) : Ok SX S_203 (d + 1) m_X9_init 0 [some (.ref 101), some (.int 401), some (.int 3)] [] S_201 m (gi_55 m) := by
  unfold gi_55
  refine ok_aload_n 1 0 dX9_init_0 rfl rfl rfl ?_
  refine ok_objInit 4 (by decide +kernel) dX9_init_1 rfl rfl ml_Encores_Table_3 (Nat.le_of_ble_eq_true rfl) ?_
  refine ok_aload_n 5 0 dX9_init_4 rfl rfl rfl ?_
  refine ok_iconst 6 0 dX9_init_5 rfl rfl ?_
  refine ok_iload_n 7 1 dX9_init_6 rfl rfl rfl ?_
  refine ok_max 10 (by decide +kernel) dX9_init_7 rfl rfl ml_Encores_Table_9 (Nat.le_of_ble_eq_true rfl) ?_
  rw [show (if (0 : Int32) < 401 then (401 : Int32) else 0) = 401 by decide]
  refine ok_putF 13 dX9_init_10 rfl rfl rfl rfl F_Encores_Table_15 (show S_201[101]? = some (9, 4, [none, none, none, none]) from rfl) rfl (Nat.le_of_ble_eq_true rfl) rfl rfl pZ_9_1 rfl rfl ?_
  refine ok_bndME (fun m_10_7 hm_m_10_7 => ?_)
  refine ok_aload_n 14 0 dX9_init_13 rfl rfl rfl ?_
  refine ok_iconst 15 1 dX9_init_14 rfl rfl ?_
  refine ok_iload_n 16 2 dX9_init_15 rfl rfl rfl ?_
  refine ok_max 19 (by decide +kernel) dX9_init_16 rfl rfl ml_Encores_Table_9 (Nat.le_of_ble_eq_true rfl) ?_
  rw [show (if (1 : Int32) < 3 then (3 : Int32) else 1) = 3 by decide]
  refine ok_putF 22 dX9_init_19 rfl rfl rfl rfl F_Encores_Table_21 (show S_201[101]? = some (9, 4, [none, none, none, none]) from rfl) rfl (Nat.le_of_ble_eq_true rfl) rfl rfl pZ_9_2 rfl rfl ?_
  refine ok_bndME (fun m_19_12 hm_m_19_12 => ?_)
  refine ok_aload_n 23 0 dX9_init_22 rfl rfl rfl ?_
  refine ok_iconst 24 0 dX9_init_23 rfl rfl ?_
  refine ok_aload_n 25 0 dX9_init_24 rfl rfl rfl ?_
  refine ok_getI 28 dX9_init_25 rfl rfl F_Encores_Table_15 (show S_201[101]? = some (9, 4, [none, none, none, none]) from rfl) rfl (Nat.le_of_ble_eq_true rfl) rfl ?_
  rw [show m_19_12 101 1 = 401 by subst_vars; rfl]
  refine ok_aload_n 29 0 dX9_init_28 rfl rfl rfl ?_
  refine ok_getI 32 dX9_init_29 rfl rfl F_Encores_Table_21 (show S_201[101]? = some (9, 4, [none, none, none, none]) from rfl) rfl (Nat.le_of_ble_eq_true rfl) rfl ?_
  rw [show m_19_12 101 2 = 3 by subst_vars; rfl]
  refine ok_imul 33 dX9_init_32 rfl ?_
  rw [show (401 * 3 : Int32) = 1203 by decide]
  refine ok_max 36 (by decide +kernel) dX9_init_33 rfl rfl ml_Encores_Table_9 (Nat.le_of_ble_eq_true rfl) ?_
  rw [show (if (0 : Int32) < 1203 then (1203 : Int32) else 0) = 1203 by decide]
  refine ok_newa (N := 1203) 38 dX9_init_36 rfl (by decide) (by decide) (by decide) (by decide +kernel) (by decide +kernel) rfl (by decide +kernel) ?_
  refine ok_shape (S2 := S_202) rfl ?_
  refine ok_bndME (fun m_36_21 hm_m_36_21 => ?_)
  show Ok _ _ _ _ _ _ (.ref 102 :: _) _ _ _
  refine ok_putFR 41 dX9_init_38 rfl rfl rfl rfl F_Encores_Table_24 (show S_202[101]? = some (9, 4, [none, none, none, none]) from rfl) (Nat.le_of_ble_eq_true rfl) (Nat.le_of_ble_eq_true rfl) rfl rfl pZ_9_0 (fun _ => rfl) (fun _ => rfl) ?_
  refine ok_shape (S2 := S_203) rfl ?_
  refine ok_aload_n 42 0 dX9_init_41 rfl rfl rfl ?_
  refine ok_iconst 43 0 dX9_init_42 rfl rfl ?_
  refine ok_putI 46 dX9_init_43 rfl rfl F_Encores_Table_28 (show S_203[101]? = some (9, 4, [some 102, none, none, none]) from rfl) rfl (Nat.le_of_ble_eq_true rfl) rfl rfl pZ_9_3 rfl rfl ?_
  refine ok_bndME (fun m_43_25 hm_m_43_25 => ?_)
  exact ok_vret dX9_init_46 rfl
theorem ci_55 (d : Nat) (m : Mem) : CM SX (d + 1) m_X9_init S_203 S_201 [.ref 101, .int 401, .int 3] m (gi_55 m) :=
  CM.ofOk km_X9_init (by decide +kernel) (by simp [Value.category]) (Nat.le_of_ble_eq_true rfl) (oi_55 d m)

def gi_54 (m : Mem) : Ans :=
bnd (mnew m 100) fun m_8_5 =>
bnd (mnew m_8_5 101) fun m_14_8 =>
bd (gi_55 m_14_8) fun _ m_22_12 =>
some (0, m_22_12)
set_option maxRecDepth 100000 in
set_option maxHeartbeats 8000000 in
theorem oi_54 (d : Nat) (m : Mem) : Ok SX S_204 (d + 2) m_X10_init 0 [some (.ref 99)] [] S_198 m (gi_54 m) := by
  unfold gi_54
  refine ok_aload_n 1 0 dX10_init_0 rfl rfl rfl ?_
  refine ok_objInit 4 (by decide +kernel) dX10_init_1 rfl rfl ml_Encores_Tape_3 (Nat.le_of_ble_eq_true rfl) ?_
  refine ok_aload_n 5 0 dX10_init_4 rfl rfl rfl ?_
  refine ok_sipush 8 400 dX10_init_5 rfl rfl ?_
  refine ok_newa (N := 400) 10 dX10_init_8 rfl (by decide) (by decide) (by decide) (by decide +kernel) (by decide +kernel) rfl (by decide +kernel) ?_
  refine ok_shape (S2 := S_199) rfl ?_
  refine ok_bndME (fun m_8_5 hm_m_8_5 => ?_)
  show Ok _ _ _ _ _ _ (.ref 100 :: _) _ _ _
  refine ok_putFR 13 dX10_init_10 rfl rfl rfl rfl F_Encores_Tape_9 (show S_199[99]? = some (10, 7, [none, none, none, none, none, none, none]) from rfl) (Nat.le_of_ble_eq_true rfl) (Nat.le_of_ble_eq_true rfl) rfl rfl pZ_10_0 (fun _ => rfl) (fun _ => rfl) ?_
  refine ok_shape (S2 := S_200) rfl ?_
  refine ok_aload_n 14 0 dX10_init_13 rfl rfl rfl ?_
  refine ok_new (ty := ty9) (ci := 9) 17 dX10_init_14 rfl rfl kl_Encores_Tape_15 in_Encores_Table wi_Encores_Table (by decide) rfl ty9_ok dv_9 (by decide +kernel) (by decide +kernel) rfl (by decide +kernel) ?_
  refine ok_shape (S2 := S_201) rfl ?_
  refine ok_bndME (fun m_14_8 hm_m_14_8 => ?_)
  show Ok _ _ _ _ _ _ (.ref 101 :: _) _ _ _
  refine ok_dup 18 dX10_init_17 rfl rfl ?_
  refine ok_sipush 21 401 dX10_init_18 rfl rfl ?_
  refine ok_iconst 22 3 dX10_init_21 rfl rfl ?_
  refine ok_callI (np := 2) (M' := m_X9_init) (As := [.int 401, .int 3]) (st := [.ref 101, .ref 99]) (r := 101) 25 dX10_init_22 rfl rfl km_X9_init ki_X9_init ml_Encores_Tape_17 (by decide) rfl rfl rfl rfl (Nat.le_of_ble_eq_true rfl) (ci_55 (d + 0) m_14_8) (by decide +kernel) (Or.inr (okR_of rfl)) (fun _ m_22_12 _ => ?_)
  refine ok_putFR 28 dX10_init_25 rfl rfl rfl rfl F_Encores_Tape_20 (show S_203[99]? = some (10, 7, [some 100, none, none, none, none, none, none]) from rfl) (Nat.le_of_ble_eq_true rfl) (Nat.le_of_ble_eq_true rfl) rfl rfl pZ_10_1 (fun _ => rfl) (fun _ => rfl) ?_
  refine ok_shape (S2 := S_204) rfl ?_
  exact ok_vret dX10_init_28 rfl
theorem ci_54 (d : Nat) (m : Mem) : CM SX (d + 2) m_X10_init S_204 S_198 [.ref 99] m (gi_54 m) :=
  CM.ofOk km_X10_init (by decide +kernel) (by simp [Value.category]) (Nat.le_of_ble_eq_true rfl) (oi_54 d m)

def gi_57 (m : Mem) : Ans :=
bnd (mset m 104 1 16) fun m_10_7 =>
bnd (mset m_10_7 104 2 4) fun m_19_12 =>
bnd (mnew m_19_12 105) fun m_36_21 =>
bnd (mset m_36_21 104 3 0) fun m_43_25 =>
some (0, m_43_25)
set_option maxRecDepth 100000 in
set_option maxHeartbeats 8000000 in
theorem oi_57 (d : Nat) (m : Mem) : Ok SX S_209 (d + 1) m_X9_init 0 [some (.ref 104), some (.int 16), some (.int 4)] [] S_207 m (gi_57 m) := by
  unfold gi_57
  refine ok_aload_n 1 0 dX9_init_0 rfl rfl rfl ?_
  refine ok_objInit 4 (by decide +kernel) dX9_init_1 rfl rfl ml_Encores_Table_3 (Nat.le_of_ble_eq_true rfl) ?_
  refine ok_aload_n 5 0 dX9_init_4 rfl rfl rfl ?_
  refine ok_iconst 6 0 dX9_init_5 rfl rfl ?_
  refine ok_iload_n 7 1 dX9_init_6 rfl rfl rfl ?_
  refine ok_max 10 (by decide +kernel) dX9_init_7 rfl rfl ml_Encores_Table_9 (Nat.le_of_ble_eq_true rfl) ?_
  rw [show (if (0 : Int32) < 16 then (16 : Int32) else 0) = 16 by decide]
  refine ok_putF 13 dX9_init_10 rfl rfl rfl rfl F_Encores_Table_15 (show S_207[104]? = some (9, 4, [none, none, none, none]) from rfl) rfl (Nat.le_of_ble_eq_true rfl) rfl rfl pZ_9_1 rfl rfl ?_
  refine ok_bndME (fun m_10_7 hm_m_10_7 => ?_)
  refine ok_aload_n 14 0 dX9_init_13 rfl rfl rfl ?_
  refine ok_iconst 15 1 dX9_init_14 rfl rfl ?_
  refine ok_iload_n 16 2 dX9_init_15 rfl rfl rfl ?_
  refine ok_max 19 (by decide +kernel) dX9_init_16 rfl rfl ml_Encores_Table_9 (Nat.le_of_ble_eq_true rfl) ?_
  rw [show (if (1 : Int32) < 4 then (4 : Int32) else 1) = 4 by decide]
  refine ok_putF 22 dX9_init_19 rfl rfl rfl rfl F_Encores_Table_21 (show S_207[104]? = some (9, 4, [none, none, none, none]) from rfl) rfl (Nat.le_of_ble_eq_true rfl) rfl rfl pZ_9_2 rfl rfl ?_
  refine ok_bndME (fun m_19_12 hm_m_19_12 => ?_)
  refine ok_aload_n 23 0 dX9_init_22 rfl rfl rfl ?_
  refine ok_iconst 24 0 dX9_init_23 rfl rfl ?_
  refine ok_aload_n 25 0 dX9_init_24 rfl rfl rfl ?_
  refine ok_getI 28 dX9_init_25 rfl rfl F_Encores_Table_15 (show S_207[104]? = some (9, 4, [none, none, none, none]) from rfl) rfl (Nat.le_of_ble_eq_true rfl) rfl ?_
  rw [show m_19_12 104 1 = 16 by subst_vars; rfl]
  refine ok_aload_n 29 0 dX9_init_28 rfl rfl rfl ?_
  refine ok_getI 32 dX9_init_29 rfl rfl F_Encores_Table_21 (show S_207[104]? = some (9, 4, [none, none, none, none]) from rfl) rfl (Nat.le_of_ble_eq_true rfl) rfl ?_
  rw [show m_19_12 104 2 = 4 by subst_vars; rfl]
  refine ok_imul 33 dX9_init_32 rfl ?_
  rw [show (16 * 4 : Int32) = 64 by decide]
  refine ok_max 36 (by decide +kernel) dX9_init_33 rfl rfl ml_Encores_Table_9 (Nat.le_of_ble_eq_true rfl) ?_
  rw [show (if (0 : Int32) < 64 then (64 : Int32) else 0) = 64 by decide]
  refine ok_newa (N := 64) 38 dX9_init_36 rfl (by decide) (by decide) (by decide) (by decide +kernel) (by decide +kernel) rfl (by decide +kernel) ?_
  refine ok_shape (S2 := S_208) rfl ?_
  refine ok_bndME (fun m_36_21 hm_m_36_21 => ?_)
  show Ok _ _ _ _ _ _ (.ref 105 :: _) _ _ _
  refine ok_putFR 41 dX9_init_38 rfl rfl rfl rfl F_Encores_Table_24 (show S_208[104]? = some (9, 4, [none, none, none, none]) from rfl) (Nat.le_of_ble_eq_true rfl) (Nat.le_of_ble_eq_true rfl) rfl rfl pZ_9_0 (fun _ => rfl) (fun _ => rfl) ?_
  refine ok_shape (S2 := S_209) rfl ?_
  refine ok_aload_n 42 0 dX9_init_41 rfl rfl rfl ?_
  refine ok_iconst 43 0 dX9_init_42 rfl rfl ?_
  refine ok_putI 46 dX9_init_43 rfl rfl F_Encores_Table_28 (show S_209[104]? = some (9, 4, [some 105, none, none, none]) from rfl) rfl (Nat.le_of_ble_eq_true rfl) rfl rfl pZ_9_3 rfl rfl ?_
  refine ok_bndME (fun m_43_25 hm_m_43_25 => ?_)
  exact ok_vret dX9_init_46 rfl
theorem ci_57 (d : Nat) (m : Mem) : CM SX (d + 1) m_X9_init S_209 S_207 [.ref 104, .int 16, .int 4] m (gi_57 m) :=
  CM.ofOk km_X9_init (by decide +kernel) (by simp [Value.category]) (Nat.le_of_ble_eq_true rfl) (oi_57 d m)

def gi_58 (m : Mem) : Ans :=
bnd (mset m 106 1 400) fun m_10_7 =>
bnd (mset m_10_7 106 2 2) fun m_19_12 =>
bnd (mnew m_19_12 107) fun m_36_21 =>
bnd (mset m_36_21 106 3 0) fun m_43_25 =>
some (0, m_43_25)
set_option maxRecDepth 100000 in
set_option maxHeartbeats 8000000 in
theorem oi_58 (d : Nat) (m : Mem) : Ok SX S_213 (d + 1) m_X9_init 0 [some (.ref 106), some (.int 400), some (.int 2)] [] S_211 m (gi_58 m) := by
  unfold gi_58
  refine ok_aload_n 1 0 dX9_init_0 rfl rfl rfl ?_
  refine ok_objInit 4 (by decide +kernel) dX9_init_1 rfl rfl ml_Encores_Table_3 (Nat.le_of_ble_eq_true rfl) ?_
  refine ok_aload_n 5 0 dX9_init_4 rfl rfl rfl ?_
  refine ok_iconst 6 0 dX9_init_5 rfl rfl ?_
  refine ok_iload_n 7 1 dX9_init_6 rfl rfl rfl ?_
  refine ok_max 10 (by decide +kernel) dX9_init_7 rfl rfl ml_Encores_Table_9 (Nat.le_of_ble_eq_true rfl) ?_
  rw [show (if (0 : Int32) < 400 then (400 : Int32) else 0) = 400 by decide]
  refine ok_putF 13 dX9_init_10 rfl rfl rfl rfl F_Encores_Table_15 (show S_211[106]? = some (9, 4, [none, none, none, none]) from rfl) rfl (Nat.le_of_ble_eq_true rfl) rfl rfl pZ_9_1 rfl rfl ?_
  refine ok_bndME (fun m_10_7 hm_m_10_7 => ?_)
  refine ok_aload_n 14 0 dX9_init_13 rfl rfl rfl ?_
  refine ok_iconst 15 1 dX9_init_14 rfl rfl ?_
  refine ok_iload_n 16 2 dX9_init_15 rfl rfl rfl ?_
  refine ok_max 19 (by decide +kernel) dX9_init_16 rfl rfl ml_Encores_Table_9 (Nat.le_of_ble_eq_true rfl) ?_
  rw [show (if (1 : Int32) < 2 then (2 : Int32) else 1) = 2 by decide]
  refine ok_putF 22 dX9_init_19 rfl rfl rfl rfl F_Encores_Table_21 (show S_211[106]? = some (9, 4, [none, none, none, none]) from rfl) rfl (Nat.le_of_ble_eq_true rfl) rfl rfl pZ_9_2 rfl rfl ?_
  refine ok_bndME (fun m_19_12 hm_m_19_12 => ?_)
  refine ok_aload_n 23 0 dX9_init_22 rfl rfl rfl ?_
  refine ok_iconst 24 0 dX9_init_23 rfl rfl ?_
  refine ok_aload_n 25 0 dX9_init_24 rfl rfl rfl ?_
  refine ok_getI 28 dX9_init_25 rfl rfl F_Encores_Table_15 (show S_211[106]? = some (9, 4, [none, none, none, none]) from rfl) rfl (Nat.le_of_ble_eq_true rfl) rfl ?_
  rw [show m_19_12 106 1 = 400 by subst_vars; rfl]
  refine ok_aload_n 29 0 dX9_init_28 rfl rfl rfl ?_
  refine ok_getI 32 dX9_init_29 rfl rfl F_Encores_Table_21 (show S_211[106]? = some (9, 4, [none, none, none, none]) from rfl) rfl (Nat.le_of_ble_eq_true rfl) rfl ?_
  rw [show m_19_12 106 2 = 2 by subst_vars; rfl]
  refine ok_imul 33 dX9_init_32 rfl ?_
  rw [show (400 * 2 : Int32) = 800 by decide]
  refine ok_max 36 (by decide +kernel) dX9_init_33 rfl rfl ml_Encores_Table_9 (Nat.le_of_ble_eq_true rfl) ?_
  rw [show (if (0 : Int32) < 800 then (800 : Int32) else 0) = 800 by decide]
  refine ok_newa (N := 800) 38 dX9_init_36 rfl (by decide) (by decide) (by decide) (by decide +kernel) (by decide +kernel) rfl (by decide +kernel) ?_
  refine ok_shape (S2 := S_212) rfl ?_
  refine ok_bndME (fun m_36_21 hm_m_36_21 => ?_)
  show Ok _ _ _ _ _ _ (.ref 107 :: _) _ _ _
  refine ok_putFR 41 dX9_init_38 rfl rfl rfl rfl F_Encores_Table_24 (show S_212[106]? = some (9, 4, [none, none, none, none]) from rfl) (Nat.le_of_ble_eq_true rfl) (Nat.le_of_ble_eq_true rfl) rfl rfl pZ_9_0 (fun _ => rfl) (fun _ => rfl) ?_
  refine ok_shape (S2 := S_213) rfl ?_
  refine ok_aload_n 42 0 dX9_init_41 rfl rfl rfl ?_
  refine ok_iconst 43 0 dX9_init_42 rfl rfl ?_
  refine ok_putI 46 dX9_init_43 rfl rfl F_Encores_Table_28 (show S_213[106]? = some (9, 4, [some 107, none, none, none]) from rfl) rfl (Nat.le_of_ble_eq_true rfl) rfl rfl pZ_9_3 rfl rfl ?_
  refine ok_bndME (fun m_43_25 hm_m_43_25 => ?_)
  exact ok_vret dX9_init_46 rfl
theorem ci_58 (d : Nat) (m : Mem) : CM SX (d + 1) m_X9_init S_213 S_211 [.ref 106, .int 400, .int 2] m (gi_58 m) :=
  CM.ofOk km_X9_init (by decide +kernel) (by simp [Value.category]) (Nat.le_of_ble_eq_true rfl) (oi_58 d m)

def gi_59 (m : Mem) : Ans :=
bnd (mset m 108 1 400) fun m_10_7 =>
bnd (mset m_10_7 108 2 1) fun m_19_12 =>
bnd (mnew m_19_12 109) fun m_36_21 =>
bnd (mset m_36_21 108 3 0) fun m_43_25 =>
some (0, m_43_25)
set_option maxRecDepth 100000 in
set_option maxHeartbeats 8000000 in
theorem oi_59 (d : Nat) (m : Mem) : Ok SX S_217 (d + 1) m_X9_init 0 [some (.ref 108), some (.int 400), some (.int 1)] [] S_215 m (gi_59 m) := by
  unfold gi_59
  refine ok_aload_n 1 0 dX9_init_0 rfl rfl rfl ?_
  refine ok_objInit 4 (by decide +kernel) dX9_init_1 rfl rfl ml_Encores_Table_3 (Nat.le_of_ble_eq_true rfl) ?_
  refine ok_aload_n 5 0 dX9_init_4 rfl rfl rfl ?_
  refine ok_iconst 6 0 dX9_init_5 rfl rfl ?_
  refine ok_iload_n 7 1 dX9_init_6 rfl rfl rfl ?_
  refine ok_max 10 (by decide +kernel) dX9_init_7 rfl rfl ml_Encores_Table_9 (Nat.le_of_ble_eq_true rfl) ?_
  rw [show (if (0 : Int32) < 400 then (400 : Int32) else 0) = 400 by decide]
  refine ok_putF 13 dX9_init_10 rfl rfl rfl rfl F_Encores_Table_15 (show S_215[108]? = some (9, 4, [none, none, none, none]) from rfl) rfl (Nat.le_of_ble_eq_true rfl) rfl rfl pZ_9_1 rfl rfl ?_
  refine ok_bndME (fun m_10_7 hm_m_10_7 => ?_)
  refine ok_aload_n 14 0 dX9_init_13 rfl rfl rfl ?_
  refine ok_iconst 15 1 dX9_init_14 rfl rfl ?_
  refine ok_iload_n 16 2 dX9_init_15 rfl rfl rfl ?_
  refine ok_max 19 (by decide +kernel) dX9_init_16 rfl rfl ml_Encores_Table_9 (Nat.le_of_ble_eq_true rfl) ?_
  rw [show (if (1 : Int32) < 1 then (1 : Int32) else 1) = 1 by decide]
  refine ok_putF 22 dX9_init_19 rfl rfl rfl rfl F_Encores_Table_21 (show S_215[108]? = some (9, 4, [none, none, none, none]) from rfl) rfl (Nat.le_of_ble_eq_true rfl) rfl rfl pZ_9_2 rfl rfl ?_
  refine ok_bndME (fun m_19_12 hm_m_19_12 => ?_)
  refine ok_aload_n 23 0 dX9_init_22 rfl rfl rfl ?_
  refine ok_iconst 24 0 dX9_init_23 rfl rfl ?_
  refine ok_aload_n 25 0 dX9_init_24 rfl rfl rfl ?_
  refine ok_getI 28 dX9_init_25 rfl rfl F_Encores_Table_15 (show S_215[108]? = some (9, 4, [none, none, none, none]) from rfl) rfl (Nat.le_of_ble_eq_true rfl) rfl ?_
  rw [show m_19_12 108 1 = 400 by subst_vars; rfl]
  refine ok_aload_n 29 0 dX9_init_28 rfl rfl rfl ?_
  refine ok_getI 32 dX9_init_29 rfl rfl F_Encores_Table_21 (show S_215[108]? = some (9, 4, [none, none, none, none]) from rfl) rfl (Nat.le_of_ble_eq_true rfl) rfl ?_
  rw [show m_19_12 108 2 = 1 by subst_vars; rfl]
  refine ok_imul 33 dX9_init_32 rfl ?_
  rw [show (400 * 1 : Int32) = 400 by decide]
  refine ok_max 36 (by decide +kernel) dX9_init_33 rfl rfl ml_Encores_Table_9 (Nat.le_of_ble_eq_true rfl) ?_
  rw [show (if (0 : Int32) < 400 then (400 : Int32) else 0) = 400 by decide]
  refine ok_newa (N := 400) 38 dX9_init_36 rfl (by decide) (by decide) (by decide) (by decide +kernel) (by decide +kernel) rfl (by decide +kernel) ?_
  refine ok_shape (S2 := S_216) rfl ?_
  refine ok_bndME (fun m_36_21 hm_m_36_21 => ?_)
  show Ok _ _ _ _ _ _ (.ref 109 :: _) _ _ _
  refine ok_putFR 41 dX9_init_38 rfl rfl rfl rfl F_Encores_Table_24 (show S_216[108]? = some (9, 4, [none, none, none, none]) from rfl) (Nat.le_of_ble_eq_true rfl) (Nat.le_of_ble_eq_true rfl) rfl rfl pZ_9_0 (fun _ => rfl) (fun _ => rfl) ?_
  refine ok_shape (S2 := S_217) rfl ?_
  refine ok_aload_n 42 0 dX9_init_41 rfl rfl rfl ?_
  refine ok_iconst 43 0 dX9_init_42 rfl rfl ?_
  refine ok_putI 46 dX9_init_43 rfl rfl F_Encores_Table_28 (show S_217[108]? = some (9, 4, [some 109, none, none, none]) from rfl) rfl (Nat.le_of_ble_eq_true rfl) rfl rfl pZ_9_3 rfl rfl ?_
  refine ok_bndME (fun m_43_25 hm_m_43_25 => ?_)
  exact ok_vret dX9_init_46 rfl
theorem ci_59 (d : Nat) (m : Mem) : CM SX (d + 1) m_X9_init S_217 S_215 [.ref 108, .int 400, .int 1] m (gi_59 m) :=
  CM.ofOk km_X9_init (by decide +kernel) (by simp [Value.category]) (Nat.le_of_ble_eq_true rfl) (oi_59 d m)

def gi_56 (m : Mem) : Ans :=
bnd (mnew m 104) fun m_5_4 =>
bd (gi_57 m_5_4) fun _ m_12_8 =>
bnd (mnew m_12_8 106) fun m_19_11 =>
bd (gi_58 m_19_11) fun _ m_27_15 =>
bnd (mnew m_27_15 108) fun m_34_18 =>
bd (gi_59 m_34_18) fun _ m_42_22 =>
bnd (mset m_42_22 103 3 0) fun m_55_29 =>
bnd (mset m_55_29 103 4 (-1)) fun m_60_32 =>
some (0, m_60_32)
set_option maxRecDepth 100000 in
set_option maxHeartbeats 8000000 in
theorem oi_56 (d : Nat) (m : Mem) : Ok SX S_219 (d + 2) m_X6_init 0 [some (.ref 103), some (.ref 99)] [] S_206 m (gi_56 m) := by
  unfold gi_56
  refine ok_aload_n 1 0 dX6_init_0 rfl rfl rfl ?_
  refine ok_objInit 4 (by decide +kernel) dX6_init_1 rfl rfl ml_Encores_Reader_3 (Nat.le_of_ble_eq_true rfl) ?_
  refine ok_aload_n 5 0 dX6_init_4 rfl rfl rfl ?_
  refine ok_new (ty := ty9) (ci := 9) 8 dX6_init_5 rfl rfl kl_Encores_Reader_9 in_Encores_Table wi_Encores_Table (by decide) rfl ty9_ok dv_9 (by decide +kernel) (by decide +kernel) rfl (by decide +kernel) ?_
  refine ok_shape (S2 := S_207) rfl ?_
  refine ok_bndME (fun m_5_4 hm_m_5_4 => ?_)
  show Ok _ _ _ _ _ _ (.ref 104 :: _) _ _ _
  refine ok_dup 9 dX6_init_8 rfl rfl ?_
  refine ok_bipush 11 16 dX6_init_9 rfl rfl ?_
  refine ok_iconst 12 4 dX6_init_11 rfl rfl ?_
  refine ok_callI (np := 2) (M' := m_X9_init) (As := [.int 16, .int 4]) (st := [.ref 104, .ref 103]) (r := 104) 15 dX6_init_12 rfl rfl km_X9_init ki_X9_init ml_Encores_Reader_11 (by decide) rfl rfl rfl rfl (Nat.le_of_ble_eq_true rfl) (ci_57 (d + 0) m_5_4) (by decide +kernel) (Or.inr (okR_of rfl)) (fun _ m_12_8 _ => ?_)
  refine ok_putFR 18 dX6_init_15 rfl rfl rfl rfl F_Encores_Reader_14 (show S_209[103]? = some (6, 12, [none, none, none, none, none, none, none, none, none, none, none, none]) from rfl) (Nat.le_of_ble_eq_true rfl) (Nat.le_of_ble_eq_true rfl) rfl rfl pZ_6_1 (fun _ => rfl) (fun _ => rfl) ?_
  refine ok_shape (S2 := S_210) rfl ?_
  refine ok_aload_n 19 0 dX6_init_18 rfl rfl rfl ?_
  refine ok_new (ty := ty9) (ci := 9) 22 dX6_init_19 rfl rfl kl_Encores_Reader_9 in_Encores_Table wi_Encores_Table (by decide) rfl ty9_ok dv_9 (by decide +kernel) (by decide +kernel) rfl (by decide +kernel) ?_
  refine ok_shape (S2 := S_211) rfl ?_
  refine ok_bndME (fun m_19_11 hm_m_19_11 => ?_)
  show Ok _ _ _ _ _ _ (.ref 106 :: _) _ _ _
  refine ok_dup 23 dX6_init_22 rfl rfl ?_
  refine ok_sipush 26 400 dX6_init_23 rfl rfl ?_
  refine ok_iconst 27 2 dX6_init_26 rfl rfl ?_
  refine ok_callI (np := 2) (M' := m_X9_init) (As := [.int 400, .int 2]) (st := [.ref 106, .ref 103]) (r := 106) 30 dX6_init_27 rfl rfl km_X9_init ki_X9_init ml_Encores_Reader_11 (by decide) rfl rfl rfl rfl (Nat.le_of_ble_eq_true rfl) (ci_58 (d + 0) m_19_11) (by decide +kernel) (Or.inr (okR_of rfl)) (fun _ m_27_15 _ => ?_)
  refine ok_putFR 33 dX6_init_30 rfl rfl rfl rfl F_Encores_Reader_20 (show S_213[103]? = some (6, 12, [none, some 104, none, none, none, none, none, none, none, none, none, none]) from rfl) (Nat.le_of_ble_eq_true rfl) (Nat.le_of_ble_eq_true rfl) rfl rfl pZ_6_2 (fun _ => rfl) (fun _ => rfl) ?_
  refine ok_shape (S2 := S_214) rfl ?_
  refine ok_aload_n 34 0 dX6_init_33 rfl rfl rfl ?_
  refine ok_new (ty := ty9) (ci := 9) 37 dX6_init_34 rfl rfl kl_Encores_Reader_9 in_Encores_Table wi_Encores_Table (by decide) rfl ty9_ok dv_9 (by decide +kernel) (by decide +kernel) rfl (by decide +kernel) ?_
  refine ok_shape (S2 := S_215) rfl ?_
  refine ok_bndME (fun m_34_18 hm_m_34_18 => ?_)
  show Ok _ _ _ _ _ _ (.ref 108 :: _) _ _ _
  refine ok_dup 38 dX6_init_37 rfl rfl ?_
  refine ok_sipush 41 400 dX6_init_38 rfl rfl ?_
  refine ok_iconst 42 1 dX6_init_41 rfl rfl ?_
  refine ok_callI (np := 2) (M' := m_X9_init) (As := [.int 400, .int 1]) (st := [.ref 108, .ref 103]) (r := 108) 45 dX6_init_42 rfl rfl km_X9_init ki_X9_init ml_Encores_Reader_11 (by decide) rfl rfl rfl rfl (Nat.le_of_ble_eq_true rfl) (ci_59 (d + 0) m_34_18) (by decide +kernel) (Or.inr (okR_of rfl)) (fun _ m_42_22 _ => ?_)
  refine ok_putFR 48 dX6_init_45 rfl rfl rfl rfl F_Encores_Reader_23 (show S_217[103]? = some (6, 12, [none, some 104, some 106, none, none, none, none, none, none, none, none, none]) from rfl) (Nat.le_of_ble_eq_true rfl) (Nat.le_of_ble_eq_true rfl) rfl rfl pZ_6_5 (fun _ => rfl) (fun _ => rfl) ?_
  refine ok_shape (S2 := S_218) rfl ?_
  refine ok_aload_n 49 0 dX6_init_48 rfl rfl rfl ?_
  refine ok_aload_n 50 1 dX6_init_49 rfl rfl rfl ?_
  refine ok_putFR 53 dX6_init_50 rfl rfl rfl rfl F_Encores_Reader_26 (show S_218[103]? = some (6, 12, [none, some 104, some 106, none, none, some 108, none, none, none, none, none, none]) from rfl) (Nat.le_of_ble_eq_true rfl) (Nat.le_of_ble_eq_true rfl) rfl rfl pZ_6_0 (fun _ => rfl) (fun _ => rfl) ?_
  refine ok_shape (S2 := S_219) rfl ?_
  refine ok_aload_n 54 0 dX6_init_53 rfl rfl rfl ?_
  refine ok_iconst 55 0 dX6_init_54 rfl rfl ?_
  refine ok_putI 58 dX6_init_55 rfl rfl F_Encores_Reader_30 (show S_219[103]? = some (6, 12, [some 99, some 104, some 106, none, none, some 108, none, none, none, none, none, none]) from rfl) rfl (Nat.le_of_ble_eq_true rfl) rfl rfl pZ_6_3 rfl rfl ?_
  refine ok_bndME (fun m_55_29 hm_m_55_29 => ?_)
  refine ok_aload_n 59 0 dX6_init_58 rfl rfl rfl ?_
  refine ok_iconst 60 (-1) dX6_init_59 rfl rfl ?_
  refine ok_putI 63 dX6_init_60 rfl rfl F_Encores_Reader_34 (show S_219[103]? = some (6, 12, [some 99, some 104, some 106, none, none, some 108, none, none, none, none, none, none]) from rfl) rfl (Nat.le_of_ble_eq_true rfl) rfl rfl pZ_6_4 rfl rfl ?_
  refine ok_bndME (fun m_60_32 hm_m_60_32 => ?_)
  exact ok_vret dX6_init_63 rfl
theorem ci_56 (d : Nat) (m : Mem) : CM SX (d + 2) m_X6_init S_219 S_206 [.ref 103, .ref 99] m (gi_56 m) :=
  CM.ofOk km_X6_init (by decide +kernel) (by simp [Value.category]) (Nat.le_of_ble_eq_true rfl) (oi_56 d m)

def gi_60 (m : Mem) : Ans :=
bnd (mnew m 111) fun m_7_5 =>
bnd (mnew m_7_5 112) fun m_15_9 =>
some (0, m_15_9)
set_option maxRecDepth 100000 in
set_option maxHeartbeats 8000000 in
theorem oi_60 (d : Nat) (m : Mem) : Ok SX S_226 (d + 1) m_X2_init 0 [some (.ref 110), some (.ref 2)] [] S_221 m (gi_60 m) := by
  unfold gi_60
  refine ok_aload_n 1 0 dX2_init_0 rfl rfl rfl ?_
  refine ok_objInit 4 (by decide +kernel) dX2_init_1 rfl rfl ml_Encores_Law_3 (Nat.le_of_ble_eq_true rfl) ?_
  refine ok_aload_n 5 0 dX2_init_4 rfl rfl rfl ?_
  refine ok_bipush 7 10 dX2_init_5 rfl rfl ?_
  refine ok_newa (N := 10) 9 dX2_init_7 rfl (by decide) (by decide) (by decide) (by decide +kernel) (by decide +kernel) rfl (by decide +kernel) ?_
  refine ok_shape (S2 := S_222) rfl ?_
  refine ok_bndME (fun m_7_5 hm_m_7_5 => ?_)
  show Ok _ _ _ _ _ _ (.ref 111 :: _) _ _ _
  refine ok_putFR 12 dX2_init_9 rfl rfl rfl rfl F_Encores_Law_9 (show S_222[110]? = some (2, 3, [none, none, none]) from rfl) (Nat.le_of_ble_eq_true rfl) (Nat.le_of_ble_eq_true rfl) rfl rfl pZ_2_1 (fun _ => rfl) (fun _ => rfl) ?_
  refine ok_shape (S2 := S_223) rfl ?_
  refine ok_aload_n 13 0 dX2_init_12 rfl rfl rfl ?_
  refine ok_bipush 15 22 dX2_init_13 rfl rfl ?_
  refine ok_newa (N := 22) 17 dX2_init_15 rfl (by decide) (by decide) (by decide) (by decide +kernel) (by decide +kernel) rfl (by decide +kernel) ?_
  refine ok_shape (S2 := S_224) rfl ?_
  refine ok_bndME (fun m_15_9 hm_m_15_9 => ?_)
  show Ok _ _ _ _ _ _ (.ref 112 :: _) _ _ _
  refine ok_putFR 20 dX2_init_17 rfl rfl rfl rfl F_Encores_Law_15 (show S_224[110]? = some (2, 3, [none, some 111, none]) from rfl) (Nat.le_of_ble_eq_true rfl) (Nat.le_of_ble_eq_true rfl) rfl rfl pZ_2_2 (fun _ => rfl) (fun _ => rfl) ?_
  refine ok_shape (S2 := S_225) rfl ?_
  refine ok_aload_n 21 0 dX2_init_20 rfl rfl rfl ?_
  refine ok_aload_n 22 1 dX2_init_21 rfl rfl rfl ?_
  refine ok_putFR 25 dX2_init_22 rfl rfl rfl rfl F_Encores_Law_18 (show S_225[110]? = some (2, 3, [none, some 111, some 112]) from rfl) (Nat.le_of_ble_eq_true rfl) (Nat.le_of_ble_eq_true rfl) rfl rfl pZ_2_0 (fun _ => rfl) (fun _ => rfl) ?_
  refine ok_shape (S2 := S_226) rfl ?_
  exact ok_vret dX2_init_25 rfl
theorem ci_60 (d : Nat) (m : Mem) : CM SX (d + 1) m_X2_init S_226 S_221 [.ref 110, .ref 2] m (gi_60 m) :=
  CM.ofOk km_X2_init (by decide +kernel) (by simp [Value.category]) (Nat.le_of_ble_eq_true rfl) (oi_60 d m)

def gi_61 (m : Mem) : Ans :=
bnd (mnew m 114) fun m_7_5 =>
bnd (mnew m_7_5 115) fun m_15_9 =>
some (0, m_15_9)
set_option maxRecDepth 100000 in
set_option maxHeartbeats 8000000 in
theorem oi_61 (d : Nat) (m : Mem) : Ok SX S_234 (d + 1) m_X8_init 0 [some (.ref 113), some (.ref 2), some (.ref 110)] [] S_228 m (gi_61 m) := by
  unfold gi_61
  refine ok_aload_n 1 0 dX8_init_0 rfl rfl rfl ?_
  refine ok_objInit 4 (by decide +kernel) dX8_init_1 rfl rfl ml_Encores_Stage_3 (Nat.le_of_ble_eq_true rfl) ?_
  refine ok_aload_n 5 0 dX8_init_4 rfl rfl rfl ?_
  refine ok_bipush 7 12 dX8_init_5 rfl rfl ?_
  refine ok_newa (N := 12) 9 dX8_init_7 rfl (by decide) (by decide) (by decide) (by decide +kernel) (by decide +kernel) rfl (by decide +kernel) ?_
  refine ok_shape (S2 := S_229) rfl ?_
  refine ok_bndME (fun m_7_5 hm_m_7_5 => ?_)
  show Ok _ _ _ _ _ _ (.ref 114 :: _) _ _ _
  refine ok_putFR 12 dX8_init_9 rfl rfl rfl rfl F_Encores_Stage_9 (show S_229[113]? = some (8, 7, [none, none, none, none, none, none, none]) from rfl) (Nat.le_of_ble_eq_true rfl) (Nat.le_of_ble_eq_true rfl) rfl rfl pZ_8_2 (fun _ => rfl) (fun _ => rfl) ?_
  refine ok_shape (S2 := S_230) rfl ?_
  refine ok_aload_n 13 0 dX8_init_12 rfl rfl rfl ?_
  refine ok_bipush 15 12 dX8_init_13 rfl rfl ?_
  refine ok_newa (N := 12) 17 dX8_init_15 rfl (by decide) (by decide) (by decide) (by decide +kernel) (by decide +kernel) rfl (by decide +kernel) ?_
  refine ok_shape (S2 := S_231) rfl ?_
  refine ok_bndME (fun m_15_9 hm_m_15_9 => ?_)
  show Ok _ _ _ _ _ _ (.ref 115 :: _) _ _ _
  refine ok_putFR 20 dX8_init_17 rfl rfl rfl rfl F_Encores_Stage_15 (show S_231[113]? = some (8, 7, [none, none, some 114, none, none, none, none]) from rfl) (Nat.le_of_ble_eq_true rfl) (Nat.le_of_ble_eq_true rfl) rfl rfl pZ_8_3 (fun _ => rfl) (fun _ => rfl) ?_
  refine ok_shape (S2 := S_232) rfl ?_
  refine ok_aload_n 21 0 dX8_init_20 rfl rfl rfl ?_
  refine ok_aload_n 22 1 dX8_init_21 rfl rfl rfl ?_
  refine ok_putFR 25 dX8_init_22 rfl rfl rfl rfl F_Encores_Stage_18 (show S_232[113]? = some (8, 7, [none, none, some 114, some 115, none, none, none]) from rfl) (Nat.le_of_ble_eq_true rfl) (Nat.le_of_ble_eq_true rfl) rfl rfl pZ_8_0 (fun _ => rfl) (fun _ => rfl) ?_
  refine ok_shape (S2 := S_233) rfl ?_
  refine ok_aload_n 26 0 dX8_init_25 rfl rfl rfl ?_
  refine ok_aload_n 27 2 dX8_init_26 rfl rfl rfl ?_
  refine ok_putFR 30 dX8_init_27 rfl rfl rfl rfl F_Encores_Stage_22 (show S_233[113]? = some (8, 7, [some 2, none, some 114, some 115, none, none, none]) from rfl) (Nat.le_of_ble_eq_true rfl) (Nat.le_of_ble_eq_true rfl) rfl rfl pZ_8_1 (fun _ => rfl) (fun _ => rfl) ?_
  refine ok_shape (S2 := S_234) rfl ?_
  exact ok_vret dX8_init_30 rfl
theorem ci_61 (d : Nat) (m : Mem) : CM SX (d + 1) m_X8_init S_234 S_228 [.ref 113, .ref 2, .ref 110] m (gi_61 m) :=
  CM.ofOk km_X8_init (by decide +kernel) (by simp [Value.category]) (Nat.le_of_ble_eq_true rfl) (oi_61 d m)

def gi_63 (m : Mem) : Ans :=
bnd (mset m 117 1 5) fun m_10_7 =>
bnd (mset m_10_7 117 2 12) fun m_19_12 =>
bnd (mnew m_19_12 118) fun m_36_21 =>
bnd (mset m_36_21 117 3 0) fun m_43_25 =>
some (0, m_43_25)
set_option maxRecDepth 100000 in
set_option maxHeartbeats 8000000 in
theorem oi_63 (d : Nat) (m : Mem) : Ok SX S_239 (d + 1) m_X9_init 0 [some (.ref 117), some (.int 5), some (.int 12)] [] S_237 m (gi_63 m) := by
  unfold gi_63
  refine ok_aload_n 1 0 dX9_init_0 rfl rfl rfl ?_
  refine ok_objInit 4 (by decide +kernel) dX9_init_1 rfl rfl ml_Encores_Table_3 (Nat.le_of_ble_eq_true rfl) ?_
  refine ok_aload_n 5 0 dX9_init_4 rfl rfl rfl ?_
  refine ok_iconst 6 0 dX9_init_5 rfl rfl ?_
  refine ok_iload_n 7 1 dX9_init_6 rfl rfl rfl ?_
  refine ok_max 10 (by decide +kernel) dX9_init_7 rfl rfl ml_Encores_Table_9 (Nat.le_of_ble_eq_true rfl) ?_
  rw [show (if (0 : Int32) < 5 then (5 : Int32) else 0) = 5 by decide]
  refine ok_putF 13 dX9_init_10 rfl rfl rfl rfl F_Encores_Table_15 (show S_237[117]? = some (9, 4, [none, none, none, none]) from rfl) rfl (Nat.le_of_ble_eq_true rfl) rfl rfl pZ_9_1 rfl rfl ?_
  refine ok_bndME (fun m_10_7 hm_m_10_7 => ?_)
  refine ok_aload_n 14 0 dX9_init_13 rfl rfl rfl ?_
  refine ok_iconst 15 1 dX9_init_14 rfl rfl ?_
  refine ok_iload_n 16 2 dX9_init_15 rfl rfl rfl ?_
  refine ok_max 19 (by decide +kernel) dX9_init_16 rfl rfl ml_Encores_Table_9 (Nat.le_of_ble_eq_true rfl) ?_
  rw [show (if (1 : Int32) < 12 then (12 : Int32) else 1) = 12 by decide]
  refine ok_putF 22 dX9_init_19 rfl rfl rfl rfl F_Encores_Table_21 (show S_237[117]? = some (9, 4, [none, none, none, none]) from rfl) rfl (Nat.le_of_ble_eq_true rfl) rfl rfl pZ_9_2 rfl rfl ?_
  refine ok_bndME (fun m_19_12 hm_m_19_12 => ?_)
  refine ok_aload_n 23 0 dX9_init_22 rfl rfl rfl ?_
  refine ok_iconst 24 0 dX9_init_23 rfl rfl ?_
  refine ok_aload_n 25 0 dX9_init_24 rfl rfl rfl ?_
  refine ok_getI 28 dX9_init_25 rfl rfl F_Encores_Table_15 (show S_237[117]? = some (9, 4, [none, none, none, none]) from rfl) rfl (Nat.le_of_ble_eq_true rfl) rfl ?_
  rw [show m_19_12 117 1 = 5 by subst_vars; rfl]
  refine ok_aload_n 29 0 dX9_init_28 rfl rfl rfl ?_
  refine ok_getI 32 dX9_init_29 rfl rfl F_Encores_Table_21 (show S_237[117]? = some (9, 4, [none, none, none, none]) from rfl) rfl (Nat.le_of_ble_eq_true rfl) rfl ?_
  rw [show m_19_12 117 2 = 12 by subst_vars; rfl]
  refine ok_imul 33 dX9_init_32 rfl ?_
  rw [show (5 * 12 : Int32) = 60 by decide]
  refine ok_max 36 (by decide +kernel) dX9_init_33 rfl rfl ml_Encores_Table_9 (Nat.le_of_ble_eq_true rfl) ?_
  rw [show (if (0 : Int32) < 60 then (60 : Int32) else 0) = 60 by decide]
  refine ok_newa (N := 60) 38 dX9_init_36 rfl (by decide) (by decide) (by decide) (by decide +kernel) (by decide +kernel) rfl (by decide +kernel) ?_
  refine ok_shape (S2 := S_238) rfl ?_
  refine ok_bndME (fun m_36_21 hm_m_36_21 => ?_)
  show Ok _ _ _ _ _ _ (.ref 118 :: _) _ _ _
  refine ok_putFR 41 dX9_init_38 rfl rfl rfl rfl F_Encores_Table_24 (show S_238[117]? = some (9, 4, [none, none, none, none]) from rfl) (Nat.le_of_ble_eq_true rfl) (Nat.le_of_ble_eq_true rfl) rfl rfl pZ_9_0 (fun _ => rfl) (fun _ => rfl) ?_
  refine ok_shape (S2 := S_239) rfl ?_
  refine ok_aload_n 42 0 dX9_init_41 rfl rfl rfl ?_
  refine ok_iconst 43 0 dX9_init_42 rfl rfl ?_
  refine ok_putI 46 dX9_init_43 rfl rfl F_Encores_Table_28 (show S_239[117]? = some (9, 4, [some 118, none, none, none]) from rfl) rfl (Nat.le_of_ble_eq_true rfl) rfl rfl pZ_9_3 rfl rfl ?_
  refine ok_bndME (fun m_43_25 hm_m_43_25 => ?_)
  exact ok_vret dX9_init_46 rfl
theorem ci_63 (d : Nat) (m : Mem) : CM SX (d + 1) m_X9_init S_239 S_237 [.ref 117, .int 5, .int 12] m (gi_63 m) :=
  CM.ofOk km_X9_init (by decide +kernel) (by simp [Value.category]) (Nat.le_of_ble_eq_true rfl) (oi_63 d m)

def gi_64 (m : Mem) : Ans :=
bnd (mset m 119 1 5) fun m_10_7 =>
bnd (mset m_10_7 119 2 1) fun m_19_12 =>
bnd (mnew m_19_12 120) fun m_36_21 =>
bnd (mset m_36_21 119 3 0) fun m_43_25 =>
some (0, m_43_25)
set_option maxRecDepth 100000 in
set_option maxHeartbeats 8000000 in
theorem oi_64 (d : Nat) (m : Mem) : Ok SX S_243 (d + 1) m_X9_init 0 [some (.ref 119), some (.int 5), some (.int 1)] [] S_241 m (gi_64 m) := by
  unfold gi_64
  refine ok_aload_n 1 0 dX9_init_0 rfl rfl rfl ?_
  refine ok_objInit 4 (by decide +kernel) dX9_init_1 rfl rfl ml_Encores_Table_3 (Nat.le_of_ble_eq_true rfl) ?_
  refine ok_aload_n 5 0 dX9_init_4 rfl rfl rfl ?_
  refine ok_iconst 6 0 dX9_init_5 rfl rfl ?_
  refine ok_iload_n 7 1 dX9_init_6 rfl rfl rfl ?_
  refine ok_max 10 (by decide +kernel) dX9_init_7 rfl rfl ml_Encores_Table_9 (Nat.le_of_ble_eq_true rfl) ?_
  rw [show (if (0 : Int32) < 5 then (5 : Int32) else 0) = 5 by decide]
  refine ok_putF 13 dX9_init_10 rfl rfl rfl rfl F_Encores_Table_15 (show S_241[119]? = some (9, 4, [none, none, none, none]) from rfl) rfl (Nat.le_of_ble_eq_true rfl) rfl rfl pZ_9_1 rfl rfl ?_
  refine ok_bndME (fun m_10_7 hm_m_10_7 => ?_)
  refine ok_aload_n 14 0 dX9_init_13 rfl rfl rfl ?_
  refine ok_iconst 15 1 dX9_init_14 rfl rfl ?_
  refine ok_iload_n 16 2 dX9_init_15 rfl rfl rfl ?_
  refine ok_max 19 (by decide +kernel) dX9_init_16 rfl rfl ml_Encores_Table_9 (Nat.le_of_ble_eq_true rfl) ?_
  rw [show (if (1 : Int32) < 1 then (1 : Int32) else 1) = 1 by decide]
  refine ok_putF 22 dX9_init_19 rfl rfl rfl rfl F_Encores_Table_21 (show S_241[119]? = some (9, 4, [none, none, none, none]) from rfl) rfl (Nat.le_of_ble_eq_true rfl) rfl rfl pZ_9_2 rfl rfl ?_
  refine ok_bndME (fun m_19_12 hm_m_19_12 => ?_)
  refine ok_aload_n 23 0 dX9_init_22 rfl rfl rfl ?_
  refine ok_iconst 24 0 dX9_init_23 rfl rfl ?_
  refine ok_aload_n 25 0 dX9_init_24 rfl rfl rfl ?_
  refine ok_getI 28 dX9_init_25 rfl rfl F_Encores_Table_15 (show S_241[119]? = some (9, 4, [none, none, none, none]) from rfl) rfl (Nat.le_of_ble_eq_true rfl) rfl ?_
  rw [show m_19_12 119 1 = 5 by subst_vars; rfl]
  refine ok_aload_n 29 0 dX9_init_28 rfl rfl rfl ?_
  refine ok_getI 32 dX9_init_29 rfl rfl F_Encores_Table_21 (show S_241[119]? = some (9, 4, [none, none, none, none]) from rfl) rfl (Nat.le_of_ble_eq_true rfl) rfl ?_
  rw [show m_19_12 119 2 = 1 by subst_vars; rfl]
  refine ok_imul 33 dX9_init_32 rfl ?_
  rw [show (5 * 1 : Int32) = 5 by decide]
  refine ok_max 36 (by decide +kernel) dX9_init_33 rfl rfl ml_Encores_Table_9 (Nat.le_of_ble_eq_true rfl) ?_
  rw [show (if (0 : Int32) < 5 then (5 : Int32) else 0) = 5 by decide]
  refine ok_newa (N := 5) 38 dX9_init_36 rfl (by decide) (by decide) (by decide) (by decide +kernel) (by decide +kernel) rfl (by decide +kernel) ?_
  refine ok_shape (S2 := S_242) rfl ?_
  refine ok_bndME (fun m_36_21 hm_m_36_21 => ?_)
  show Ok _ _ _ _ _ _ (.ref 120 :: _) _ _ _
  refine ok_putFR 41 dX9_init_38 rfl rfl rfl rfl F_Encores_Table_24 (show S_242[119]? = some (9, 4, [none, none, none, none]) from rfl) (Nat.le_of_ble_eq_true rfl) (Nat.le_of_ble_eq_true rfl) rfl rfl pZ_9_0 (fun _ => rfl) (fun _ => rfl) ?_
  refine ok_shape (S2 := S_243) rfl ?_
  refine ok_aload_n 42 0 dX9_init_41 rfl rfl rfl ?_
  refine ok_iconst 43 0 dX9_init_42 rfl rfl ?_
  refine ok_putI 46 dX9_init_43 rfl rfl F_Encores_Table_28 (show S_243[119]? = some (9, 4, [some 120, none, none, none]) from rfl) rfl (Nat.le_of_ble_eq_true rfl) rfl rfl pZ_9_3 rfl rfl ?_
  refine ok_bndME (fun m_43_25 hm_m_43_25 => ?_)
  exact ok_vret dX9_init_46 rfl
theorem ci_64 (d : Nat) (m : Mem) : CM SX (d + 1) m_X9_init S_243 S_241 [.ref 119, .int 5, .int 1] m (gi_64 m) :=
  CM.ofOk km_X9_init (by decide +kernel) (by simp [Value.category]) (Nat.le_of_ble_eq_true rfl) (oi_64 d m)

def gi_62 (m : Mem) : Ans :=
bnd (mnew m 117) fun m_5_4 =>
bd (gi_63 m_5_4) fun _ m_12_8 =>
bnd (mnew m_12_8 119) fun m_19_11 =>
bd (gi_64 m_19_11) fun _ m_25_15 =>
some (0, m_25_15)
set_option maxRecDepth 100000 in
set_option maxHeartbeats 8000000 in
theorem oi_62 (d : Nat) (m : Mem) : Ok SX S_247 (d + 2) m_X0_init 0 [some (.ref 116), some (.ref 2), some (.ref 110), some (.ref 113)] [] S_236 m (gi_62 m) := by
  unfold gi_62
  refine ok_aload_n 1 0 dX0_init_0 rfl rfl rfl ?_
  refine ok_objInit 4 (by decide +kernel) dX0_init_1 rfl rfl ml_Encores_Fewest_3 (Nat.le_of_ble_eq_true rfl) ?_
  refine ok_aload_n 5 0 dX0_init_4 rfl rfl rfl ?_
  refine ok_new (ty := ty9) (ci := 9) 8 dX0_init_5 rfl rfl kl_Encores_Fewest_9 in_Encores_Table wi_Encores_Table (by decide) rfl ty9_ok dv_9 (by decide +kernel) (by decide +kernel) rfl (by decide +kernel) ?_
  refine ok_shape (S2 := S_237) rfl ?_
  refine ok_bndME (fun m_5_4 hm_m_5_4 => ?_)
  show Ok _ _ _ _ _ _ (.ref 117 :: _) _ _ _
  refine ok_dup 9 dX0_init_8 rfl rfl ?_
  refine ok_iconst 10 5 dX0_init_9 rfl rfl ?_
  refine ok_bipush 12 12 dX0_init_10 rfl rfl ?_
  refine ok_callI (np := 2) (M' := m_X9_init) (As := [.int 5, .int 12]) (st := [.ref 117, .ref 116]) (r := 117) 15 dX0_init_12 rfl rfl km_X9_init ki_X9_init ml_Encores_Fewest_11 (by decide) rfl rfl rfl rfl (Nat.le_of_ble_eq_true rfl) (ci_63 (d + 0) m_5_4) (by decide +kernel) (Or.inr (okR_of rfl)) (fun _ m_12_8 _ => ?_)
  refine ok_putFR 18 dX0_init_15 rfl rfl rfl rfl F_Encores_Fewest_14 (show S_239[116]? = some (0, 7, [none, none, none, none, none, none, none]) from rfl) (Nat.le_of_ble_eq_true rfl) (Nat.le_of_ble_eq_true rfl) rfl rfl pZ_0_3 (fun _ => rfl) (fun _ => rfl) ?_
  refine ok_shape (S2 := S_240) rfl ?_
  refine ok_aload_n 19 0 dX0_init_18 rfl rfl rfl ?_
  refine ok_new (ty := ty9) (ci := 9) 22 dX0_init_19 rfl rfl kl_Encores_Fewest_9 in_Encores_Table wi_Encores_Table (by decide) rfl ty9_ok dv_9 (by decide +kernel) (by decide +kernel) rfl (by decide +kernel) ?_
  refine ok_shape (S2 := S_241) rfl ?_
  refine ok_bndME (fun m_19_11 hm_m_19_11 => ?_)
  show Ok _ _ _ _ _ _ (.ref 119 :: _) _ _ _
  refine ok_dup 23 dX0_init_22 rfl rfl ?_
  refine ok_iconst 24 5 dX0_init_23 rfl rfl ?_
  refine ok_iconst 25 1 dX0_init_24 rfl rfl ?_
  refine ok_callI (np := 2) (M' := m_X9_init) (As := [.int 5, .int 1]) (st := [.ref 119, .ref 116]) (r := 119) 28 dX0_init_25 rfl rfl km_X9_init ki_X9_init ml_Encores_Fewest_11 (by decide) rfl rfl rfl rfl (Nat.le_of_ble_eq_true rfl) (ci_64 (d + 0) m_19_11) (by decide +kernel) (Or.inr (okR_of rfl)) (fun _ m_25_15 _ => ?_)
  refine ok_putFR 31 dX0_init_28 rfl rfl rfl rfl F_Encores_Fewest_20 (show S_243[116]? = some (0, 7, [none, none, none, some 117, none, none, none]) from rfl) (Nat.le_of_ble_eq_true rfl) (Nat.le_of_ble_eq_true rfl) rfl rfl pZ_0_4 (fun _ => rfl) (fun _ => rfl) ?_
  refine ok_shape (S2 := S_244) rfl ?_
  refine ok_aload_n 32 0 dX0_init_31 rfl rfl rfl ?_
  refine ok_aload_n 33 1 dX0_init_32 rfl rfl rfl ?_
  refine ok_putFR 36 dX0_init_33 rfl rfl rfl rfl F_Encores_Fewest_23 (show S_244[116]? = some (0, 7, [none, none, none, some 117, some 119, none, none]) from rfl) (Nat.le_of_ble_eq_true rfl) (Nat.le_of_ble_eq_true rfl) rfl rfl pZ_0_0 (fun _ => rfl) (fun _ => rfl) ?_
  refine ok_shape (S2 := S_245) rfl ?_
  refine ok_aload_n 37 0 dX0_init_36 rfl rfl rfl ?_
  refine ok_aload_n 38 2 dX0_init_37 rfl rfl rfl ?_
  refine ok_putFR 41 dX0_init_38 rfl rfl rfl rfl F_Encores_Fewest_27 (show S_245[116]? = some (0, 7, [some 2, none, none, some 117, some 119, none, none]) from rfl) (Nat.le_of_ble_eq_true rfl) (Nat.le_of_ble_eq_true rfl) rfl rfl pZ_0_1 (fun _ => rfl) (fun _ => rfl) ?_
  refine ok_shape (S2 := S_246) rfl ?_
  refine ok_aload_n 42 0 dX0_init_41 rfl rfl rfl ?_
  refine ok_aload_n 43 3 dX0_init_42 rfl rfl rfl ?_
  refine ok_putFR 46 dX0_init_43 rfl rfl rfl rfl F_Encores_Fewest_31 (show S_246[116]? = some (0, 7, [some 2, some 110, none, some 117, some 119, none, none]) from rfl) (Nat.le_of_ble_eq_true rfl) (Nat.le_of_ble_eq_true rfl) rfl rfl pZ_0_2 (fun _ => rfl) (fun _ => rfl) ?_
  refine ok_shape (S2 := S_247) rfl ?_
  exact ok_vret dX0_init_46 rfl
theorem ci_62 (d : Nat) (m : Mem) : CM SX (d + 2) m_X0_init S_247 S_236 [.ref 116, .ref 2, .ref 110, .ref 113] m (gi_62 m) :=
  CM.ofOk km_X0_init (by decide +kernel) (by simp [Value.category]) (Nat.le_of_ble_eq_true rfl) (oi_62 d m)

def gi_65 (m : Mem) : Ans :=
some (0, m)
set_option maxRecDepth 100000 in
set_option maxHeartbeats 8000000 in
theorem oi_65 (d : Nat) (m : Mem) : Ok SX S_250 (d + 1) m_X7_init 0 [some (.ref 121), some (.ref 2)] [] S_249 m (gi_65 m) := by
  unfold gi_65
  refine ok_aload_n 1 0 dX7_init_0 rfl rfl rfl ?_
  refine ok_objInit 4 (by decide +kernel) dX7_init_1 rfl rfl ml_Encores_Seats_3 (Nat.le_of_ble_eq_true rfl) ?_
  refine ok_aload_n 5 0 dX7_init_4 rfl rfl rfl ?_
  refine ok_aload_n 6 1 dX7_init_5 rfl rfl rfl ?_
  refine ok_putFR 9 dX7_init_6 rfl rfl rfl rfl F_Encores_Seats_9 (show S_249[121]? = some (7, 1, [none]) from rfl) (Nat.le_of_ble_eq_true rfl) (Nat.le_of_ble_eq_true rfl) rfl rfl pZ_7_0 (fun _ => rfl) (fun _ => rfl) ?_
  refine ok_shape (S2 := S_250) rfl ?_
  exact ok_vret dX7_init_9 rfl
theorem ci_65 (d : Nat) (m : Mem) : CM SX (d + 1) m_X7_init S_250 S_249 [.ref 121, .ref 2] m (gi_65 m) :=
  CM.ofOk km_X7_init (by decide +kernel) (by simp [Value.category]) (Nat.le_of_ble_eq_true rfl) (oi_65 d m)

def gi_66 (m : Mem) : Ans :=
some (0, m)
set_option maxRecDepth 100000 in
set_option maxHeartbeats 8000000 in
theorem oi_66 (d : Nat) (m : Mem) : Ok SX S_253 (d + 1) m_X5_init 0 [some (.ref 122), some (.ref 2)] [] S_252 m (gi_66 m) := by
  unfold gi_66
  refine ok_aload_n 1 0 dX5_init_0 rfl rfl rfl ?_
  refine ok_objInit 4 (by decide +kernel) dX5_init_1 rfl rfl ml_Encores_Programme_3 (Nat.le_of_ble_eq_true rfl) ?_
  refine ok_aload_n 5 0 dX5_init_4 rfl rfl rfl ?_
  refine ok_aload_n 6 1 dX5_init_5 rfl rfl rfl ?_
  refine ok_putFR 9 dX5_init_6 rfl rfl rfl rfl F_Encores_Programme_9 (show S_252[122]? = some (5, 1, [none]) from rfl) (Nat.le_of_ble_eq_true rfl) (Nat.le_of_ble_eq_true rfl) rfl rfl pZ_5_0 (fun _ => rfl) (fun _ => rfl) ?_
  refine ok_shape (S2 := S_253) rfl ?_
  exact ok_vret dX5_init_9 rfl
theorem ci_66 (d : Nat) (m : Mem) : CM SX (d + 1) m_X5_init S_253 S_252 [.ref 122, .ref 2] m (gi_66 m) :=
  CM.ofOk km_X5_init (by decide +kernel) (by simp [Value.category]) (Nat.le_of_ble_eq_true rfl) (oi_66 d m)

def gi_0 (m : Mem) : Ans :=
bnd (mnew m 1) fun m_7_5 =>
bnd (mnew m_7_5 2) fun m_13_8 =>
bd (gi_1 m_13_8) fun _ m_17_10 =>
bnd (mnew m_17_10 25) fun m_24_13 =>
bd (gi_13 m_24_13) fun _ m_28_15 =>
bnd (mset m_28_15 0 2 0) fun m_36_19 =>
bnd (mnew m_36_19 48) fun m_40_21 =>
bd (gi_25 m_40_21) fun _ m_44_23 =>
bnd (mnew m_44_23 92) fun m_51_26 =>
bd (gi_50 m_51_26) fun _ m_55_28 =>
bnd (mnew m_55_28 99) fun m_62_31 =>
bd (gi_54 m_62_31) fun _ m_66_33 =>
bnd (mnew m_66_33 103) fun m_73_36 =>
bd (gi_56 m_73_36) fun _ m_81_40 =>
bnd (mnew m_81_40 110) fun m_88_43 =>
bd (gi_60 m_88_43) fun _ m_96_47 =>
bnd (mnew m_96_47 113) fun m_103_50 =>
bd (gi_61 m_103_50) fun _ m_115_56 =>
bnd (mnew m_115_56 116) fun m_122_59 =>
bd (gi_62 m_122_59) fun _ m_138_67 =>
bnd (mnew m_138_67 121) fun m_145_70 =>
bd (gi_65 m_145_70) fun _ m_153_74 =>
bnd (mnew m_153_74 122) fun m_160_77 =>
bd (gi_66 m_160_77) fun _ m_168_81 =>
some (0, m_168_81)
set_option maxRecDepth 100000 in
set_option maxHeartbeats 8000000 in
theorem oi_0 (d : Nat) (m : Mem) : Ok SX S_254 (d + 4) m_X11_init 0 [some (.ref 0)] [] S_1 m (gi_0 m) := by
  unfold gi_0
  refine ok_aload_n 1 0 dX11_init_0 rfl rfl rfl ?_
  refine ok_objInit 4 (by decide +kernel) dX11_init_1 rfl rfl ml_Encores_3 (Nat.le_of_ble_eq_true rfl) ?_
  refine ok_aload_n 5 0 dX11_init_4 rfl rfl rfl ?_
  refine ok_bipush 7 12 dX11_init_5 rfl rfl ?_
  refine ok_newa (N := 12) 9 dX11_init_7 rfl (by decide) (by decide) (by decide) (by decide +kernel) (by decide +kernel) rfl (by decide +kernel) ?_
  refine ok_shape (S2 := S_2) rfl ?_
  refine ok_bndME (fun m_7_5 hm_m_7_5 => ?_)
  show Ok _ _ _ _ _ _ (.ref 1 :: _) _ _ _
  refine ok_putFR 12 dX11_init_9 rfl rfl rfl rfl F_Encores_9 (show S_2[0]? = some (11, 13, [none, none, none, none, none, none, none, none, none, none, none, none, none]) from rfl) (Nat.le_of_ble_eq_true rfl) (Nat.le_of_ble_eq_true rfl) rfl rfl pZ_11_12 (fun _ => rfl) (fun _ => rfl) ?_
  refine ok_shape (S2 := S_3) rfl ?_
  refine ok_aload_n 13 0 dX11_init_12 rfl rfl rfl ?_
  refine ok_new (ty := ty1) (ci := 1) 16 dX11_init_13 rfl rfl kl_Encores_13 in_Encores_House wi_Encores_House (by decide) rfl ty1_ok dv_1 (by decide +kernel) (by decide +kernel) rfl (by decide +kernel) ?_
  refine ok_shape (S2 := S_4) rfl ?_
  refine ok_bndME (fun m_13_8 hm_m_13_8 => ?_)
  show Ok _ _ _ _ _ _ (.ref 2 :: _) _ _ _
  refine ok_dup 17 dX11_init_16 rfl rfl ?_
  refine ok_callI (np := 0) (M' := m_X1_init) (As := []) (st := [.ref 2, .ref 0]) (r := 2) 20 dX11_init_17 rfl rfl km_X1_init ki_X1_init ml_Encores_15 (by decide) rfl rfl rfl rfl (Nat.le_of_ble_eq_true rfl) (ci_1 (d + 1) m_13_8) (by decide +kernel) (Or.inr (okR_of rfl)) (fun _ m_17_10 _ => ?_)
  refine ok_putFR 23 dX11_init_20 rfl rfl rfl rfl F_Encores_16 (show S_48[0]? = some (11, 13, [none, none, none, none, none, none, none, none, none, none, none, none, some 1]) from rfl) (Nat.le_of_ble_eq_true rfl) (Nat.le_of_ble_eq_true rfl) rfl rfl pZ_11_0 (fun _ => rfl) (fun _ => rfl) ?_
  refine ok_shape (S2 := S_49) rfl ?_
  refine ok_aload_n 24 0 dX11_init_23 rfl rfl rfl ?_
  refine ok_new (ty := ty1) (ci := 1) 27 dX11_init_24 rfl rfl kl_Encores_13 in_Encores_House wi_Encores_House (by decide) rfl ty1_ok dv_1 (by decide +kernel) (by decide +kernel) rfl (by decide +kernel) ?_
  refine ok_shape (S2 := S_50) rfl ?_
  refine ok_bndME (fun m_24_13 hm_m_24_13 => ?_)
  show Ok _ _ _ _ _ _ (.ref 25 :: _) _ _ _
  refine ok_dup 28 dX11_init_27 rfl rfl ?_
  refine ok_callI (np := 0) (M' := m_X1_init) (As := []) (st := [.ref 25, .ref 0]) (r := 25) 31 dX11_init_28 rfl rfl km_X1_init ki_X1_init ml_Encores_15 (by decide) rfl rfl rfl rfl (Nat.le_of_ble_eq_true rfl) (ci_13 (d + 1) m_24_13) (by decide +kernel) (Or.inr (okR_of rfl)) (fun _ m_28_15 _ => ?_)
  refine ok_putFR 34 dX11_init_31 rfl rfl rfl rfl F_Encores_20 (show S_94[0]? = some (11, 13, [some 2, none, none, none, none, none, none, none, none, none, none, none, some 1]) from rfl) (Nat.le_of_ble_eq_true rfl) (Nat.le_of_ble_eq_true rfl) rfl rfl pZ_11_1 (fun _ => rfl) (fun _ => rfl) ?_
  refine ok_shape (S2 := S_95) rfl ?_
  refine ok_aload_n 35 0 dX11_init_34 rfl rfl rfl ?_
  refine ok_iconst 36 0 dX11_init_35 rfl rfl ?_
  refine ok_putZc 39 dX11_init_36 rfl rfl F_Encores_23 (show S_95[0]? = some (11, 13, [some 2, some 25, none, none, none, none, none, none, none, none, none, none, some 1]) from rfl) rfl (Nat.le_of_ble_eq_true rfl) rfl rfl pZ_11_2 rfl ?_
  refine ok_bndME (fun m_36_19 hm_m_36_19 => ?_)
  refine ok_aload_n 40 0 dX11_init_39 rfl rfl rfl ?_
  refine ok_new (ty := ty4) (ci := 4) 43 dX11_init_40 rfl rfl kl_Encores_27 in_Encores_Past wi_Encores_Past (by decide) rfl ty4_ok dv_4 (by decide +kernel) (by decide +kernel) rfl (by decide +kernel) ?_
  refine ok_shape (S2 := S_96) rfl ?_
  refine ok_bndME (fun m_40_21 hm_m_40_21 => ?_)
  show Ok _ _ _ _ _ _ (.ref 48 :: _) _ _ _
  refine ok_dup 44 dX11_init_43 rfl rfl ?_
  refine ok_callI (np := 0) (M' := m_X4_init) (As := []) (st := [.ref 48, .ref 0]) (r := 48) 47 dX11_init_44 rfl rfl km_X4_init ki_X4_init ml_Encores_29 (by decide) rfl rfl rfl rfl (Nat.le_of_ble_eq_true rfl) (ci_25 (d + 0) m_40_21) (by decide +kernel) (Or.inr (okR_of rfl)) (fun _ m_44_23 _ => ?_)
  refine ok_putFR 50 dX11_init_47 rfl rfl rfl rfl F_Encores_30 (show S_182[0]? = some (11, 13, [some 2, some 25, none, none, none, none, none, none, none, none, none, none, some 1]) from rfl) (Nat.le_of_ble_eq_true rfl) (Nat.le_of_ble_eq_true rfl) rfl rfl pZ_11_3 (fun _ => rfl) (fun _ => rfl) ?_
  refine ok_shape (S2 := S_183) rfl ?_
  refine ok_aload_n 51 0 dX11_init_50 rfl rfl rfl ?_
  refine ok_new (ty := ty3) (ci := 3) 54 dX11_init_51 rfl rfl kl_Encores_34 in_Encores_Moment wi_Encores_Moment (by decide) rfl ty3_ok dv_3 (by decide +kernel) (by decide +kernel) rfl (by decide +kernel) ?_
  refine ok_shape (S2 := S_184) rfl ?_
  refine ok_bndME (fun m_51_26 hm_m_51_26 => ?_)
  show Ok _ _ _ _ _ _ (.ref 92 :: _) _ _ _
  refine ok_dup 55 dX11_init_54 rfl rfl ?_
  refine ok_callIN (np := 0) (M' := m_X3_init) (As := []) (st := [.ref 92, .ref 0]) (r := 92) 58 0 dX11_init_55 rfl rfl km_X3_init ki_X3_init rfl (by decide) rfl rfl rfl rfl (Nat.le_of_ble_eq_true rfl) (ci_50 (d + 1) m_51_26) (by decide +kernel) (Or.inr (okR_of rfl)) (fun _ m_55_28 _ => ?_)
  refine ok_putFR 61 dX11_init_58 rfl rfl rfl rfl F_Encores_37 (show S_196[0]? = some (11, 13, [some 2, some 25, none, some 48, none, none, none, none, none, none, none, none, some 1]) from rfl) (Nat.le_of_ble_eq_true rfl) (Nat.le_of_ble_eq_true rfl) rfl rfl pZ_11_4 (fun _ => rfl) (fun _ => rfl) ?_
  refine ok_shape (S2 := S_197) rfl ?_
  refine ok_aload_n 62 0 dX11_init_61 rfl rfl rfl ?_
  refine ok_new (ty := ty10) (ci := 10) 65 dX11_init_62 rfl rfl kl_Encores_41 in_Encores_Tape wi_Encores_Tape (by decide) rfl ty10_ok dv_10 (by decide +kernel) (by decide +kernel) rfl (by decide +kernel) ?_
  refine ok_shape (S2 := S_198) rfl ?_
  refine ok_bndME (fun m_62_31 hm_m_62_31 => ?_)
  show Ok _ _ _ _ _ _ (.ref 99 :: _) _ _ _
  refine ok_dup 66 dX11_init_65 rfl rfl ?_
  refine ok_callIN (np := 0) (M' := m_X10_init) (As := []) (st := [.ref 99, .ref 0]) (r := 99) 69 1 dX11_init_66 rfl rfl km_X10_init ki_X10_init rfl (by decide) rfl rfl rfl rfl (Nat.le_of_ble_eq_true rfl) (ci_54 (d + 1) m_62_31) (by decide +kernel) (Or.inr (okR_of rfl)) (fun _ m_66_33 _ => ?_)
  refine ok_putFR 72 dX11_init_69 rfl rfl rfl rfl F_Encores_44 (show S_204[0]? = some (11, 13, [some 2, some 25, none, some 48, some 92, none, none, none, none, none, none, none, some 1]) from rfl) (Nat.le_of_ble_eq_true rfl) (Nat.le_of_ble_eq_true rfl) rfl rfl pZ_11_5 (fun _ => rfl) (fun _ => rfl) ?_
  refine ok_shape (S2 := S_205) rfl ?_
  refine ok_aload_n 73 0 dX11_init_72 rfl rfl rfl ?_
  refine ok_new (ty := ty6) (ci := 6) 76 dX11_init_73 rfl rfl kl_Encores_48 in_Encores_Reader wi_Encores_Reader (by decide) rfl ty6_ok dv_6 (by decide +kernel) (by decide +kernel) rfl (by decide +kernel) ?_
  refine ok_shape (S2 := S_206) rfl ?_
  refine ok_bndME (fun m_73_36 hm_m_73_36 => ?_)
  show Ok _ _ _ _ _ _ (.ref 103 :: _) _ _ _
  refine ok_dup 77 dX11_init_76 rfl rfl ?_
  refine ok_aload_n 78 0 dX11_init_77 rfl rfl rfl ?_
  refine ok_getR 81 dX11_init_78 rfl rfl F_Encores_44 (show S_206[0]? = some (11, 13, [some 2, some 25, none, some 48, some 92, some 99, none, none, none, none, none, none, some 1]) from rfl) rfl (Nat.le_of_ble_eq_true rfl) rfl rfl ?_
  refine ok_callI (np := 1) (M' := m_X6_init) (As := [.ref 99]) (st := [.ref 103, .ref 0]) (r := 103) 84 dX11_init_81 rfl rfl km_X6_init ki_X6_init ml_Encores_50 (by decide) rfl rfl rfl rfl (Nat.le_of_ble_eq_true rfl) (ci_56 (d + 1) m_73_36) (by decide +kernel) (Or.inr (okR_of rfl)) (fun _ m_81_40 _ => ?_)
  refine ok_putFR 87 dX11_init_84 rfl rfl rfl rfl F_Encores_53 (show S_219[0]? = some (11, 13, [some 2, some 25, none, some 48, some 92, some 99, none, none, none, none, none, none, some 1]) from rfl) (Nat.le_of_ble_eq_true rfl) (Nat.le_of_ble_eq_true rfl) rfl rfl pZ_11_6 (fun _ => rfl) (fun _ => rfl) ?_
  refine ok_shape (S2 := S_220) rfl ?_
  refine ok_aload_n 88 0 dX11_init_87 rfl rfl rfl ?_
  refine ok_new (ty := ty2) (ci := 2) 91 dX11_init_88 rfl rfl kl_Encores_57 in_Encores_Law wi_Encores_Law (by decide) rfl ty2_ok dv_2 (by decide +kernel) (by decide +kernel) rfl (by decide +kernel) ?_
  refine ok_shape (S2 := S_221) rfl ?_
  refine ok_bndME (fun m_88_43 hm_m_88_43 => ?_)
  show Ok _ _ _ _ _ _ (.ref 110 :: _) _ _ _
  refine ok_dup 92 dX11_init_91 rfl rfl ?_
  refine ok_aload_n 93 0 dX11_init_92 rfl rfl rfl ?_
  refine ok_getR 96 dX11_init_93 rfl rfl F_Encores_16 (show S_221[0]? = some (11, 13, [some 2, some 25, none, some 48, some 92, some 99, some 103, none, none, none, none, none, some 1]) from rfl) rfl (Nat.le_of_ble_eq_true rfl) rfl rfl ?_
  refine ok_callI (np := 1) (M' := m_X2_init) (As := [.ref 2]) (st := [.ref 110, .ref 0]) (r := 110) 99 dX11_init_96 rfl rfl km_X2_init ki_X2_init ml_Encores_59 (by decide) rfl rfl rfl rfl (Nat.le_of_ble_eq_true rfl) (ci_60 (d + 2) m_88_43) (by decide +kernel) (Or.inr (okR_of rfl)) (fun _ m_96_47 _ => ?_)
  refine ok_putFR 102 dX11_init_99 rfl rfl rfl rfl F_Encores_62 (show S_226[0]? = some (11, 13, [some 2, some 25, none, some 48, some 92, some 99, some 103, none, none, none, none, none, some 1]) from rfl) (Nat.le_of_ble_eq_true rfl) (Nat.le_of_ble_eq_true rfl) rfl rfl pZ_11_7 (fun _ => rfl) (fun _ => rfl) ?_
  refine ok_shape (S2 := S_227) rfl ?_
  refine ok_aload_n 103 0 dX11_init_102 rfl rfl rfl ?_
  refine ok_new (ty := ty8) (ci := 8) 106 dX11_init_103 rfl rfl kl_Encores_66 in_Encores_Stage wi_Encores_Stage (by decide) rfl ty8_ok dv_8 (by decide +kernel) (by decide +kernel) rfl (by decide +kernel) ?_
  refine ok_shape (S2 := S_228) rfl ?_
  refine ok_bndME (fun m_103_50 hm_m_103_50 => ?_)
  show Ok _ _ _ _ _ _ (.ref 113 :: _) _ _ _
  refine ok_dup 107 dX11_init_106 rfl rfl ?_
  refine ok_aload_n 108 0 dX11_init_107 rfl rfl rfl ?_
  refine ok_getR 111 dX11_init_108 rfl rfl F_Encores_16 (show S_228[0]? = some (11, 13, [some 2, some 25, none, some 48, some 92, some 99, some 103, some 110, none, none, none, none, some 1]) from rfl) rfl (Nat.le_of_ble_eq_true rfl) rfl rfl ?_
  refine ok_aload_n 112 0 dX11_init_111 rfl rfl rfl ?_
  refine ok_getR 115 dX11_init_112 rfl rfl F_Encores_62 (show S_228[0]? = some (11, 13, [some 2, some 25, none, some 48, some 92, some 99, some 103, some 110, none, none, none, none, some 1]) from rfl) rfl (Nat.le_of_ble_eq_true rfl) rfl rfl ?_
  refine ok_callI (np := 2) (M' := m_X8_init) (As := [.ref 2, .ref 110]) (st := [.ref 113, .ref 0]) (r := 113) 118 dX11_init_115 rfl rfl km_X8_init ki_X8_init ml_Encores_68 (by decide) rfl rfl rfl rfl (Nat.le_of_ble_eq_true rfl) (ci_61 (d + 2) m_103_50) (by decide +kernel) (Or.inr (okR_of rfl)) (fun _ m_115_56 _ => ?_)
  refine ok_putFR 121 dX11_init_118 rfl rfl rfl rfl F_Encores_71 (show S_234[0]? = some (11, 13, [some 2, some 25, none, some 48, some 92, some 99, some 103, some 110, none, none, none, none, some 1]) from rfl) (Nat.le_of_ble_eq_true rfl) (Nat.le_of_ble_eq_true rfl) rfl rfl pZ_11_8 (fun _ => rfl) (fun _ => rfl) ?_
  refine ok_shape (S2 := S_235) rfl ?_
  refine ok_aload_n 122 0 dX11_init_121 rfl rfl rfl ?_
  refine ok_new (ty := ty0) (ci := 0) 125 dX11_init_122 rfl rfl kl_Encores_75 in_Encores_Fewest wi_Encores_Fewest (by decide) rfl ty0_ok dv_0 (by decide +kernel) (by decide +kernel) rfl (by decide +kernel) ?_
  refine ok_shape (S2 := S_236) rfl ?_
  refine ok_bndME (fun m_122_59 hm_m_122_59 => ?_)
  show Ok _ _ _ _ _ _ (.ref 116 :: _) _ _ _
  refine ok_dup 126 dX11_init_125 rfl rfl ?_
  refine ok_aload_n 127 0 dX11_init_126 rfl rfl rfl ?_
  refine ok_getR 130 dX11_init_127 rfl rfl F_Encores_16 (show S_236[0]? = some (11, 13, [some 2, some 25, none, some 48, some 92, some 99, some 103, some 110, some 113, none, none, none, some 1]) from rfl) rfl (Nat.le_of_ble_eq_true rfl) rfl rfl ?_
  refine ok_aload_n 131 0 dX11_init_130 rfl rfl rfl ?_
  refine ok_getR 134 dX11_init_131 rfl rfl F_Encores_62 (show S_236[0]? = some (11, 13, [some 2, some 25, none, some 48, some 92, some 99, some 103, some 110, some 113, none, none, none, some 1]) from rfl) rfl (Nat.le_of_ble_eq_true rfl) rfl rfl ?_
  refine ok_aload_n 135 0 dX11_init_134 rfl rfl rfl ?_
  refine ok_getR 138 dX11_init_135 rfl rfl F_Encores_71 (show S_236[0]? = some (11, 13, [some 2, some 25, none, some 48, some 92, some 99, some 103, some 110, some 113, none, none, none, some 1]) from rfl) rfl (Nat.le_of_ble_eq_true rfl) rfl rfl ?_
  refine ok_callI (np := 3) (M' := m_X0_init) (As := [.ref 2, .ref 110, .ref 113]) (st := [.ref 116, .ref 0]) (r := 116) 141 dX11_init_138 rfl rfl km_X0_init ki_X0_init ml_Encores_77 (by decide) rfl rfl rfl rfl (Nat.le_of_ble_eq_true rfl) (ci_62 (d + 1) m_122_59) (by decide +kernel) (Or.inr (okR_of rfl)) (fun _ m_138_67 _ => ?_)
  refine ok_putFR 144 dX11_init_141 rfl rfl rfl rfl F_Encores_80 (show S_247[0]? = some (11, 13, [some 2, some 25, none, some 48, some 92, some 99, some 103, some 110, some 113, none, none, none, some 1]) from rfl) (Nat.le_of_ble_eq_true rfl) (Nat.le_of_ble_eq_true rfl) rfl rfl pZ_11_9 (fun _ => rfl) (fun _ => rfl) ?_
  refine ok_shape (S2 := S_248) rfl ?_
  refine ok_aload_n 145 0 dX11_init_144 rfl rfl rfl ?_
  refine ok_new (ty := ty7) (ci := 7) 148 dX11_init_145 rfl rfl kl_Encores_84 in_Encores_Seats wi_Encores_Seats (by decide) rfl ty7_ok dv_7 (by decide +kernel) (by decide +kernel) rfl (by decide +kernel) ?_
  refine ok_shape (S2 := S_249) rfl ?_
  refine ok_bndME (fun m_145_70 hm_m_145_70 => ?_)
  show Ok _ _ _ _ _ _ (.ref 121 :: _) _ _ _
  refine ok_dup 149 dX11_init_148 rfl rfl ?_
  refine ok_aload_n 150 0 dX11_init_149 rfl rfl rfl ?_
  refine ok_getR 153 dX11_init_150 rfl rfl F_Encores_16 (show S_249[0]? = some (11, 13, [some 2, some 25, none, some 48, some 92, some 99, some 103, some 110, some 113, some 116, none, none, some 1]) from rfl) rfl (Nat.le_of_ble_eq_true rfl) rfl rfl ?_
  refine ok_callI (np := 1) (M' := m_X7_init) (As := [.ref 2]) (st := [.ref 121, .ref 0]) (r := 121) 156 dX11_init_153 rfl rfl km_X7_init ki_X7_init ml_Encores_86 (by decide) rfl rfl rfl rfl (Nat.le_of_ble_eq_true rfl) (ci_65 (d + 2) m_145_70) (by decide +kernel) (Or.inr (okR_of rfl)) (fun _ m_153_74 _ => ?_)
  refine ok_putFR 159 dX11_init_156 rfl rfl rfl rfl F_Encores_87 (show S_250[0]? = some (11, 13, [some 2, some 25, none, some 48, some 92, some 99, some 103, some 110, some 113, some 116, none, none, some 1]) from rfl) (Nat.le_of_ble_eq_true rfl) (Nat.le_of_ble_eq_true rfl) rfl rfl pZ_11_10 (fun _ => rfl) (fun _ => rfl) ?_
  refine ok_shape (S2 := S_251) rfl ?_
  refine ok_aload_n 160 0 dX11_init_159 rfl rfl rfl ?_
  refine ok_new (ty := ty5) (ci := 5) 163 dX11_init_160 rfl rfl kl_Encores_91 in_Encores_Programme wi_Encores_Programme (by decide) rfl ty5_ok dv_5 (by decide +kernel) (by decide +kernel) rfl (by decide +kernel) ?_
  refine ok_shape (S2 := S_252) rfl ?_
  refine ok_bndME (fun m_160_77 hm_m_160_77 => ?_)
  show Ok _ _ _ _ _ _ (.ref 122 :: _) _ _ _
  refine ok_dup 164 dX11_init_163 rfl rfl ?_
  refine ok_aload_n 165 0 dX11_init_164 rfl rfl rfl ?_
  refine ok_getR 168 dX11_init_165 rfl rfl F_Encores_16 (show S_252[0]? = some (11, 13, [some 2, some 25, none, some 48, some 92, some 99, some 103, some 110, some 113, some 116, some 121, none, some 1]) from rfl) rfl (Nat.le_of_ble_eq_true rfl) rfl rfl ?_
  refine ok_callI (np := 1) (M' := m_X5_init) (As := [.ref 2]) (st := [.ref 122, .ref 0]) (r := 122) 171 dX11_init_168 rfl rfl km_X5_init ki_X5_init ml_Encores_93 (by decide) rfl rfl rfl rfl (Nat.le_of_ble_eq_true rfl) (ci_66 (d + 2) m_160_77) (by decide +kernel) (Or.inr (okR_of rfl)) (fun _ m_168_81 _ => ?_)
  refine ok_putFR 174 dX11_init_171 rfl rfl rfl rfl F_Encores_94 (show S_253[0]? = some (11, 13, [some 2, some 25, none, some 48, some 92, some 99, some 103, some 110, some 113, some 116, some 121, none, some 1]) from rfl) (Nat.le_of_ble_eq_true rfl) (Nat.le_of_ble_eq_true rfl) rfl rfl pZ_11_11 (fun _ => rfl) (fun _ => rfl) ?_
  refine ok_shape (S2 := S_254) rfl ?_
  exact ok_vret dX11_init_174 rfl
theorem ci_0 (d : Nat) (m : Mem) : CM SX (d + 4) m_X11_init S_254 S_1 [.ref 0] m (gi_0 m) :=
  CM.ofOk km_X11_init (by decide +kernel) (by simp [Value.category]) (Nat.le_of_ble_eq_true rfl) (oi_0 d m)

