def f_X7_all (N : Nat)  (m : Mem) : Ans :=
some ((((1 : Int32) <<< ((m 3 3) &&& 31)) - (1 : Int32)), m)

set_option maxRecDepth 100000 in
set_option maxHeartbeats 4000000 in
theorem ok_X7_all (N d : Nat)   (m : Mem) : Ok none SG (d + 0) m_X7_all 0 [some (.ref 121)] [] SG m (f_X7_all N m) := by
  unfold f_X7_all
  refine ok_iconst 1 1 dX7_all_0 rfl rfl ?_
  refine ok_aload_n 2 0 dX7_all_1 rfl rfl rfl ?_
  refine ok_getR 5 dX7_all_2 rfl rfl F_Encores_Seats_9 sg_121 rfl (Nat.le_of_ble_eq_true rfl) rfl rfl ?_
  refine ok_getR 8 dX7_all_5 rfl rfl F_Encores_Seats_15 sg_2 rfl (Nat.le_of_ble_eq_true rfl) rfl rfl ?_
  refine ok_getI 11 dX7_all_8 rfl rfl F_Encores_Seats_21 sg_3 rfl (Nat.le_of_ble_eq_true rfl) rfl ?_
  refine ok_ishl 12 dX7_all_11 rfl ?_
  refine ok_iconst 13 1 dX7_all_12 rfl rfl ?_
  refine ok_isub 14 dX7_all_13 rfl ?_
  exact ok_iret dX7_all_14 rfl

theorem c_X7_all (N d : Nat)   (m : Mem) : CM (d + 0) m_X7_all SG SG [.ref 121] m (f_X7_all N m) :=
  CM.ofOk km_X7_all ⟨Nat.le_refl _, Nat.le_refl _⟩ (by simp [Value.category]) (Nat.le_of_ble_eq_true rfl) (ok_X7_all N d  m)

def f_X7_reached_L26 (N : Nat) (a1 : Int32) (a2 : Int32) (a3 : Int32) (s4_6 : Int32) (s5_6 : Int32) (K78 : Int32 → Mem → Ans) (X : Int32 → Int32 → Mem → Ans) (s6_26 : Int32) (s7_26 : Int32) (m : Mem) : Ans :=
if (m 3 3) ≤ s7_26 then (K78 s6_26 m)
else (bd (f_X11_isIn N s7_26 s4_6 m) fun r_45 m_45 =>
if r_45 = 0 then (X s6_26 (s7_26 + 1) m_45)
else (bd (f_X9_at N 3 s7_26 6 m_45) fun r_64 m_64 =>
bnd (s6_26 ||| (r_64 &&& a3)) fun a6_70 =>
X a6_70 (s7_26 + 1) m_64))

def f_X7_reached_L6 (N : Nat) (a1 : Int32) (a2 : Int32) (a3 : Int32)   (X : Int32 → Int32 → Mem → Ans) (s4_6 : Int32) (s5_6 : Int32) (m : Mem) : Ans :=
if a2 ≤ s5_6 then (some (s4_6, m))
else (if (12 : Int32) ≤ s5_6 then (some (s4_6, m))
else (it2 (f_X7_reached_L26 N a1 a2 a3 s4_6 s5_6 (fun k6_78 mk78 => if k6_78 = s4_6 then (some (s4_6, mk78))
else (X k6_78 (s5_6 + 1) mk78))) N s4_6 0 m))

def f_X7_reached (N : Nat) (a1 : Int32) (a2 : Int32) (a3 : Int32) (m : Mem) : Ans :=
it2 (f_X7_reached_L6 N a1 a2 a3 ) N a1 0 m

set_option maxRecDepth 100000 in
set_option maxHeartbeats 4000000 in
theorem ok_X7_reached_L26 (N d : Nat) (a1 : Int32) (a2 : Int32) (a3 : Int32)  (s4_6 : Int32) (s5_6 : Int32) (K78 : Int32 → Mem → Ans) (hK78 : ∀ (k6 : Int32) (m : Mem), Ok none SG (d + 1) m_X7_reached 78 [some (.ref 121), none, some (.int a2), some (.int a3), some (.int s4_6), some (.int s5_6), some (.int k6), none] [] SG m (K78 k6 m)) : ∀ (n : Nat) (s6_26 : Int32) (s7_26 : Int32) (m : Mem), Ok none SG (d + 1) m_X7_reached 26 [some (.ref 121), none, some (.int a2), some (.int a3), some (.int s4_6), some (.int s5_6), some (.int s6_26), some (.int s7_26)] [] SG m (it2 (f_X7_reached_L26 N a1 a2 a3 s4_6 s5_6 K78) n s6_26 s7_26 m) :=
  ok_it2 (fun s6_26 s7_26 => [some (.ref 121), none, some (.int a2), some (.int a3), some (.int s4_6), some (.int s5_6), some (.int s6_26), some (.int s7_26)]) (fun X hX s6_26 s7_26 m => by
    try unfold f_X7_reached_L26
    refine ok_iload 28 7 dX7_reached_26 rfl rfl ?_
    refine ok_aload_n 29 0 dX7_reached_28 rfl rfl rfl ?_
    refine ok_getR 32 dX7_reached_29 rfl rfl F_Encores_Seats_9 sg_121 rfl (Nat.le_of_ble_eq_true rfl) rfl rfl ?_
    refine ok_getR 35 dX7_reached_32 rfl rfl F_Encores_Seats_15 sg_2 rfl (Nat.le_of_ble_eq_true rfl) rfl rfl ?_
    refine ok_getI 38 dX7_reached_35 rfl rfl F_Encores_Seats_21 sg_3 rfl (Nat.le_of_ble_eq_true rfl) rfl ?_
    refine ok_icmp_ge 78 41 dX7_reached_38 (by decide) rfl (fun _ => ?_) (fun _ => ?_)
    · exact ok_less [some (.ref 121), none, some (.int a2), some (.int a3), some (.int s4_6), some (.int s5_6), some (.int s6_26), none] (And.intro rfl (And.intro rfl (And.intro rfl (And.intro rfl (And.intro rfl (And.intro rfl (trivial))))))) (hK78 s6_26 m)
    · refine ok_iload 43 7 dX7_reached_41 rfl rfl ?_
      refine ok_iload 45 4 dX7_reached_43 rfl rfl ?_
      refine ok_callSNi (np := 2) (M' := m_X11_isIn) (As := [.int s7_26, .int s4_6]) (st := []) 48 7 dX7_reached_45 rfl rfl km_X11_isIn ks_X11_isIn rfl (by decide) rfl rfl (Nat.le_of_ble_eq_true rfl) (c_X11_isIn N (d + 0) s7_26 s4_6 m) ⟨Nat.le_refl _, Nat.le_refl _⟩ (Or.inl rfl) rfl (fun r_45 m_45 _ => ?_)
      refine ok_if_eq 72 51 dX7_reached_48 (by decide) rfl (fun _ => ?_) (fun _ => ?_)
      · refine ok_iinc 75 7 1 [some (.ref 121), none, some (.int a2), some (.int a3), some (.int s4_6), some (.int s5_6), some (.int s6_26), some (.int (s7_26 + 1))] dX7_reached_72 rfl rfl rfl (by decide) rfl ?_
        refine ok_goto 26 dX7_reached_75 (by decide) ?_
        exact ok_less [some (.ref 121), none, some (.int a2), some (.int a3), some (.int s4_6), some (.int s5_6), some (.int s6_26), some (.int (s7_26 + 1))] (And.intro rfl (And.intro rfl (And.intro rfl (And.intro rfl (And.intro rfl (And.intro rfl (And.intro rfl (trivial)))))))) (hX s6_26 (s7_26 + 1) m_45)
      · refine ok_iload 53 6 dX7_reached_51 rfl rfl ?_
        refine ok_aload_n 54 0 dX7_reached_53 rfl rfl rfl ?_
        refine ok_getR 57 dX7_reached_54 rfl rfl F_Encores_Seats_9 sg_121 rfl (Nat.le_of_ble_eq_true rfl) rfl rfl ?_
        refine ok_getR 60 dX7_reached_57 rfl rfl F_Encores_Seats_15 sg_2 rfl (Nat.le_of_ble_eq_true rfl) rfl rfl ?_
        refine ok_iload 62 7 dX7_reached_60 rfl rfl ?_
        refine ok_bipush 64 6 dX7_reached_62 rfl rfl ?_
        refine ok_callVi (np := 2) (M' := m_X9_at) (As := [.int s7_26, .int 6]) (st := [.int s6_26]) 67 dX7_reached_64 rfl rfl km_X9_at ki_X9_at kv_X9_at ml_Encores_Seats_31 (by decide) sg_3 rfl (Nat.le_of_ble_eq_true rfl) rfl rfl rfl (Nat.le_of_ble_eq_true rfl) (c_X9_at N (d + 0) 3 s7_26 6 tg_3 m_45) ⟨Nat.le_refl _, Nat.le_refl _⟩ (Or.inl rfl) rfl (fun r_64 m_64 _ => ?_)
        refine ok_iload_n 68 3 dX7_reached_67 rfl rfl rfl ?_
        refine ok_iand 69 dX7_reached_68 rfl ?_
        refine ok_ior 70 dX7_reached_69 rfl ?_
        refine ok_bndI (fun a6_70 => ?_)
        refine ok_istore 72 6 [some (.ref 121), none, some (.int a2), some (.int a3), some (.int s4_6), some (.int s5_6), some (.int a6_70), some (.int s7_26)] dX7_reached_70 rfl (by decide) rfl ?_
        refine ok_iinc 75 7 1 [some (.ref 121), none, some (.int a2), some (.int a3), some (.int s4_6), some (.int s5_6), some (.int a6_70), some (.int (s7_26 + 1))] dX7_reached_72 rfl rfl rfl (by decide) rfl ?_
        refine ok_goto 26 dX7_reached_75 (by decide) ?_
        exact ok_less [some (.ref 121), none, some (.int a2), some (.int a3), some (.int s4_6), some (.int s5_6), some (.int a6_70), some (.int (s7_26 + 1))] (And.intro rfl (And.intro rfl (And.intro rfl (And.intro rfl (And.intro rfl (And.intro rfl (And.intro rfl (trivial)))))))) (hX a6_70 (s7_26 + 1) m_64))

set_option maxRecDepth 100000 in
set_option maxHeartbeats 4000000 in
theorem ok_X7_reached_L6 (N d : Nat) (a1 : Int32) (a2 : Int32) (a3 : Int32)    : ∀ (n : Nat) (s4_6 : Int32) (s5_6 : Int32) (m : Mem), Ok none SG (d + 1) m_X7_reached 6 [some (.ref 121), none, some (.int a2), some (.int a3), some (.int s4_6), some (.int s5_6), none, none] [] SG m (it2 (f_X7_reached_L6 N a1 a2 a3) n s4_6 s5_6 m) :=
  ok_it2 (fun s4_6 s5_6 => [some (.ref 121), none, some (.int a2), some (.int a3), some (.int s4_6), some (.int s5_6), none, none]) (fun X hX s4_6 s5_6 m => by
    try unfold f_X7_reached_L6
    refine ok_iload 8 5 dX7_reached_6 rfl rfl ?_
    refine ok_iload_n 9 2 dX7_reached_8 rfl rfl rfl ?_
    refine ok_icmp_ge 98 12 dX7_reached_9 (by decide) rfl (fun _ => ?_) (fun _ => ?_)
    · refine ok_iload 100 4 dX7_reached_98 rfl rfl ?_
      exact ok_iret dX7_reached_100 rfl
    · refine ok_iload 14 5 dX7_reached_12 rfl rfl ?_
      refine ok_bipush 16 12 dX7_reached_14 rfl rfl ?_
      refine ok_icmp_ge 98 19 dX7_reached_16 (by decide) rfl (fun _ => ?_) (fun _ => ?_)
      · refine ok_iload 100 4 dX7_reached_98 rfl rfl ?_
        exact ok_iret dX7_reached_100 rfl
      · refine ok_iload 21 4 dX7_reached_19 rfl rfl ?_
        refine ok_istore 23 6 [some (.ref 121), none, some (.int a2), some (.int a3), some (.int s4_6), some (.int s5_6), some (.int s4_6), none] dX7_reached_21 rfl (by decide) rfl ?_
        refine ok_iconst 24 0 dX7_reached_23 rfl rfl ?_
        refine ok_istore 26 7 [some (.ref 121), none, some (.int a2), some (.int a3), some (.int s4_6), some (.int s5_6), some (.int s4_6), some (.int 0)] dX7_reached_24 rfl (by decide) rfl ?_
        refine ok_less [some (.ref 121), none, some (.int a2), some (.int a3), some (.int s4_6), some (.int s5_6), some (.int s4_6), some (.int 0)] (And.intro rfl (And.intro rfl (And.intro rfl (And.intro rfl (And.intro rfl (And.intro rfl (And.intro rfl (trivial)))))))) ?_
        exact ok_X7_reached_L26 N d a1 a2 a3 s4_6 s5_6 _ (fun k6_78 mk78 => by
            refine ok_iload 80 6 dX7_reached_78 rfl rfl ?_
            refine ok_iload 82 4 dX7_reached_80 rfl rfl ?_
            refine ok_icmp_ne 88 85 dX7_reached_82 (by decide) rfl (fun _ => ?_) (fun _ => ?_)
            · refine ok_iload 90 6 dX7_reached_88 rfl rfl ?_
              refine ok_istore 92 4 [some (.ref 121), none, some (.int a2), some (.int a3), some (.int k6_78), some (.int s5_6), some (.int k6_78), none] dX7_reached_90 rfl (by decide) rfl ?_
              refine ok_iinc 95 5 1 [some (.ref 121), none, some (.int a2), some (.int a3), some (.int k6_78), some (.int (s5_6 + 1)), some (.int k6_78), none] dX7_reached_92 rfl rfl rfl (by decide) rfl ?_
              refine ok_goto 6 dX7_reached_95 (by decide) ?_
              exact ok_less [some (.ref 121), none, some (.int a2), some (.int a3), some (.int k6_78), some (.int (s5_6 + 1)), none, none] (And.intro rfl (And.intro rfl (And.intro rfl (And.intro rfl (And.intro rfl (trivial)))))) (hX k6_78 (s5_6 + 1) mk78)
            · refine ok_iload 87 4 dX7_reached_85 rfl rfl ?_
              exact ok_iret dX7_reached_87 rfl) N s4_6 0 m)

set_option maxRecDepth 100000 in
set_option maxHeartbeats 4000000 in
theorem ok_X7_reached (N d : Nat) (a1 : Int32) (a2 : Int32) (a3 : Int32)  (m : Mem) : Ok none SG (d + 1) m_X7_reached 0 [some (.ref 121), some (.int a1), some (.int a2), some (.int a3), none, none, none, none] [] SG m (f_X7_reached N a1 a2 a3 m) := by
  unfold f_X7_reached
  refine ok_iload_n 1 1 dX7_reached_0 rfl rfl rfl ?_
  refine ok_istore 3 4 [some (.ref 121), some (.int a1), some (.int a2), some (.int a3), some (.int a1), none, none, none] dX7_reached_1 rfl (by decide) rfl ?_
  refine ok_iconst 4 0 dX7_reached_3 rfl rfl ?_
  refine ok_istore 6 5 [some (.ref 121), some (.int a1), some (.int a2), some (.int a3), some (.int a1), some (.int 0), none, none] dX7_reached_4 rfl (by decide) rfl ?_
  refine ok_less [some (.ref 121), none, some (.int a2), some (.int a3), some (.int a1), some (.int 0), none, none] (And.intro rfl (And.intro rfl (And.intro rfl (And.intro rfl (And.intro rfl (trivial)))))) ?_
  exact ok_X7_reached_L6 N d a1 a2 a3    N a1 0 m

theorem c_X7_reached (N d : Nat) (a1 : Int32) (a2 : Int32) (a3 : Int32)  (m : Mem) : CM (d + 1) m_X7_reached SG SG [.ref 121, .int a1, .int a2, .int a3] m (f_X7_reached N a1 a2 a3 m) :=
  CM.ofOk km_X7_reached ⟨Nat.le_refl _, Nat.le_refl _⟩ (by simp [Value.category]) (Nat.le_of_ble_eq_true rfl) (ok_X7_reached N d a1 a2 a3 m)

def f_X7_fewestBetween_J70 (N : Nat) (a1 : Int32) (a2 : Int32) (a3_7 : Int32) (a4_27 : Int32)  (X : Int32 → Int32 → Int32 → Mem → Ans) (s5_70 : Int32) (s6_70 : Int32) (s7_70 : Int32) (t0_70 : Int32) (m : Mem) : Ans :=
if t0_70 = 0 then (bd (f_X11_nextWithin N s6_70 a4_27 m) fun r_110 m_110 =>
if r_110 = 0 then (some (s5_70, m_110))
else (X s5_70 r_110 (s7_70 + 1) m_110))
else (bd (f_X7_reached N ((1 : Int32) <<< (a1 &&& 31)) 12 ((a4_27 &&& (s6_70 ^^^ (-1 : Int32))) ||| a3_7) m) fun r_93 m_93 =>
bd (f_X11_isIn N a2 r_93 m_93) fun r_96 m_96 =>
if r_96 = 0 then (bd (f_X11_nextWithin N s6_70 a4_27 m_96) fun r_110 m_110 =>
if r_110 = 0 then (some (s6_70, m_110))
else (X s6_70 r_110 (s7_70 + 1) m_110))
else (bd (f_X11_nextWithin N s6_70 a4_27 m_96) fun r_110 m_110 =>
if r_110 = 0 then (some (s5_70, m_110))
else (X s5_70 r_110 (s7_70 + 1) m_110)))

def f_X7_fewestBetween_J65 (N : Nat) (a1 : Int32) (a2 : Int32) (a3_7 : Int32) (a4_27 : Int32)  (X : Int32 → Int32 → Int32 → Mem → Ans) (s5_65 : Int32) (s6_65 : Int32) (s7_65 : Int32) (m : Mem) : Ans :=
f_X7_fewestBetween_J70 N a1 a2 a3_7 a4_27  X s5_65 s6_65 s7_65 1 m

def f_X7_fewestBetween_L38 (N : Nat) (a1 : Int32) (a2 : Int32) (a3_7 : Int32) (a4_27 : Int32)  (X : Int32 → Int32 → Int32 → Mem → Ans) (s5_38 : Int32) (s6_38 : Int32) (s7_38 : Int32) (m : Mem) : Ans :=
if (4096 : Int32) ≤ s7_38 then (some (s5_38, m))
else (if s5_38 = (-1 : Int32) then (f_X7_fewestBetween_J65 N a1 a2 a3_7 a4_27  X s5_38 s6_38 s7_38 m)
else (bd (f_J6_bitCount_0f7a4 N s6_38 m) fun r_54 m_54 =>
bd (f_J6_bitCount_0f7a4 N s5_38 m_54) fun r_59 m_59 =>
if r_59 ≤ r_54 then (f_X7_fewestBetween_J70 N a1 a2 a3_7 a4_27  X s5_38 s6_38 s7_38 0 m_59)
else (f_X7_fewestBetween_J65 N a1 a2 a3_7 a4_27  X s5_38 s6_38 s7_38 m_59)))

def f_X7_fewestBetween (N : Nat) (a1 : Int32) (a2 : Int32) (m : Mem) : Ans :=
bnd (((1 : Int32) <<< (a1 &&& 31)) ||| ((1 : Int32) <<< (a2 &&& 31))) fun a3_7 =>
bd (f_X7_all N m) fun r_9 m_9 =>
bd (f_X1_those N 4 m_9) fun r_21 m_21 =>
bnd ((r_9 &&& (a3_7 ^^^ (-1 : Int32))) &&& (r_21 ^^^ (-1 : Int32))) fun a4_27 =>
it3 (f_X7_fewestBetween_L38 N a1 a2 a3_7 a4_27 ) N (-1) 0 0 m_21

set_option maxRecDepth 100000 in
set_option maxHeartbeats 4000000 in
theorem ok_X7_fewestBetween_J70 (N d : Nat) (a1 : Int32) (a2 : Int32)  (a3_7 : Int32) (a4_27 : Int32)  (X : Int32 → Int32 → Int32 → Mem → Ans) (hX : ∀ (k5 : Int32) (k6 : Int32) (k7 : Int32) (m : Mem), Ok none SG (d + 2) m_X7_fewestBetween 38 [some (.ref 121), some (.int a1), some (.int a2), some (.int a3_7), some (.int a4_27), some (.int k5), some (.int k6), some (.int k7), none] [] SG m (X k5 k6 k7 m)) (s5_70 : Int32) (s6_70 : Int32) (s7_70 : Int32) (t0_70 : Int32) (m : Mem) : Ok none SG (d + 2) m_X7_fewestBetween 70 [some (.ref 121), some (.int a1), some (.int a2), some (.int a3_7), some (.int a4_27), some (.int s5_70), some (.int s6_70), some (.int s7_70), none] [.int t0_70] SG m (f_X7_fewestBetween_J70 N a1 a2 a3_7 a4_27  X s5_70 s6_70 s7_70 t0_70 m) := by
  unfold f_X7_fewestBetween_J70
  refine ok_istore 72 8 [some (.ref 121), some (.int a1), some (.int a2), some (.int a3_7), some (.int a4_27), some (.int s5_70), some (.int s6_70), some (.int s7_70), some (.int t0_70)] dX7_fewestBetween_70 rfl (by decide) rfl ?_
  refine ok_iload 74 8 dX7_fewestBetween_72 rfl rfl ?_
  refine ok_if_eq 106 77 dX7_fewestBetween_74 (by decide) rfl (fun _ => ?_) (fun _ => ?_)
  · refine ok_iload 108 6 dX7_fewestBetween_106 rfl rfl ?_
    refine ok_iload 110 4 dX7_fewestBetween_108 rfl rfl ?_
    refine ok_callSNi (np := 2) (M' := m_X11_nextWithin) (As := [.int s6_70, .int a4_27]) (st := []) 113 8 dX7_fewestBetween_110 rfl rfl km_X11_nextWithin ks_X11_nextWithin rfl (by decide) rfl rfl (Nat.le_of_ble_eq_true rfl) (c_X11_nextWithin N (d + 1) s6_70 a4_27 m) ⟨Nat.le_refl _, Nat.le_refl _⟩ (Or.inl rfl) rfl (fun r_110 m_110 _ => ?_)
    refine ok_istore 115 6 [some (.ref 121), some (.int a1), some (.int a2), some (.int a3_7), some (.int a4_27), some (.int s5_70), some (.int r_110), some (.int s7_70), some (.int t0_70)] dX7_fewestBetween_113 rfl (by decide) rfl ?_
    refine ok_iload 117 6 dX7_fewestBetween_115 rfl rfl ?_
    refine ok_if_ne 123 120 dX7_fewestBetween_117 (by decide) rfl (fun _ => ?_) (fun _ => ?_)
    · refine ok_iinc 126 7 1 [some (.ref 121), some (.int a1), some (.int a2), some (.int a3_7), some (.int a4_27), some (.int s5_70), some (.int r_110), some (.int (s7_70 + 1)), some (.int t0_70)] dX7_fewestBetween_123 rfl rfl rfl (by decide) rfl ?_
      refine ok_goto 38 dX7_fewestBetween_126 (by decide) ?_
      exact ok_less [some (.ref 121), some (.int a1), some (.int a2), some (.int a3_7), some (.int a4_27), some (.int s5_70), some (.int r_110), some (.int (s7_70 + 1)), none] (And.intro rfl (And.intro rfl (And.intro rfl (And.intro rfl (And.intro rfl (And.intro rfl (And.intro rfl (And.intro rfl (trivial))))))))) (hX s5_70 r_110 (s7_70 + 1) m_110)
    · refine ok_goto 129 dX7_fewestBetween_120 (by decide) ?_
      refine ok_iload 131 5 dX7_fewestBetween_129 rfl rfl ?_
      exact ok_iret dX7_fewestBetween_131 rfl
  · refine ok_iload_n 78 2 dX7_fewestBetween_77 rfl rfl rfl ?_
    refine ok_aload_n 79 0 dX7_fewestBetween_78 rfl rfl rfl ?_
    refine ok_iconst 80 1 dX7_fewestBetween_79 rfl rfl ?_
    refine ok_iload_n 81 1 dX7_fewestBetween_80 rfl rfl rfl ?_
    refine ok_ishl 82 dX7_fewestBetween_81 rfl ?_
    refine ok_bipush 84 12 dX7_fewestBetween_82 rfl rfl ?_
    refine ok_iload 86 4 dX7_fewestBetween_84 rfl rfl ?_
    refine ok_iload 88 6 dX7_fewestBetween_86 rfl rfl ?_
    refine ok_iconst 89 (-1) dX7_fewestBetween_88 rfl rfl ?_
    refine ok_ixor 90 dX7_fewestBetween_89 rfl ?_
    refine ok_iand 91 dX7_fewestBetween_90 rfl ?_
    refine ok_iload_n 92 3 dX7_fewestBetween_91 rfl rfl rfl ?_
    refine ok_ior 93 dX7_fewestBetween_92 rfl ?_
    refine ok_callVi (np := 3) (M' := m_X7_reached) (As := [.int ((1 : Int32) <<< (a1 &&& 31)), .int 12, .int ((a4_27 &&& (s6_70 ^^^ (-1 : Int32))) ||| a3_7)]) (st := [.int a2]) 96 dX7_fewestBetween_93 rfl rfl km_X7_reached ki_X7_reached kv_X7_reached ml_Encores_Seats_48 (by decide) sg_121 rfl (Nat.le_of_ble_eq_true rfl) rfl rfl rfl (Nat.le_of_ble_eq_true rfl) (c_X7_reached N (d + 0) ((1 : Int32) <<< (a1 &&& 31)) 12 ((a4_27 &&& (s6_70 ^^^ (-1 : Int32))) ||| a3_7) m) ⟨Nat.le_refl _, Nat.le_refl _⟩ (Or.inl rfl) rfl (fun r_93 m_93 _ => ?_)
    refine ok_callSNi (np := 2) (M' := m_X11_isIn) (As := [.int a2, .int r_93]) (st := []) 99 7 dX7_fewestBetween_96 rfl rfl km_X11_isIn ks_X11_isIn rfl (by decide) rfl rfl (Nat.le_of_ble_eq_true rfl) (c_X11_isIn N (d + 1) a2 r_93 m_93) ⟨Nat.le_refl _, Nat.le_refl _⟩ (Or.inl rfl) rfl (fun r_96 m_96 _ => ?_)
    refine ok_if_ne 106 102 dX7_fewestBetween_99 (by decide) rfl (fun _ => ?_) (fun _ => ?_)
    · refine ok_iload 108 6 dX7_fewestBetween_106 rfl rfl ?_
      refine ok_iload 110 4 dX7_fewestBetween_108 rfl rfl ?_
      refine ok_callSNi (np := 2) (M' := m_X11_nextWithin) (As := [.int s6_70, .int a4_27]) (st := []) 113 8 dX7_fewestBetween_110 rfl rfl km_X11_nextWithin ks_X11_nextWithin rfl (by decide) rfl rfl (Nat.le_of_ble_eq_true rfl) (c_X11_nextWithin N (d + 1) s6_70 a4_27 m_96) ⟨Nat.le_refl _, Nat.le_refl _⟩ (Or.inl rfl) rfl (fun r_110 m_110 _ => ?_)
      refine ok_istore 115 6 [some (.ref 121), some (.int a1), some (.int a2), some (.int a3_7), some (.int a4_27), some (.int s5_70), some (.int r_110), some (.int s7_70), some (.int t0_70)] dX7_fewestBetween_113 rfl (by decide) rfl ?_
      refine ok_iload 117 6 dX7_fewestBetween_115 rfl rfl ?_
      refine ok_if_ne 123 120 dX7_fewestBetween_117 (by decide) rfl (fun _ => ?_) (fun _ => ?_)
      · refine ok_iinc 126 7 1 [some (.ref 121), some (.int a1), some (.int a2), some (.int a3_7), some (.int a4_27), some (.int s5_70), some (.int r_110), some (.int (s7_70 + 1)), some (.int t0_70)] dX7_fewestBetween_123 rfl rfl rfl (by decide) rfl ?_
        refine ok_goto 38 dX7_fewestBetween_126 (by decide) ?_
        exact ok_less [some (.ref 121), some (.int a1), some (.int a2), some (.int a3_7), some (.int a4_27), some (.int s5_70), some (.int r_110), some (.int (s7_70 + 1)), none] (And.intro rfl (And.intro rfl (And.intro rfl (And.intro rfl (And.intro rfl (And.intro rfl (And.intro rfl (And.intro rfl (trivial))))))))) (hX s5_70 r_110 (s7_70 + 1) m_110)
      · refine ok_goto 129 dX7_fewestBetween_120 (by decide) ?_
        refine ok_iload 131 5 dX7_fewestBetween_129 rfl rfl ?_
        exact ok_iret dX7_fewestBetween_131 rfl
    · refine ok_iload 104 6 dX7_fewestBetween_102 rfl rfl ?_
      refine ok_istore 106 5 [some (.ref 121), some (.int a1), some (.int a2), some (.int a3_7), some (.int a4_27), some (.int s6_70), some (.int s6_70), some (.int s7_70), some (.int t0_70)] dX7_fewestBetween_104 rfl (by decide) rfl ?_
      refine ok_iload 108 6 dX7_fewestBetween_106 rfl rfl ?_
      refine ok_iload 110 4 dX7_fewestBetween_108 rfl rfl ?_
      refine ok_callSNi (np := 2) (M' := m_X11_nextWithin) (As := [.int s6_70, .int a4_27]) (st := []) 113 8 dX7_fewestBetween_110 rfl rfl km_X11_nextWithin ks_X11_nextWithin rfl (by decide) rfl rfl (Nat.le_of_ble_eq_true rfl) (c_X11_nextWithin N (d + 1) s6_70 a4_27 m_96) ⟨Nat.le_refl _, Nat.le_refl _⟩ (Or.inl rfl) rfl (fun r_110 m_110 _ => ?_)
      refine ok_istore 115 6 [some (.ref 121), some (.int a1), some (.int a2), some (.int a3_7), some (.int a4_27), some (.int s6_70), some (.int r_110), some (.int s7_70), some (.int t0_70)] dX7_fewestBetween_113 rfl (by decide) rfl ?_
      refine ok_iload 117 6 dX7_fewestBetween_115 rfl rfl ?_
      refine ok_if_ne 123 120 dX7_fewestBetween_117 (by decide) rfl (fun _ => ?_) (fun _ => ?_)
      · refine ok_iinc 126 7 1 [some (.ref 121), some (.int a1), some (.int a2), some (.int a3_7), some (.int a4_27), some (.int s6_70), some (.int r_110), some (.int (s7_70 + 1)), some (.int t0_70)] dX7_fewestBetween_123 rfl rfl rfl (by decide) rfl ?_
        refine ok_goto 38 dX7_fewestBetween_126 (by decide) ?_
        exact ok_less [some (.ref 121), some (.int a1), some (.int a2), some (.int a3_7), some (.int a4_27), some (.int s6_70), some (.int r_110), some (.int (s7_70 + 1)), none] (And.intro rfl (And.intro rfl (And.intro rfl (And.intro rfl (And.intro rfl (And.intro rfl (And.intro rfl (And.intro rfl (trivial))))))))) (hX s6_70 r_110 (s7_70 + 1) m_110)
      · refine ok_goto 129 dX7_fewestBetween_120 (by decide) ?_
        refine ok_iload 131 5 dX7_fewestBetween_129 rfl rfl ?_
        exact ok_iret dX7_fewestBetween_131 rfl

set_option maxRecDepth 100000 in
set_option maxHeartbeats 4000000 in
theorem ok_X7_fewestBetween_J65 (N d : Nat) (a1 : Int32) (a2 : Int32)  (a3_7 : Int32) (a4_27 : Int32)  (X : Int32 → Int32 → Int32 → Mem → Ans) (hX : ∀ (k5 : Int32) (k6 : Int32) (k7 : Int32) (m : Mem), Ok none SG (d + 2) m_X7_fewestBetween 38 [some (.ref 121), some (.int a1), some (.int a2), some (.int a3_7), some (.int a4_27), some (.int k5), some (.int k6), some (.int k7), none] [] SG m (X k5 k6 k7 m)) (s5_65 : Int32) (s6_65 : Int32) (s7_65 : Int32) (m : Mem) : Ok none SG (d + 2) m_X7_fewestBetween 65 [some (.ref 121), some (.int a1), some (.int a2), some (.int a3_7), some (.int a4_27), some (.int s5_65), some (.int s6_65), some (.int s7_65), none] [] SG m (f_X7_fewestBetween_J65 N a1 a2 a3_7 a4_27  X s5_65 s6_65 s7_65 m) := by
  unfold f_X7_fewestBetween_J65
  refine ok_iconst 66 1 dX7_fewestBetween_65 rfl rfl ?_
  refine ok_goto 70 dX7_fewestBetween_66 (by decide) ?_
  exact ok_less [some (.ref 121), some (.int a1), some (.int a2), some (.int a3_7), some (.int a4_27), some (.int s5_65), some (.int s6_65), some (.int s7_65), none] (And.intro rfl (And.intro rfl (And.intro rfl (And.intro rfl (And.intro rfl (And.intro rfl (And.intro rfl (And.intro rfl (trivial))))))))) (ok_X7_fewestBetween_J70 N d a1 a2 a3_7 a4_27  X hX s5_65 s6_65 s7_65 1 m)

set_option maxRecDepth 100000 in
set_option maxHeartbeats 4000000 in
theorem ok_X7_fewestBetween_L38 (N d : Nat) (a1 : Int32) (a2 : Int32)  (a3_7 : Int32) (a4_27 : Int32)  : ∀ (n : Nat) (s5_38 : Int32) (s6_38 : Int32) (s7_38 : Int32) (m : Mem), Ok none SG (d + 2) m_X7_fewestBetween 38 [some (.ref 121), some (.int a1), some (.int a2), some (.int a3_7), some (.int a4_27), some (.int s5_38), some (.int s6_38), some (.int s7_38), none] [] SG m (it3 (f_X7_fewestBetween_L38 N a1 a2 a3_7 a4_27) n s5_38 s6_38 s7_38 m) :=
  ok_it3 (fun s5_38 s6_38 s7_38 => [some (.ref 121), some (.int a1), some (.int a2), some (.int a3_7), some (.int a4_27), some (.int s5_38), some (.int s6_38), some (.int s7_38), none]) (fun X hX s5_38 s6_38 s7_38 m => by
    try unfold f_X7_fewestBetween_L38
    refine ok_iload 40 7 dX7_fewestBetween_38 rfl rfl ?_
    refine ok_sipush 43 4096 dX7_fewestBetween_40 rfl rfl ?_
    refine ok_icmp_ge 129 46 dX7_fewestBetween_43 (by decide) rfl (fun _ => ?_) (fun _ => ?_)
    · refine ok_iload 131 5 dX7_fewestBetween_129 rfl rfl ?_
      exact ok_iret dX7_fewestBetween_131 rfl
    · refine ok_iload 48 5 dX7_fewestBetween_46 rfl rfl ?_
      refine ok_iconst 49 (-1) dX7_fewestBetween_48 rfl rfl ?_
      refine ok_icmp_eq 65 52 dX7_fewestBetween_49 (by decide) rfl (fun _ => ?_) (fun _ => ?_)
      · exact ok_less [some (.ref 121), some (.int a1), some (.int a2), some (.int a3_7), some (.int a4_27), some (.int s5_38), some (.int s6_38), some (.int s7_38), none] (And.intro rfl (And.intro rfl (And.intro rfl (And.intro rfl (And.intro rfl (And.intro rfl (And.intro rfl (And.intro rfl (trivial))))))))) (ok_X7_fewestBetween_J65 N d a1 a2 a3_7 a4_27  X hX s5_38 s6_38 s7_38 m)
      · refine ok_iload 54 6 dX7_fewestBetween_52 rfl rfl ?_
        refine ok_callSi (np := 1) (M' := m_J6_bitCount_0f7a4) (As := [.int s6_38]) (st := []) 57 dX7_fewestBetween_54 rfl rfl km_J6_bitCount_0f7a4 ks_J6_bitCount_0f7a4 ml_Encores_Seats_43 (by decide) rfl rfl (Nat.le_of_ble_eq_true rfl) (c_J6_bitCount_0f7a4 N (d + 1) s6_38 m) ⟨Nat.le_refl _, Nat.le_refl _⟩ (Or.inl rfl) rfl (fun r_54 m_54 _ => ?_)
        refine ok_iload 59 5 dX7_fewestBetween_57 rfl rfl ?_
        refine ok_callSi (np := 1) (M' := m_J6_bitCount_0f7a4) (As := [.int s5_38]) (st := [.int r_54]) 62 dX7_fewestBetween_59 rfl rfl km_J6_bitCount_0f7a4 ks_J6_bitCount_0f7a4 ml_Encores_Seats_43 (by decide) rfl rfl (Nat.le_of_ble_eq_true rfl) (c_J6_bitCount_0f7a4 N (d + 1) s5_38 m_54) ⟨Nat.le_refl _, Nat.le_refl _⟩ (Or.inl rfl) rfl (fun r_59 m_59 _ => ?_)
        refine ok_icmp_ge 69 65 dX7_fewestBetween_62 (by decide) rfl (fun _ => ?_) (fun _ => ?_)
        · refine ok_iconst 70 0 dX7_fewestBetween_69 rfl rfl ?_
          exact ok_less [some (.ref 121), some (.int a1), some (.int a2), some (.int a3_7), some (.int a4_27), some (.int s5_38), some (.int s6_38), some (.int s7_38), none] (And.intro rfl (And.intro rfl (And.intro rfl (And.intro rfl (And.intro rfl (And.intro rfl (And.intro rfl (And.intro rfl (trivial))))))))) (ok_X7_fewestBetween_J70 N d a1 a2 a3_7 a4_27  X hX s5_38 s6_38 s7_38 0 m_59)
        · exact ok_less [some (.ref 121), some (.int a1), some (.int a2), some (.int a3_7), some (.int a4_27), some (.int s5_38), some (.int s6_38), some (.int s7_38), none] (And.intro rfl (And.intro rfl (And.intro rfl (And.intro rfl (And.intro rfl (And.intro rfl (And.intro rfl (And.intro rfl (trivial))))))))) (ok_X7_fewestBetween_J65 N d a1 a2 a3_7 a4_27  X hX s5_38 s6_38 s7_38 m_59))

set_option maxRecDepth 100000 in
set_option maxHeartbeats 4000000 in
theorem ok_X7_fewestBetween (N d : Nat) (a1 : Int32) (a2 : Int32)  (m : Mem) : Ok none SG (d + 2) m_X7_fewestBetween 0 [some (.ref 121), some (.int a1), some (.int a2), none, none, none, none, none, none] [] SG m (f_X7_fewestBetween N a1 a2 m) := by
  unfold f_X7_fewestBetween
  refine ok_iconst 1 1 dX7_fewestBetween_0 rfl rfl ?_
  refine ok_iload_n 2 1 dX7_fewestBetween_1 rfl rfl rfl ?_
  refine ok_ishl 3 dX7_fewestBetween_2 rfl ?_
  refine ok_iconst 4 1 dX7_fewestBetween_3 rfl rfl ?_
  refine ok_iload_n 5 2 dX7_fewestBetween_4 rfl rfl rfl ?_
  refine ok_ishl 6 dX7_fewestBetween_5 rfl ?_
  refine ok_ior 7 dX7_fewestBetween_6 rfl ?_
  refine ok_bndI (fun a3_7 => ?_)
  refine ok_istore_n 8 3 [some (.ref 121), some (.int a1), some (.int a2), some (.int a3_7), none, none, none, none, none] dX7_fewestBetween_7 rfl rfl (by decide) rfl ?_
  refine ok_aload_n 9 0 dX7_fewestBetween_8 rfl rfl rfl ?_
  refine ok_callVi (np := 0) (M' := m_X7_all) (As := []) (st := []) 12 dX7_fewestBetween_9 rfl rfl km_X7_all ki_X7_all kv_X7_all ml_Encores_Seats_35 (by decide) sg_121 rfl (Nat.le_of_ble_eq_true rfl) rfl rfl rfl (Nat.le_of_ble_eq_true rfl) (c_X7_all N (d + 1) m) ⟨Nat.le_refl _, Nat.le_refl _⟩ (Or.inl rfl) rfl (fun r_9 m_9 _ => ?_)
  refine ok_iload_n 13 3 dX7_fewestBetween_12 rfl rfl rfl ?_
  refine ok_iconst 14 (-1) dX7_fewestBetween_13 rfl rfl ?_
  refine ok_ixor 15 dX7_fewestBetween_14 rfl ?_
  refine ok_iand 16 dX7_fewestBetween_15 rfl ?_
  refine ok_aload_n 17 0 dX7_fewestBetween_16 rfl rfl rfl ?_
  refine ok_getR 20 dX7_fewestBetween_17 rfl rfl F_Encores_Seats_9 sg_121 rfl (Nat.le_of_ble_eq_true rfl) rfl rfl ?_
  refine ok_iconst 21 4 dX7_fewestBetween_20 rfl rfl ?_
  refine ok_callVi (np := 1) (M' := m_X1_those) (As := [.int 4]) (st := [.int (r_9 &&& (a3_7 ^^^ (-1 : Int32)))]) 24 dX7_fewestBetween_21 rfl rfl km_X1_those ki_X1_those kv_X1_those ml_Encores_Seats_39 (by decide) sg_2 rfl (Nat.le_of_ble_eq_true rfl) rfl rfl rfl (Nat.le_of_ble_eq_true rfl) (c_X1_those N (d + 0) 4 m_9) ⟨Nat.le_refl _, Nat.le_refl _⟩ (Or.inl rfl) rfl (fun r_21 m_21 _ => ?_)
  refine ok_iconst 25 (-1) dX7_fewestBetween_24 rfl rfl ?_
  refine ok_ixor 26 dX7_fewestBetween_25 rfl ?_
  refine ok_iand 27 dX7_fewestBetween_26 rfl ?_
  refine ok_bndI (fun a4_27 => ?_)
  refine ok_istore 29 4 [some (.ref 121), some (.int a1), some (.int a2), some (.int a3_7), some (.int a4_27), none, none, none, none] dX7_fewestBetween_27 rfl (by decide) rfl ?_
  refine ok_iconst 30 (-1) dX7_fewestBetween_29 rfl rfl ?_
  refine ok_istore 32 5 [some (.ref 121), some (.int a1), some (.int a2), some (.int a3_7), some (.int a4_27), some (.int (-1)), none, none, none] dX7_fewestBetween_30 rfl (by decide) rfl ?_
  refine ok_iconst 33 0 dX7_fewestBetween_32 rfl rfl ?_
  refine ok_istore 35 6 [some (.ref 121), some (.int a1), some (.int a2), some (.int a3_7), some (.int a4_27), some (.int (-1)), some (.int 0), none, none] dX7_fewestBetween_33 rfl (by decide) rfl ?_
  refine ok_iconst 36 0 dX7_fewestBetween_35 rfl rfl ?_
  refine ok_istore 38 7 [some (.ref 121), some (.int a1), some (.int a2), some (.int a3_7), some (.int a4_27), some (.int (-1)), some (.int 0), some (.int 0), none] dX7_fewestBetween_36 rfl (by decide) rfl ?_
  refine ok_less [some (.ref 121), some (.int a1), some (.int a2), some (.int a3_7), some (.int a4_27), some (.int (-1)), some (.int 0), some (.int 0), none] (And.intro rfl (And.intro rfl (And.intro rfl (And.intro rfl (And.intro rfl (And.intro rfl (And.intro rfl (And.intro rfl (trivial))))))))) ?_
  exact ok_X7_fewestBetween_L38 N d a1 a2 a3_7 a4_27   N (-1) 0 0 m_21

theorem c_X7_fewestBetween (N d : Nat) (a1 : Int32) (a2 : Int32)  (m : Mem) : CM (d + 2) m_X7_fewestBetween SG SG [.ref 121, .int a1, .int a2] m (f_X7_fewestBetween N a1 a2 m) :=
  CM.ofOk km_X7_fewestBetween ⟨Nat.le_refl _, Nat.le_refl _⟩ (by simp [Value.category]) (Nat.le_of_ble_eq_true rfl) (ok_X7_fewestBetween N d a1 a2 m)

def f_X8_draw (N : Nat) (a1 : Int32) (m : Mem) : Ans :=
bd (f_X1_hour N 6 m) fun r_6 m_6 =>
bnd ((r_6 * (1664525 : Int32)) + (1013904223 : Int32)) fun a2_15 =>
bd (f_X1_setHour N 6 a2_15 m_6) fun _ m_23 =>
if a1 ≤ 0 then (some (0, m_23))
else (chk (decide (a1 ≠ 0)) <|
some ((irm (ushr a2_15 (8 : Int32)) a1), m_23))

set_option maxRecDepth 100000 in
set_option maxHeartbeats 4000000 in
theorem ok_X8_draw (N d : Nat) (a1 : Int32)  (m : Mem) : Ok none SG (d + 2) m_X8_draw 0 [some (.ref 113), some (.int a1), none] [] SG m (f_X8_draw N a1 m) := by
  unfold f_X8_draw
  refine ok_aload_n 1 0 dX8_draw_0 rfl rfl rfl ?_
  refine ok_getR 4 dX8_draw_1 rfl rfl F_Encores_Stage_18 sg_113 rfl (Nat.le_of_ble_eq_true rfl) rfl rfl ?_
  refine ok_bipush 6 6 dX8_draw_4 rfl rfl ?_
  refine ok_callVi (np := 1) (M' := m_X1_hour) (As := [.int 6]) (st := []) 9 dX8_draw_6 rfl rfl km_X1_hour ki_X1_hour kv_X1_hour ml_Encores_Stage_42 (by decide) sg_2 rfl (Nat.le_of_ble_eq_true rfl) rfl rfl rfl (Nat.le_of_ble_eq_true rfl) (c_X1_hour N (d + 0) 6 m) ⟨Nat.le_refl _, Nat.le_refl _⟩ (Or.inl rfl) rfl (fun r_6 m_6 _ => ?_)
  refine ok_ldc 11 1664525 dX8_draw_9 rfl rfl cn_Encores_Stage_104 ?_
  refine ok_imul 12 dX8_draw_11 rfl ?_
  refine ok_ldc 14 1013904223 dX8_draw_12 rfl rfl cn_Encores_Stage_105 ?_
  refine ok_iadd 15 dX8_draw_14 rfl ?_
  refine ok_bndI (fun a2_15 => ?_)
  refine ok_istore_n 16 2 [some (.ref 113), some (.int a1), some (.int a2_15)] dX8_draw_15 rfl rfl (by decide) rfl ?_
  refine ok_aload_n 17 0 dX8_draw_16 rfl rfl rfl ?_
  refine ok_getR 20 dX8_draw_17 rfl rfl F_Encores_Stage_18 sg_113 rfl (Nat.le_of_ble_eq_true rfl) rfl rfl ?_
  refine ok_bipush 22 6 dX8_draw_20 rfl rfl ?_
  refine ok_iload_n 23 2 dX8_draw_22 rfl rfl rfl ?_
  refine ok_callVv (np := 2) (M' := m_X1_setHour) (As := [.int 6, .int a2_15]) (st := []) 26 dX8_draw_23 rfl rfl km_X1_setHour ki_X1_setHour kv_X1_setHour ml_Encores_Stage_26 (by decide) sg_2 rfl (Nat.le_of_ble_eq_true rfl) rfl rfl rfl (Nat.le_of_ble_eq_true rfl) (c_X1_setHour N (d + 0) 6 a2_15 m_6) ⟨Nat.le_refl _, Nat.le_refl _⟩ (Or.inl rfl) rfl (fun _ m_23 _ => ?_)
  refine ok_iload_n 27 1 dX8_draw_26 rfl rfl rfl ?_
  refine ok_if_le 39 30 dX8_draw_27 (by decide) rfl (fun _ => ?_) (fun _ => ?_)
  · refine ok_iconst 40 0 dX8_draw_39 rfl rfl ?_
    exact ok_iret dX8_draw_40 rfl
  · refine ok_iload_n 31 2 dX8_draw_30 rfl rfl rfl ?_
    refine ok_bipush 33 8 dX8_draw_31 rfl rfl ?_
    refine ok_iushr 34 dX8_draw_33 rfl ?_
    refine ok_iload_n 35 1 dX8_draw_34 rfl rfl rfl ?_
    refine ok_irem 36 dX8_draw_35 rfl ?_
    refine ok_goto 40 dX8_draw_36 (by decide) ?_
    exact ok_iret dX8_draw_40 rfl

theorem c_X8_draw (N d : Nat) (a1 : Int32)  (m : Mem) : CM (d + 2) m_X8_draw SG SG [.ref 113, .int a1] m (f_X8_draw N a1 m) :=
  CM.ofOk km_X8_draw ⟨Nat.le_refl _, Nat.le_refl _⟩ (by simp [Value.category]) (Nat.le_of_ble_eq_true rfl) (ok_X8_draw N d a1 m)

def f_X8_drawEach_L2 (N : Nat)    (X : Int32 → Mem → Ans) (s1_2 : Int32) (m : Mem) : Ans :=
if (m 3 3) ≤ s1_2 then (some (0, m))
else (if (12 : Int32) ≤ s1_2 then (some (0, m))
else (if (m 113 4) = 0 then (bd (f_X9_at N 3 s1_2 3 m) fun r_41 m_41 =>
if r_41 = (1 : Int32) then (bd (f_X8_draw N 1000 m_41) fun r_57 m_57 =>
chk (inb s1_2 12) <|
bnd (mset m_57 114 s1_2.toNatClampNeg r_57) fun m_60 =>
X (s1_2 + 1) m_60)
else (X (s1_2 + 1) m_41))
else (some (0, m))))

def f_X8_drawEach (N : Nat)  (m : Mem) : Ans :=
it1 (f_X8_drawEach_L2 N ) N 0 m

set_option maxRecDepth 100000 in
set_option maxHeartbeats 4000000 in
theorem ok_X8_drawEach_L2 (N d : Nat)     : ∀ (n : Nat) (s1_2 : Int32) (m : Mem), Ok none SG (d + 3) m_X8_drawEach 2 [some (.ref 113), some (.int s1_2)] [] SG m (it1 (f_X8_drawEach_L2 N) n s1_2 m) :=
  ok_it1 (fun s1_2 => [some (.ref 113), some (.int s1_2)]) (fun X hX s1_2 m => by
    try unfold f_X8_drawEach_L2
    refine ok_iload_n 3 1 dX8_drawEach_2 rfl rfl rfl ?_
    refine ok_aload_n 4 0 dX8_drawEach_3 rfl rfl rfl ?_
    refine ok_getR 7 dX8_drawEach_4 rfl rfl F_Encores_Stage_18 sg_113 rfl (Nat.le_of_ble_eq_true rfl) rfl rfl ?_
    refine ok_getR 10 dX8_drawEach_7 rfl rfl F_Encores_Stage_106 sg_2 rfl (Nat.le_of_ble_eq_true rfl) rfl rfl ?_
    refine ok_getI 13 dX8_drawEach_10 rfl rfl F_Encores_Stage_36 sg_3 rfl (Nat.le_of_ble_eq_true rfl) rfl ?_
    refine ok_icmp_ge 67 16 dX8_drawEach_13 (by decide) rfl (fun _ => ?_) (fun _ => ?_)
    · exact ok_vret dX8_drawEach_67 rfl
    · refine ok_iload_n 17 1 dX8_drawEach_16 rfl rfl rfl ?_
      refine ok_aload_n 18 0 dX8_drawEach_17 rfl rfl rfl ?_
      refine ok_getR 21 dX8_drawEach_18 rfl rfl F_Encores_Stage_9 sg_113 rfl (Nat.le_of_ble_eq_true rfl) rfl rfl ?_
      refine ok_alen 22 dX8_drawEach_21 rfl sg_114 ?_
      rw [show Int32.ofNat 12 = 12 from rfl]
      refine ok_icmp_ge 67 25 dX8_drawEach_22 (by decide) rfl (fun _ => ?_) (fun _ => ?_)
      · exact ok_vret dX8_drawEach_67 rfl
      · refine ok_aload_n 26 0 dX8_drawEach_25 rfl rfl rfl ?_
        refine ok_getI 29 dX8_drawEach_26 rfl rfl F_Encores_Stage_109 sg_113 rfl (Nat.le_of_ble_eq_true rfl) rfl ?_
        refine ok_if_ne 67 32 dX8_drawEach_29 (by decide) rfl (fun _ => ?_) (fun _ => ?_)
        · exact ok_vret dX8_drawEach_67 rfl
        · refine ok_aload_n 33 0 dX8_drawEach_32 rfl rfl rfl ?_
          refine ok_getR 36 dX8_drawEach_33 rfl rfl F_Encores_Stage_18 sg_113 rfl (Nat.le_of_ble_eq_true rfl) rfl rfl ?_
          refine ok_getR 39 dX8_drawEach_36 rfl rfl F_Encores_Stage_106 sg_2 rfl (Nat.le_of_ble_eq_true rfl) rfl rfl ?_
          refine ok_iload_n 40 1 dX8_drawEach_39 rfl rfl rfl ?_
          refine ok_iconst 41 3 dX8_drawEach_40 rfl rfl ?_
          refine ok_callVi (np := 2) (M' := m_X9_at) (As := [.int s1_2, .int 3]) (st := []) 44 dX8_drawEach_41 rfl rfl km_X9_at ki_X9_at kv_X9_at ml_Encores_Stage_46 (by decide) sg_3 rfl (Nat.le_of_ble_eq_true rfl) rfl rfl rfl (Nat.le_of_ble_eq_true rfl) (c_X9_at N (d + 2) 3 s1_2 3 tg_3 m) ⟨Nat.le_refl _, Nat.le_refl _⟩ (Or.inl rfl) rfl (fun r_41 m_41 _ => ?_)
          refine ok_iconst 45 1 dX8_drawEach_44 rfl rfl ?_
          refine ok_icmp_ne 61 48 dX8_drawEach_45 (by decide) rfl (fun _ => ?_) (fun _ => ?_)
          · refine ok_iinc 64 1 1 [some (.ref 113), some (.int (s1_2 + 1))] dX8_drawEach_61 rfl rfl rfl (by decide) rfl ?_
            refine ok_goto 2 dX8_drawEach_64 (by decide) ?_
            exact ok_less [some (.ref 113), some (.int (s1_2 + 1))] (And.intro rfl (And.intro rfl (trivial))) (hX (s1_2 + 1) m_41)
          · refine ok_aload_n 49 0 dX8_drawEach_48 rfl rfl rfl ?_
            refine ok_getR 52 dX8_drawEach_49 rfl rfl F_Encores_Stage_9 sg_113 rfl (Nat.le_of_ble_eq_true rfl) rfl rfl ?_
            refine ok_iload_n 53 1 dX8_drawEach_52 rfl rfl rfl ?_
            refine ok_aload_n 54 0 dX8_drawEach_53 rfl rfl rfl ?_
            refine ok_sipush 57 1000 dX8_drawEach_54 rfl rfl ?_
            refine ok_callVi (np := 1) (M' := m_X8_draw) (As := [.int 1000]) (st := [.int s1_2, .ref 114]) 60 dX8_drawEach_57 rfl rfl km_X8_draw ki_X8_draw kv_X8_draw ml_Encores_Stage_113 (by decide) sg_113 rfl (Nat.le_of_ble_eq_true rfl) rfl rfl rfl (Nat.le_of_ble_eq_true rfl) (c_X8_draw N (d + 0) 1000 m_41) ⟨Nat.le_refl _, Nat.le_refl _⟩ (Or.inl rfl) rfl (fun r_57 m_57 _ => ?_)
            refine ok_iast 61 dX8_drawEach_60 rfl sg_114 ?_
            refine ok_bndM (fun m_60 => ?_)
            refine ok_iinc 64 1 1 [some (.ref 113), some (.int (s1_2 + 1))] dX8_drawEach_61 rfl rfl rfl (by decide) rfl ?_
            refine ok_goto 2 dX8_drawEach_64 (by decide) ?_
            exact ok_less [some (.ref 113), some (.int (s1_2 + 1))] (And.intro rfl (And.intro rfl (trivial))) (hX (s1_2 + 1) m_60))

set_option maxRecDepth 100000 in
set_option maxHeartbeats 4000000 in
theorem ok_X8_drawEach (N d : Nat)   (m : Mem) : Ok none SG (d + 3) m_X8_drawEach 0 [some (.ref 113), none] [] SG m (f_X8_drawEach N m) := by
  unfold f_X8_drawEach
  refine ok_iconst 1 0 dX8_drawEach_0 rfl rfl ?_
  refine ok_istore_n 2 1 [some (.ref 113), some (.int 0)] dX8_drawEach_1 rfl rfl (by decide) rfl ?_
  refine ok_less [some (.ref 113), some (.int 0)] (And.intro rfl (And.intro rfl (trivial))) ?_
  exact ok_X8_drawEach_L2 N d     N 0 m

theorem c_X8_drawEach (N d : Nat)   (m : Mem) : CM (d + 3) m_X8_drawEach SG SG [.ref 113] m (f_X8_drawEach N m) :=
  CM.ofOk km_X8_drawEach ⟨Nat.le_refl _, Nat.le_refl _⟩ (by simp [Value.category]) (Nat.le_of_ble_eq_true rfl) (ok_X8_drawEach N d  m)

def f_X8_applaud_L12 (N : Nat) (a1 : Int32)  (K34 : Mem → Ans) (X : Int32 → Mem → Ans) (s2_12 : Int32) (m : Mem) : Ans :=
if (12 : Int32) ≤ s2_12 then (K34 m)
else (chk (inb s2_12 12) <|
bnd (mset m 115 s2_12.toNatClampNeg (-1)) fun m_27 =>
X (s2_12 + 1) m_27)

def f_X8_applaud_J174 (N : Nat) (a1 : Int32) (a2_53 : Int32) (s4_59 : Int32) (a5_74 : Int32) (K233 : Mem → Ans) (X : Int32 → Mem → Ans) (s6_174 : Int32) (s7_174 : Int32) (t0_174 : Int32) (m : Mem) : Ans :=
chk (inb s6_174 12) <|
if (m 115 s6_174.toNatClampNeg) = s7_174 then (chk (inb s6_174 12) <|
bnd (mset m 115 s6_174.toNatClampNeg s7_174) fun m_226 =>
X (s6_174 + 1) m_226)
else (bd (f_X2_clap N s6_174 a1 s7_174 m) fun r_199 m_199 =>
if r_199 ≤ t0_174 then (chk (inb s6_174 12) <|
bnd (mset m_199 115 s6_174.toNatClampNeg s7_174) fun m_226 =>
X (s6_174 + 1) m_226)
else (bnd (mset m_199 113 5 ((m_199 113 5) ||| ((1 : Int32) <<< (s6_174 &&& 31)))) fun m_215 =>
chk (inb s6_174 12) <|
bnd (mset m_215 115 s6_174.toNatClampNeg s7_174) fun m_226 =>
X (s6_174 + 1) m_226))

def f_X8_applaud_L79 (N : Nat) (a1 : Int32) (a2_53 : Int32) (s4_59 : Int32) (a5_74 : Int32) (K233 : Mem → Ans) (X : Int32 → Mem → Ans) (s6_79 : Int32) (m : Mem) : Ans :=
if (m 3 3) ≤ s6_79 then (K233 m)
else (if (12 : Int32) ≤ s6_79 then (K233 m)
else (if (12 : Int32) ≤ s6_79 then (K233 m)
else (bd (f_X11_isIn N s6_79 (a2_53 &&& ((m 113 5) ^^^ (-1 : Int32))) m) fun r_124 m_124 =>
if r_124 = 0 then (X (s6_79 + 1) m_124)
else (bd (f_X9_at N 3 s6_79 6 m_124) fun r_141 m_141 =>
bd (f_J6_bitCount_0f7a4 N (r_141 &&& (m_141 113 5)) m_141) fun r_149 m_149 =>
if (m_149 113 4) = 0 then (chk (inb s6_79 12) <|
f_X8_applaud_J174 N a1 a2_53 s4_59 a5_74 K233 X s6_79 r_149 (m_149 114 s6_79.toNatClampNeg) m_149)
else (f_X8_applaud_J174 N a1 a2_53 s4_59 a5_74 K233 X s6_79 r_149 500 m_149)))))

def f_X8_applaud_J247 (N : Nat) (a1 : Int32) (a2_53 : Int32)  (X : Int32 → Int32 → Mem → Ans) (s4_247 : Int32) (t0_247 : Int32) (m : Mem) : Ans :=
if t0_247 = 0 then (bnd (mset m 113 6 ((m 113 6) + (0 : Int32))) fun m_263 =>
X t0_247 (s4_247 + 1) m_263)
else (bnd (mset m 113 6 ((m 113 6) + (1 : Int32))) fun m_263 =>
X t0_247 (s4_247 + 1) m_263)

def f_X8_applaud_J233 (N : Nat) (a1 : Int32) (a2_53 : Int32)  (X : Int32 → Int32 → Mem → Ans) (s4_233 : Int32) (s5_233 : Int32) (m : Mem) : Ans :=
if (m 113 5) = s5_233 then (f_X8_applaud_J247 N a1 a2_53  X s4_233 0 m)
else (f_X8_applaud_J247 N a1 a2_53  X s4_233 1 m)

def f_X8_applaud_L59 (N : Nat) (a1 : Int32) (a2_53 : Int32)  (X : Int32 → Int32 → Mem → Ans) (s3_59 : Int32) (s4_59 : Int32) (m : Mem) : Ans :=
if (12 : Int32) < s4_59 then (some (0, m))
else (if s3_59 = 0 then (some (0, m))
else (bnd (m 113 5) fun a5_74 =>
it1 (f_X8_applaud_L79 N a1 a2_53 s4_59 a5_74 (fun mk233 => f_X8_applaud_J233 N a1 a2_53  X s4_59 a5_74 mk233)) N 0 m))

def f_X8_applaud (N : Nat) (a1 : Int32) (m : Mem) : Ans :=
bnd (mset m 113 5 0) fun m_2 =>
bnd (mset m_2 113 6 0) fun m_7 =>
it1 (f_X8_applaud_L12 N a1 (fun mk34 => bd (f_X1_those N 3 mk34) fun r_39 m_39 =>
bd (f_X1_those N 4 m_39) fun r_47 m_47 =>
bnd (r_39 &&& (r_47 ^^^ (-1 : Int32))) fun a2_53 =>
it2 (f_X8_applaud_L59 N a1 a2_53 ) N 1 0 m_47)) N 0 m_7

set_option maxRecDepth 100000 in
set_option maxHeartbeats 4000000 in
theorem ok_X8_applaud_L12 (N d : Nat) (a1 : Int32)   (K34 : Mem → Ans) (hK34 : ∀  (m : Mem), Ok none SG (d + 4) m_X8_applaud 34 [some (.ref 113), some (.int a1), none, none, none, none, none, none, none] [] SG m (K34 m)) : ∀ (n : Nat) (s2_12 : Int32) (m : Mem), Ok none SG (d + 4) m_X8_applaud 12 [some (.ref 113), some (.int a1), some (.int s2_12), none, none, none, none, none, none] [] SG m (it1 (f_X8_applaud_L12 N a1 K34) n s2_12 m) :=
  ok_it1 (fun s2_12 => [some (.ref 113), some (.int a1), some (.int s2_12), none, none, none, none, none, none]) (fun X hX s2_12 m => by
    try unfold f_X8_applaud_L12
    refine ok_iload_n 13 2 dX8_applaud_12 rfl rfl rfl ?_
    refine ok_aload_n 14 0 dX8_applaud_13 rfl rfl rfl ?_
    refine ok_getR 17 dX8_applaud_14 rfl rfl F_Encores_Stage_15 sg_113 rfl (Nat.le_of_ble_eq_true rfl) rfl rfl ?_
    refine ok_alen 18 dX8_applaud_17 rfl sg_115 ?_
    rw [show Int32.ofNat 12 = 12 from rfl]
    refine ok_icmp_ge 34 21 dX8_applaud_18 (by decide) rfl (fun _ => ?_) (fun _ => ?_)
    · exact ok_less [some (.ref 113), some (.int a1), none, none, none, none, none, none, none] (And.intro rfl (And.intro rfl (trivial))) (hK34 m)
    · refine ok_aload_n 22 0 dX8_applaud_21 rfl rfl rfl ?_
      refine ok_getR 25 dX8_applaud_22 rfl rfl F_Encores_Stage_15 sg_113 rfl (Nat.le_of_ble_eq_true rfl) rfl rfl ?_
      refine ok_iload_n 26 2 dX8_applaud_25 rfl rfl rfl ?_
      refine ok_iconst 27 (-1) dX8_applaud_26 rfl rfl ?_
      refine ok_iast 28 dX8_applaud_27 rfl sg_115 ?_
      refine ok_bndM (fun m_27 => ?_)
      refine ok_iinc 31 2 1 [some (.ref 113), some (.int a1), some (.int (s2_12 + 1)), none, none, none, none, none, none] dX8_applaud_28 rfl rfl rfl (by decide) rfl ?_
      refine ok_goto 12 dX8_applaud_31 (by decide) ?_
      exact ok_less [some (.ref 113), some (.int a1), some (.int (s2_12 + 1)), none, none, none, none, none, none] (And.intro rfl (And.intro rfl (And.intro rfl (trivial)))) (hX (s2_12 + 1) m_27))

set_option maxRecDepth 100000 in
set_option maxHeartbeats 4000000 in
theorem ok_X8_applaud_J174 (N d : Nat) (a1 : Int32)  (a2_53 : Int32) (s4_59 : Int32) (a5_74 : Int32) (K233 : Mem → Ans) (X : Int32 → Mem → Ans) (hK233 : ∀  (m : Mem), Ok none SG (d + 4) m_X8_applaud 233 [some (.ref 113), some (.int a1), some (.int a2_53), none, some (.int s4_59), some (.int a5_74), none, none, none] [] SG m (K233 m)) (hX : ∀ (k6 : Int32) (m : Mem), Ok none SG (d + 4) m_X8_applaud 79 [some (.ref 113), some (.int a1), some (.int a2_53), none, some (.int s4_59), some (.int a5_74), some (.int k6), none, none] [] SG m (X k6 m)) (s6_174 : Int32) (s7_174 : Int32) (t0_174 : Int32) (m : Mem) : Ok none SG (d + 4) m_X8_applaud 174 [some (.ref 113), some (.int a1), some (.int a2_53), none, some (.int s4_59), some (.int a5_74), some (.int s6_174), some (.int s7_174), none] [.int t0_174] SG m (f_X8_applaud_J174 N a1 a2_53 s4_59 a5_74 K233 X s6_174 s7_174 t0_174 m) := by
  unfold f_X8_applaud_J174
  refine ok_istore 176 8 [some (.ref 113), some (.int a1), some (.int a2_53), none, some (.int s4_59), some (.int a5_74), some (.int s6_174), some (.int s7_174), some (.int t0_174)] dX8_applaud_174 rfl (by decide) rfl ?_
  refine ok_aload_n 177 0 dX8_applaud_176 rfl rfl rfl ?_
  refine ok_getR 180 dX8_applaud_177 rfl rfl F_Encores_Stage_15 sg_113 rfl (Nat.le_of_ble_eq_true rfl) rfl rfl ?_
  refine ok_iload 182 6 dX8_applaud_180 rfl rfl ?_
  refine ok_iald 183 dX8_applaud_182 rfl sg_115 ?_
  refine ok_iload 185 7 dX8_applaud_183 rfl rfl ?_
  refine ok_icmp_eq 218 188 dX8_applaud_185 (by decide) rfl (fun _ => ?_) (fun _ => ?_)
  · refine ok_aload_n 219 0 dX8_applaud_218 rfl rfl rfl ?_
    refine ok_getR 222 dX8_applaud_219 rfl rfl F_Encores_Stage_15 sg_113 rfl (Nat.le_of_ble_eq_true rfl) rfl rfl ?_
    refine ok_iload 224 6 dX8_applaud_222 rfl rfl ?_
    refine ok_iload 226 7 dX8_applaud_224 rfl rfl ?_
    refine ok_iast 227 dX8_applaud_226 rfl sg_115 ?_
    refine ok_bndM (fun m_226 => ?_)
    refine ok_iinc 230 6 1 [some (.ref 113), some (.int a1), some (.int a2_53), none, some (.int s4_59), some (.int a5_74), some (.int (s6_174 + 1)), some (.int s7_174), some (.int t0_174)] dX8_applaud_227 rfl rfl rfl (by decide) rfl ?_
    refine ok_goto 79 dX8_applaud_230 (by decide) ?_
    exact ok_less [some (.ref 113), some (.int a1), some (.int a2_53), none, some (.int s4_59), some (.int a5_74), some (.int (s6_174 + 1)), none, none] (And.intro rfl (And.intro rfl (And.intro rfl (And.intro rfl (And.intro rfl (And.intro rfl (trivial))))))) (hX (s6_174 + 1) m_226)
  · refine ok_iload 190 8 dX8_applaud_188 rfl rfl ?_
    refine ok_aload_n 191 0 dX8_applaud_190 rfl rfl rfl ?_
    refine ok_getR 194 dX8_applaud_191 rfl rfl F_Encores_Stage_22 sg_113 rfl (Nat.le_of_ble_eq_true rfl) rfl rfl ?_
    refine ok_iload 196 6 dX8_applaud_194 rfl rfl ?_
    refine ok_iload_n 197 1 dX8_applaud_196 rfl rfl rfl ?_
    refine ok_iload 199 7 dX8_applaud_197 rfl rfl ?_
    refine ok_callVi (np := 3) (M' := m_X2_clap) (As := [.int s6_174, .int a1, .int s7_174]) (st := [.int t0_174]) 202 dX8_applaud_199 rfl rfl km_X2_clap ki_X2_clap kv_X2_clap ml_Encores_Stage_134 (by decide) sg_110 rfl (Nat.le_of_ble_eq_true rfl) rfl rfl rfl (Nat.le_of_ble_eq_true rfl) (c_X2_clap N (d + 0) s6_174 a1 s7_174 m) ⟨Nat.le_refl _, Nat.le_refl _⟩ (Or.inl rfl) rfl (fun r_199 m_199 _ => ?_)
    refine ok_icmp_ge 218 205 dX8_applaud_202 (by decide) rfl (fun _ => ?_) (fun _ => ?_)
    · refine ok_aload_n 219 0 dX8_applaud_218 rfl rfl rfl ?_
      refine ok_getR 222 dX8_applaud_219 rfl rfl F_Encores_Stage_15 sg_113 rfl (Nat.le_of_ble_eq_true rfl) rfl rfl ?_
      refine ok_iload 224 6 dX8_applaud_222 rfl rfl ?_
      refine ok_iload 226 7 dX8_applaud_224 rfl rfl ?_
      refine ok_iast 227 dX8_applaud_226 rfl sg_115 ?_
      refine ok_bndM (fun m_226 => ?_)
      refine ok_iinc 230 6 1 [some (.ref 113), some (.int a1), some (.int a2_53), none, some (.int s4_59), some (.int a5_74), some (.int (s6_174 + 1)), some (.int s7_174), some (.int t0_174)] dX8_applaud_227 rfl rfl rfl (by decide) rfl ?_
      refine ok_goto 79 dX8_applaud_230 (by decide) ?_
      exact ok_less [some (.ref 113), some (.int a1), some (.int a2_53), none, some (.int s4_59), some (.int a5_74), some (.int (s6_174 + 1)), none, none] (And.intro rfl (And.intro rfl (And.intro rfl (And.intro rfl (And.intro rfl (And.intro rfl (trivial))))))) (hX (s6_174 + 1) m_226)
    · refine ok_aload_n 206 0 dX8_applaud_205 rfl rfl rfl ?_
      refine ok_dup 207 dX8_applaud_206 rfl rfl ?_
      refine ok_getI 210 dX8_applaud_207 rfl rfl F_Encores_Stage_116 sg_113 rfl (Nat.le_of_ble_eq_true rfl) rfl ?_
      refine ok_iconst 211 1 dX8_applaud_210 rfl rfl ?_
      refine ok_iload 213 6 dX8_applaud_211 rfl rfl ?_
      refine ok_ishl 214 dX8_applaud_213 rfl ?_
      refine ok_ior 215 dX8_applaud_214 rfl ?_
      refine ok_putI 218 dX8_applaud_215 rfl rfl F_Encores_Stage_116 sg_113 rfl (Nat.le_of_ble_eq_true rfl) rfl rfl pZ_8_5 rfl rfl ?_
      refine ok_bndM (fun m_215 => ?_)
      refine ok_aload_n 219 0 dX8_applaud_218 rfl rfl rfl ?_
      refine ok_getR 222 dX8_applaud_219 rfl rfl F_Encores_Stage_15 sg_113 rfl (Nat.le_of_ble_eq_true rfl) rfl rfl ?_
      refine ok_iload 224 6 dX8_applaud_222 rfl rfl ?_
      refine ok_iload 226 7 dX8_applaud_224 rfl rfl ?_
      refine ok_iast 227 dX8_applaud_226 rfl sg_115 ?_
      refine ok_bndM (fun m_226 => ?_)
      refine ok_iinc 230 6 1 [some (.ref 113), some (.int a1), some (.int a2_53), none, some (.int s4_59), some (.int a5_74), some (.int (s6_174 + 1)), some (.int s7_174), some (.int t0_174)] dX8_applaud_227 rfl rfl rfl (by decide) rfl ?_
      refine ok_goto 79 dX8_applaud_230 (by decide) ?_
      exact ok_less [some (.ref 113), some (.int a1), some (.int a2_53), none, some (.int s4_59), some (.int a5_74), some (.int (s6_174 + 1)), none, none] (And.intro rfl (And.intro rfl (And.intro rfl (And.intro rfl (And.intro rfl (And.intro rfl (trivial))))))) (hX (s6_174 + 1) m_226)

set_option maxRecDepth 100000 in
set_option maxHeartbeats 4000000 in
theorem ok_X8_applaud_L79 (N d : Nat) (a1 : Int32)  (a2_53 : Int32) (s4_59 : Int32) (a5_74 : Int32) (K233 : Mem → Ans) (hK233 : ∀  (m : Mem), Ok none SG (d + 4) m_X8_applaud 233 [some (.ref 113), some (.int a1), some (.int a2_53), none, some (.int s4_59), some (.int a5_74), none, none, none] [] SG m (K233 m)) : ∀ (n : Nat) (s6_79 : Int32) (m : Mem), Ok none SG (d + 4) m_X8_applaud 79 [some (.ref 113), some (.int a1), some (.int a2_53), none, some (.int s4_59), some (.int a5_74), some (.int s6_79), none, none] [] SG m (it1 (f_X8_applaud_L79 N a1 a2_53 s4_59 a5_74 K233) n s6_79 m) :=
  ok_it1 (fun s6_79 => [some (.ref 113), some (.int a1), some (.int a2_53), none, some (.int s4_59), some (.int a5_74), some (.int s6_79), none, none]) (fun X hX s6_79 m => by
    try unfold f_X8_applaud_L79
    refine ok_iload 81 6 dX8_applaud_79 rfl rfl ?_
    refine ok_aload_n 82 0 dX8_applaud_81 rfl rfl rfl ?_
    refine ok_getR 85 dX8_applaud_82 rfl rfl F_Encores_Stage_18 sg_113 rfl (Nat.le_of_ble_eq_true rfl) rfl rfl ?_
    refine ok_getR 88 dX8_applaud_85 rfl rfl F_Encores_Stage_106 sg_2 rfl (Nat.le_of_ble_eq_true rfl) rfl rfl ?_
    refine ok_getI 91 dX8_applaud_88 rfl rfl F_Encores_Stage_36 sg_3 rfl (Nat.le_of_ble_eq_true rfl) rfl ?_
    refine ok_icmp_ge 233 94 dX8_applaud_91 (by decide) rfl (fun _ => ?_) (fun _ => ?_)
    · exact ok_less [some (.ref 113), some (.int a1), some (.int a2_53), none, some (.int s4_59), some (.int a5_74), none, none, none] (And.intro rfl (And.intro rfl (And.intro rfl (And.intro rfl (And.intro rfl (trivial)))))) (hK233 m)
    · refine ok_iload 96 6 dX8_applaud_94 rfl rfl ?_
      refine ok_aload_n 97 0 dX8_applaud_96 rfl rfl rfl ?_
      refine ok_getR 100 dX8_applaud_97 rfl rfl F_Encores_Stage_9 sg_113 rfl (Nat.le_of_ble_eq_true rfl) rfl rfl ?_
      refine ok_alen 101 dX8_applaud_100 rfl sg_114 ?_
      rw [show Int32.ofNat 12 = 12 from rfl]
      refine ok_icmp_ge 233 104 dX8_applaud_101 (by decide) rfl (fun _ => ?_) (fun _ => ?_)
      · exact ok_less [some (.ref 113), some (.int a1), some (.int a2_53), none, some (.int s4_59), some (.int a5_74), none, none, none] (And.intro rfl (And.intro rfl (And.intro rfl (And.intro rfl (And.intro rfl (trivial)))))) (hK233 m)
      · refine ok_iload 106 6 dX8_applaud_104 rfl rfl ?_
        refine ok_aload_n 107 0 dX8_applaud_106 rfl rfl rfl ?_
        refine ok_getR 110 dX8_applaud_107 rfl rfl F_Encores_Stage_15 sg_113 rfl (Nat.le_of_ble_eq_true rfl) rfl rfl ?_
        refine ok_alen 111 dX8_applaud_110 rfl sg_115 ?_
        rw [show Int32.ofNat 12 = 12 from rfl]
        refine ok_icmp_ge 233 114 dX8_applaud_111 (by decide) rfl (fun _ => ?_) (fun _ => ?_)
        · exact ok_less [some (.ref 113), some (.int a1), some (.int a2_53), none, some (.int s4_59), some (.int a5_74), none, none, none] (And.intro rfl (And.intro rfl (And.intro rfl (And.intro rfl (And.intro rfl (trivial)))))) (hK233 m)
        · refine ok_iload 116 6 dX8_applaud_114 rfl rfl ?_
          refine ok_iload_n 117 2 dX8_applaud_116 rfl rfl rfl ?_
          refine ok_aload_n 118 0 dX8_applaud_117 rfl rfl rfl ?_
          refine ok_getI 121 dX8_applaud_118 rfl rfl F_Encores_Stage_116 sg_113 rfl (Nat.le_of_ble_eq_true rfl) rfl ?_
          refine ok_iconst 122 (-1) dX8_applaud_121 rfl rfl ?_
          refine ok_ixor 123 dX8_applaud_122 rfl ?_
          refine ok_iand 124 dX8_applaud_123 rfl ?_
          refine ok_callSNi (np := 2) (M' := m_X11_isIn) (As := [.int s6_79, .int (a2_53 &&& ((m 113 5) ^^^ (-1 : Int32)))]) (st := []) 127 9 dX8_applaud_124 rfl rfl km_X11_isIn ks_X11_isIn rfl (by decide) rfl rfl (Nat.le_of_ble_eq_true rfl) (c_X11_isIn N (d + 3) s6_79 (a2_53 &&& ((m 113 5) ^^^ (-1 : Int32))) m) ⟨Nat.le_refl _, Nat.le_refl _⟩ (Or.inl rfl) rfl (fun r_124 m_124 _ => ?_)
          refine ok_if_eq 227 130 dX8_applaud_127 (by decide) rfl (fun _ => ?_) (fun _ => ?_)
          · refine ok_iinc 230 6 1 [some (.ref 113), some (.int a1), some (.int a2_53), none, some (.int s4_59), some (.int a5_74), some (.int (s6_79 + 1)), none, none] dX8_applaud_227 rfl rfl rfl (by decide) rfl ?_
            refine ok_goto 79 dX8_applaud_230 (by decide) ?_
            exact ok_less [some (.ref 113), some (.int a1), some (.int a2_53), none, some (.int s4_59), some (.int a5_74), some (.int (s6_79 + 1)), none, none] (And.intro rfl (And.intro rfl (And.intro rfl (And.intro rfl (And.intro rfl (And.intro rfl (trivial))))))) (hX (s6_79 + 1) m_124)
          · refine ok_aload_n 131 0 dX8_applaud_130 rfl rfl rfl ?_
            refine ok_getR 134 dX8_applaud_131 rfl rfl F_Encores_Stage_18 sg_113 rfl (Nat.le_of_ble_eq_true rfl) rfl rfl ?_
            refine ok_getR 137 dX8_applaud_134 rfl rfl F_Encores_Stage_106 sg_2 rfl (Nat.le_of_ble_eq_true rfl) rfl rfl ?_
            refine ok_iload 139 6 dX8_applaud_137 rfl rfl ?_
            refine ok_bipush 141 6 dX8_applaud_139 rfl rfl ?_
            refine ok_callVi (np := 2) (M' := m_X9_at) (As := [.int s6_79, .int 6]) (st := []) 144 dX8_applaud_141 rfl rfl km_X9_at ki_X9_at kv_X9_at ml_Encores_Stage_46 (by decide) sg_3 rfl (Nat.le_of_ble_eq_true rfl) rfl rfl rfl (Nat.le_of_ble_eq_true rfl) (c_X9_at N (d + 3) 3 s6_79 6 tg_3 m_124) ⟨Nat.le_refl _, Nat.le_refl _⟩ (Or.inl rfl) rfl (fun r_141 m_141 _ => ?_)
            refine ok_aload_n 145 0 dX8_applaud_144 rfl rfl rfl ?_
            refine ok_getI 148 dX8_applaud_145 rfl rfl F_Encores_Stage_116 sg_113 rfl (Nat.le_of_ble_eq_true rfl) rfl ?_
            refine ok_iand 149 dX8_applaud_148 rfl ?_
            refine ok_callSi (np := 1) (M' := m_J6_bitCount_0f7a4) (As := [.int (r_141 &&& (m_141 113 5))]) (st := []) 152 dX8_applaud_149 rfl rfl km_J6_bitCount_0f7a4 ks_J6_bitCount_0f7a4 ml_Encores_Stage_129 (by decide) rfl rfl (Nat.le_of_ble_eq_true rfl) (c_J6_bitCount_0f7a4 N (d + 3) (r_141 &&& (m_141 113 5)) m_141) ⟨Nat.le_refl _, Nat.le_refl _⟩ (Or.inl rfl) rfl (fun r_149 m_149 _ => ?_)
            refine ok_istore 154 7 [some (.ref 113), some (.int a1), some (.int a2_53), none, some (.int s4_59), some (.int a5_74), some (.int s6_79), some (.int r_149), none] dX8_applaud_152 rfl (by decide) rfl ?_
            refine ok_aload_n 155 0 dX8_applaud_154 rfl rfl rfl ?_
            refine ok_getI 158 dX8_applaud_155 rfl rfl F_Encores_Stage_109 sg_113 rfl (Nat.le_of_ble_eq_true rfl) rfl ?_
            refine ok_if_eq 167 161 dX8_applaud_158 (by decide) rfl (fun _ => ?_) (fun _ => ?_)
            · refine ok_aload_n 168 0 dX8_applaud_167 rfl rfl rfl ?_
              refine ok_getR 171 dX8_applaud_168 rfl rfl F_Encores_Stage_9 sg_113 rfl (Nat.le_of_ble_eq_true rfl) rfl rfl ?_
              refine ok_iload 173 6 dX8_applaud_171 rfl rfl ?_
              refine ok_iald 174 dX8_applaud_173 rfl sg_114 ?_
              exact ok_less [some (.ref 113), some (.int a1), some (.int a2_53), none, some (.int s4_59), some (.int a5_74), some (.int s6_79), some (.int r_149), none] (And.intro rfl (And.intro rfl (And.intro rfl (And.intro rfl (And.intro rfl (And.intro rfl (And.intro rfl (trivial)))))))) (ok_X8_applaud_J174 N d a1 a2_53 s4_59 a5_74 K233 X hK233 hX s6_79 r_149 (m_149 114 s6_79.toNatClampNeg) m_149)
            · refine ok_sipush 164 500 dX8_applaud_161 rfl rfl ?_
              refine ok_goto 174 dX8_applaud_164 (by decide) ?_
              exact ok_less [some (.ref 113), some (.int a1), some (.int a2_53), none, some (.int s4_59), some (.int a5_74), some (.int s6_79), some (.int r_149), none] (And.intro rfl (And.intro rfl (And.intro rfl (And.intro rfl (And.intro rfl (And.intro rfl (And.intro rfl (trivial)))))))) (ok_X8_applaud_J174 N d a1 a2_53 s4_59 a5_74 K233 X hK233 hX s6_79 r_149 500 m_149))

set_option maxRecDepth 100000 in
set_option maxHeartbeats 4000000 in
theorem ok_X8_applaud_J247 (N d : Nat) (a1 : Int32)  (a2_53 : Int32)  (X : Int32 → Int32 → Mem → Ans) (hX : ∀ (k3 : Int32) (k4 : Int32) (m : Mem), Ok none SG (d + 4) m_X8_applaud 59 [some (.ref 113), some (.int a1), some (.int a2_53), some (.int k3), some (.int k4), none, none, none, none] [] SG m (X k3 k4 m)) (s4_247 : Int32) (t0_247 : Int32) (m : Mem) : Ok none SG (d + 4) m_X8_applaud 247 [some (.ref 113), some (.int a1), some (.int a2_53), none, some (.int s4_247), none, none, none, none] [.int t0_247] SG m (f_X8_applaud_J247 N a1 a2_53  X s4_247 t0_247 m) := by
  unfold f_X8_applaud_J247
  refine ok_istore_n 248 3 [some (.ref 113), some (.int a1), some (.int a2_53), some (.int t0_247), some (.int s4_247), none, none, none, none] dX8_applaud_247 rfl rfl (by decide) rfl ?_
  refine ok_aload_n 249 0 dX8_applaud_248 rfl rfl rfl ?_
  refine ok_dup 250 dX8_applaud_249 rfl rfl ?_
  refine ok_getI 253 dX8_applaud_250 rfl rfl F_Encores_Stage_119 sg_113 rfl (Nat.le_of_ble_eq_true rfl) rfl ?_
  refine ok_iload_n 254 3 dX8_applaud_253 rfl rfl rfl ?_
  refine ok_if_eq 261 257 dX8_applaud_254 (by decide) rfl (fun _ => ?_) (fun _ => ?_)
  · refine ok_iconst 262 0 dX8_applaud_261 rfl rfl ?_
    refine ok_iadd 263 dX8_applaud_262 rfl ?_
    refine ok_putI 266 dX8_applaud_263 rfl rfl F_Encores_Stage_119 sg_113 rfl (Nat.le_of_ble_eq_true rfl) rfl rfl pZ_8_6 rfl rfl ?_
    refine ok_bndM (fun m_263 => ?_)
    refine ok_iinc 269 4 1 [some (.ref 113), some (.int a1), some (.int a2_53), some (.int t0_247), some (.int (s4_247 + 1)), none, none, none, none] dX8_applaud_266 rfl rfl rfl (by decide) rfl ?_
    refine ok_goto 59 dX8_applaud_269 (by decide) ?_
    exact ok_less [some (.ref 113), some (.int a1), some (.int a2_53), some (.int t0_247), some (.int (s4_247 + 1)), none, none, none, none] (And.intro rfl (And.intro rfl (And.intro rfl (And.intro rfl (And.intro rfl (trivial)))))) (hX t0_247 (s4_247 + 1) m_263)
  · refine ok_iconst 258 1 dX8_applaud_257 rfl rfl ?_
    refine ok_goto 262 dX8_applaud_258 (by decide) ?_
    refine ok_iadd 263 dX8_applaud_262 rfl ?_
    refine ok_putI 266 dX8_applaud_263 rfl rfl F_Encores_Stage_119 sg_113 rfl (Nat.le_of_ble_eq_true rfl) rfl rfl pZ_8_6 rfl rfl ?_
    refine ok_bndM (fun m_263 => ?_)
    refine ok_iinc 269 4 1 [some (.ref 113), some (.int a1), some (.int a2_53), some (.int t0_247), some (.int (s4_247 + 1)), none, none, none, none] dX8_applaud_266 rfl rfl rfl (by decide) rfl ?_
    refine ok_goto 59 dX8_applaud_269 (by decide) ?_
    exact ok_less [some (.ref 113), some (.int a1), some (.int a2_53), some (.int t0_247), some (.int (s4_247 + 1)), none, none, none, none] (And.intro rfl (And.intro rfl (And.intro rfl (And.intro rfl (And.intro rfl (trivial)))))) (hX t0_247 (s4_247 + 1) m_263)

set_option maxRecDepth 100000 in
set_option maxHeartbeats 4000000 in
theorem ok_X8_applaud_J233 (N d : Nat) (a1 : Int32)  (a2_53 : Int32)  (X : Int32 → Int32 → Mem → Ans) (hX : ∀ (k3 : Int32) (k4 : Int32) (m : Mem), Ok none SG (d + 4) m_X8_applaud 59 [some (.ref 113), some (.int a1), some (.int a2_53), some (.int k3), some (.int k4), none, none, none, none] [] SG m (X k3 k4 m)) (s4_233 : Int32) (s5_233 : Int32) (m : Mem) : Ok none SG (d + 4) m_X8_applaud 233 [some (.ref 113), some (.int a1), some (.int a2_53), none, some (.int s4_233), some (.int s5_233), none, none, none] [] SG m (f_X8_applaud_J233 N a1 a2_53  X s4_233 s5_233 m) := by
  unfold f_X8_applaud_J233
  refine ok_aload_n 234 0 dX8_applaud_233 rfl rfl rfl ?_
  refine ok_getI 237 dX8_applaud_234 rfl rfl F_Encores_Stage_116 sg_113 rfl (Nat.le_of_ble_eq_true rfl) rfl ?_
  refine ok_iload 239 5 dX8_applaud_237 rfl rfl ?_
  refine ok_icmp_eq 246 242 dX8_applaud_239 (by decide) rfl (fun _ => ?_) (fun _ => ?_)
  · refine ok_iconst 247 0 dX8_applaud_246 rfl rfl ?_
    exact ok_less [some (.ref 113), some (.int a1), some (.int a2_53), none, some (.int s4_233), none, none, none, none] (And.intro rfl (And.intro rfl (And.intro rfl (And.intro rfl (trivial))))) (ok_X8_applaud_J247 N d a1 a2_53  X hX s4_233 0 m)
  · refine ok_iconst 243 1 dX8_applaud_242 rfl rfl ?_
    refine ok_goto 247 dX8_applaud_243 (by decide) ?_
    exact ok_less [some (.ref 113), some (.int a1), some (.int a2_53), none, some (.int s4_233), none, none, none, none] (And.intro rfl (And.intro rfl (And.intro rfl (And.intro rfl (trivial))))) (ok_X8_applaud_J247 N d a1 a2_53  X hX s4_233 1 m)

set_option maxRecDepth 100000 in
set_option maxHeartbeats 4000000 in
theorem ok_X8_applaud_L59 (N d : Nat) (a1 : Int32)  (a2_53 : Int32)  : ∀ (n : Nat) (s3_59 : Int32) (s4_59 : Int32) (m : Mem), Ok none SG (d + 4) m_X8_applaud 59 [some (.ref 113), some (.int a1), some (.int a2_53), some (.int s3_59), some (.int s4_59), none, none, none, none] [] SG m (it2 (f_X8_applaud_L59 N a1 a2_53) n s3_59 s4_59 m) :=
  ok_it2 (fun s3_59 s4_59 => [some (.ref 113), some (.int a1), some (.int a2_53), some (.int s3_59), some (.int s4_59), none, none, none, none]) (fun X hX s3_59 s4_59 m => by
    try unfold f_X8_applaud_L59
    refine ok_iload 61 4 dX8_applaud_59 rfl rfl ?_
    refine ok_bipush 63 12 dX8_applaud_61 rfl rfl ?_
    refine ok_icmp_gt 272 66 dX8_applaud_63 (by decide) rfl (fun _ => ?_) (fun _ => ?_)
    · exact ok_vret dX8_applaud_272 rfl
    · refine ok_iload_n 67 3 dX8_applaud_66 rfl rfl rfl ?_
      refine ok_if_eq 272 70 dX8_applaud_67 (by decide) rfl (fun _ => ?_) (fun _ => ?_)
      · exact ok_vret dX8_applaud_272 rfl
      · refine ok_aload_n 71 0 dX8_applaud_70 rfl rfl rfl ?_
        refine ok_getI 74 dX8_applaud_71 rfl rfl F_Encores_Stage_116 sg_113 rfl (Nat.le_of_ble_eq_true rfl) rfl ?_
        refine ok_bndI (fun a5_74 => ?_)
        refine ok_istore 76 5 [some (.ref 113), some (.int a1), some (.int a2_53), some (.int s3_59), some (.int s4_59), some (.int a5_74), none, none, none] dX8_applaud_74 rfl (by decide) rfl ?_
        refine ok_iconst 77 0 dX8_applaud_76 rfl rfl ?_
        refine ok_istore 79 6 [some (.ref 113), some (.int a1), some (.int a2_53), some (.int s3_59), some (.int s4_59), some (.int a5_74), some (.int 0), none, none] dX8_applaud_77 rfl (by decide) rfl ?_
        refine ok_less [some (.ref 113), some (.int a1), some (.int a2_53), none, some (.int s4_59), some (.int a5_74), some (.int 0), none, none] (And.intro rfl (And.intro rfl (And.intro rfl (And.intro rfl (And.intro rfl (And.intro rfl (trivial))))))) ?_
        exact ok_X8_applaud_L79 N d a1 a2_53 s4_59 a5_74 _ (fun mk233 => by
            exact ok_less [some (.ref 113), some (.int a1), some (.int a2_53), none, some (.int s4_59), some (.int a5_74), none, none, none] (And.intro rfl (And.intro rfl (And.intro rfl (And.intro rfl (And.intro rfl (trivial)))))) (ok_X8_applaud_J233 N d a1 a2_53  X hX s4_59 a5_74 mk233)) N 0 m)

set_option maxRecDepth 100000 in
set_option maxHeartbeats 4000000 in
theorem ok_X8_applaud (N d : Nat) (a1 : Int32)  (m : Mem) : Ok none SG (d + 4) m_X8_applaud 0 [some (.ref 113), some (.int a1), none, none, none, none, none, none, none] [] SG m (f_X8_applaud N a1 m) := by
  unfold f_X8_applaud
  refine ok_aload_n 1 0 dX8_applaud_0 rfl rfl rfl ?_
  refine ok_iconst 2 0 dX8_applaud_1 rfl rfl ?_
  refine ok_putI 5 dX8_applaud_2 rfl rfl F_Encores_Stage_116 sg_113 rfl (Nat.le_of_ble_eq_true rfl) rfl rfl pZ_8_5 rfl rfl ?_
  refine ok_bndM (fun m_2 => ?_)
  refine ok_aload_n 6 0 dX8_applaud_5 rfl rfl rfl ?_
  refine ok_iconst 7 0 dX8_applaud_6 rfl rfl ?_
  refine ok_putI 10 dX8_applaud_7 rfl rfl F_Encores_Stage_119 sg_113 rfl (Nat.le_of_ble_eq_true rfl) rfl rfl pZ_8_6 rfl rfl ?_
  refine ok_bndM (fun m_7 => ?_)
  refine ok_iconst 11 0 dX8_applaud_10 rfl rfl ?_
  refine ok_istore_n 12 2 [some (.ref 113), some (.int a1), some (.int 0), none, none, none, none, none, none] dX8_applaud_11 rfl rfl (by decide) rfl ?_
  refine ok_less [some (.ref 113), some (.int a1), some (.int 0), none, none, none, none, none, none] (And.intro rfl (And.intro rfl (And.intro rfl (trivial)))) ?_
  exact ok_X8_applaud_L12 N d a1  _ (fun mk34 => by
      refine ok_aload_n 35 0 dX8_applaud_34 rfl rfl rfl ?_
      refine ok_getR 38 dX8_applaud_35 rfl rfl F_Encores_Stage_18 sg_113 rfl (Nat.le_of_ble_eq_true rfl) rfl rfl ?_
      refine ok_iconst 39 3 dX8_applaud_38 rfl rfl ?_
      refine ok_callVi (np := 1) (M' := m_X1_those) (As := [.int 3]) (st := []) 42 dX8_applaud_39 rfl rfl km_X1_those ki_X1_those kv_X1_those ml_Encores_Stage_122 (by decide) sg_2 rfl (Nat.le_of_ble_eq_true rfl) rfl rfl rfl (Nat.le_of_ble_eq_true rfl) (c_X1_those N (d + 2) 3 mk34) ⟨Nat.le_refl _, Nat.le_refl _⟩ (Or.inl rfl) rfl (fun r_39 m_39 _ => ?_)
      refine ok_aload_n 43 0 dX8_applaud_42 rfl rfl rfl ?_
      refine ok_getR 46 dX8_applaud_43 rfl rfl F_Encores_Stage_18 sg_113 rfl (Nat.le_of_ble_eq_true rfl) rfl rfl ?_
      refine ok_iconst 47 4 dX8_applaud_46 rfl rfl ?_
      refine ok_callVi (np := 1) (M' := m_X1_those) (As := [.int 4]) (st := [.int r_39]) 50 dX8_applaud_47 rfl rfl km_X1_those ki_X1_those kv_X1_those ml_Encores_Stage_122 (by decide) sg_2 rfl (Nat.le_of_ble_eq_true rfl) rfl rfl rfl (Nat.le_of_ble_eq_true rfl) (c_X1_those N (d + 2) 4 m_39) ⟨Nat.le_refl _, Nat.le_refl _⟩ (Or.inl rfl) rfl (fun r_47 m_47 _ => ?_)
      refine ok_iconst 51 (-1) dX8_applaud_50 rfl rfl ?_
      refine ok_ixor 52 dX8_applaud_51 rfl ?_
      refine ok_iand 53 dX8_applaud_52 rfl ?_
      refine ok_bndI (fun a2_53 => ?_)
      refine ok_istore_n 54 2 [some (.ref 113), some (.int a1), some (.int a2_53), none, none, none, none, none, none] dX8_applaud_53 rfl rfl (by decide) rfl ?_
      refine ok_iconst 55 1 dX8_applaud_54 rfl rfl ?_
      refine ok_istore_n 56 3 [some (.ref 113), some (.int a1), some (.int a2_53), some (.int 1), none, none, none, none, none] dX8_applaud_55 rfl rfl (by decide) rfl ?_
      refine ok_iconst 57 0 dX8_applaud_56 rfl rfl ?_
      refine ok_istore 59 4 [some (.ref 113), some (.int a1), some (.int a2_53), some (.int 1), some (.int 0), none, none, none, none] dX8_applaud_57 rfl (by decide) rfl ?_
      refine ok_less [some (.ref 113), some (.int a1), some (.int a2_53), some (.int 1), some (.int 0), none, none, none, none] (And.intro rfl (And.intro rfl (And.intro rfl (And.intro rfl (And.intro rfl (trivial)))))) ?_
      exact ok_X8_applaud_L59 N d a1 a2_53   N 1 0 m_47) N 0 m_7

theorem c_X8_applaud (N d : Nat) (a1 : Int32)  (m : Mem) : CM (d + 4) m_X8_applaud SG SG [.ref 113, .int a1] m (f_X8_applaud N a1 m) :=
  CM.ofOk km_X8_applaud ⟨Nat.le_refl _, Nat.le_refl _⟩ (by simp [Value.category]) (Nat.le_of_ble_eq_true rfl) (ok_X8_applaud N d a1 m)

def f_X8_coughs (N : Nat)  (m : Mem) : Ans :=
if (m 113 4) = 0 then (bd (f_X1_hour N 3 m) fun r_12 m_12 =>
if r_12 ≤ 0 then (some (0, m_12))
else (bd (f_X8_draw N 1000 m_12) fun r_22 m_22 =>
bd (f_X1_hour N 3 m_22) fun r_30 m_30 =>
if r_30 ≤ r_22 then (some (0, m_30))
else (some (1, m_30))))
else (some (0, m))

set_option maxRecDepth 100000 in
set_option maxHeartbeats 4000000 in
theorem ok_X8_coughs (N d : Nat)   (m : Mem) : Ok none SG (d + 3) m_X8_coughs 0 [some (.ref 113)] [] SG m (f_X8_coughs N m) := by
  unfold f_X8_coughs
  refine ok_aload_n 1 0 dX8_coughs_0 rfl rfl rfl ?_
  refine ok_getI 4 dX8_coughs_1 rfl rfl F_Encores_Stage_109 sg_113 rfl (Nat.le_of_ble_eq_true rfl) rfl ?_
  refine ok_if_ne 40 7 dX8_coughs_4 (by decide) rfl (fun _ => ?_) (fun _ => ?_)
  · refine ok_iconst 41 0 dX8_coughs_40 rfl rfl ?_
    exact ok_zretc dX8_coughs_41 rfl rfl
  · refine ok_aload_n 8 0 dX8_coughs_7 rfl rfl rfl ?_
    refine ok_getR 11 dX8_coughs_8 rfl rfl F_Encores_Stage_18 sg_113 rfl (Nat.le_of_ble_eq_true rfl) rfl rfl ?_
    refine ok_iconst 12 3 dX8_coughs_11 rfl rfl ?_
    refine ok_callVi (np := 1) (M' := m_X1_hour) (As := [.int 3]) (st := []) 15 dX8_coughs_12 rfl rfl km_X1_hour ki_X1_hour kv_X1_hour ml_Encores_Stage_42 (by decide) sg_2 rfl (Nat.le_of_ble_eq_true rfl) rfl rfl rfl (Nat.le_of_ble_eq_true rfl) (c_X1_hour N (d + 1) 3 m) ⟨Nat.le_refl _, Nat.le_refl _⟩ (Or.inl rfl) rfl (fun r_12 m_12 _ => ?_)
    refine ok_if_le 40 18 dX8_coughs_15 (by decide) rfl (fun _ => ?_) (fun _ => ?_)
    · refine ok_iconst 41 0 dX8_coughs_40 rfl rfl ?_
      exact ok_zretc dX8_coughs_41 rfl rfl
    · refine ok_aload_n 19 0 dX8_coughs_18 rfl rfl rfl ?_
      refine ok_sipush 22 1000 dX8_coughs_19 rfl rfl ?_
      refine ok_callVi (np := 1) (M' := m_X8_draw) (As := [.int 1000]) (st := []) 25 dX8_coughs_22 rfl rfl km_X8_draw ki_X8_draw kv_X8_draw ml_Encores_Stage_113 (by decide) sg_113 rfl (Nat.le_of_ble_eq_true rfl) rfl rfl rfl (Nat.le_of_ble_eq_true rfl) (c_X8_draw N (d + 0) 1000 m_12) ⟨Nat.le_refl _, Nat.le_refl _⟩ (Or.inl rfl) rfl (fun r_22 m_22 _ => ?_)
      refine ok_aload_n 26 0 dX8_coughs_25 rfl rfl rfl ?_
      refine ok_getR 29 dX8_coughs_26 rfl rfl F_Encores_Stage_18 sg_113 rfl (Nat.le_of_ble_eq_true rfl) rfl rfl ?_
      refine ok_iconst 30 3 dX8_coughs_29 rfl rfl ?_
      refine ok_callVi (np := 1) (M' := m_X1_hour) (As := [.int 3]) (st := [.int r_22]) 33 dX8_coughs_30 rfl rfl km_X1_hour ki_X1_hour kv_X1_hour ml_Encores_Stage_42 (by decide) sg_2 rfl (Nat.le_of_ble_eq_true rfl) rfl rfl rfl (Nat.le_of_ble_eq_true rfl) (c_X1_hour N (d + 1) 3 m_22) ⟨Nat.le_refl _, Nat.le_refl _⟩ (Or.inl rfl) rfl (fun r_30 m_30 _ => ?_)
      refine ok_icmp_ge 40 36 dX8_coughs_33 (by decide) rfl (fun _ => ?_) (fun _ => ?_)
      · refine ok_iconst 41 0 dX8_coughs_40 rfl rfl ?_
        exact ok_zretc dX8_coughs_41 rfl rfl
      · refine ok_iconst 37 1 dX8_coughs_36 rfl rfl ?_
        refine ok_goto 41 dX8_coughs_37 (by decide) ?_
        exact ok_zretc dX8_coughs_41 rfl rfl

theorem c_X8_coughs (N d : Nat)   (m : Mem) : CM (d + 3) m_X8_coughs SG SG [.ref 113] m (f_X8_coughs N m) :=
  CM.ofOk km_X8_coughs ⟨Nat.le_refl _, Nat.le_refl _⟩ (by simp [Value.category]) (Nat.le_of_ble_eq_true rfl) (ok_X8_coughs N d  m)

def f_X8_handsAt (N : Nat) (a1 : Int32) (m : Mem) : Ans :=
bd (f_X8_handsOf N (m 113 5) m) fun r_5 m_5 =>
bd (f_X2_ofDeed N 256 a1 m_5) fun r_16 m_16 =>
some ((r_5 + r_16), m_16)

set_option maxRecDepth 100000 in
set_option maxHeartbeats 4000000 in
theorem ok_X8_handsAt (N d : Nat) (a1 : Int32)  (m : Mem) : Ok none SG (d + 4) m_X8_handsAt 0 [some (.ref 113), some (.int a1)] [] SG m (f_X8_handsAt N a1 m) := by
  unfold f_X8_handsAt
  refine ok_aload_n 1 0 dX8_handsAt_0 rfl rfl rfl ?_
  refine ok_aload_n 2 0 dX8_handsAt_1 rfl rfl rfl ?_
  refine ok_getI 5 dX8_handsAt_2 rfl rfl F_Encores_Stage_116 sg_113 rfl (Nat.le_of_ble_eq_true rfl) rfl ?_
  refine ok_callVi (np := 1) (M' := m_X8_handsOf) (As := [.int (m 113 5)]) (st := []) 8 dX8_handsAt_5 rfl rfl km_X8_handsOf ki_X8_handsOf kv_X8_handsOf ml_Encores_Stage_138 (by decide) sg_113 rfl (Nat.le_of_ble_eq_true rfl) rfl rfl rfl (Nat.le_of_ble_eq_true rfl) (c_X8_handsOf N (d + 2) (m 113 5) m) ⟨Nat.le_refl _, Nat.le_refl _⟩ (Or.inl rfl) rfl (fun r_5 m_5 _ => ?_)
  refine ok_aload_n 9 0 dX8_handsAt_8 rfl rfl rfl ?_
  refine ok_getR 12 dX8_handsAt_9 rfl rfl F_Encores_Stage_22 sg_113 rfl (Nat.le_of_ble_eq_true rfl) rfl rfl ?_
  refine ok_sipush 15 256 dX8_handsAt_12 rfl rfl ?_
  refine ok_iload_n 16 1 dX8_handsAt_15 rfl rfl rfl ?_
  refine ok_callVi (np := 2) (M' := m_X2_ofDeed) (As := [.int 256, .int a1]) (st := [.int r_5]) 19 dX8_handsAt_16 rfl rfl km_X2_ofDeed ki_X2_ofDeed kv_X2_ofDeed ml_Encores_Stage_89 (by decide) sg_110 rfl (Nat.le_of_ble_eq_true rfl) rfl rfl rfl (Nat.le_of_ble_eq_true rfl) (c_X2_ofDeed N (d + 0) 256 a1 m_5) ⟨Nat.le_refl _, Nat.le_refl _⟩ (Or.inl rfl) rfl (fun r_16 m_16 _ => ?_)
  refine ok_iadd 20 dX8_handsAt_19 rfl ?_
  exact ok_iret dX8_handsAt_20 rfl

theorem c_X8_handsAt (N d : Nat) (a1 : Int32)  (m : Mem) : CM (d + 4) m_X8_handsAt SG SG [.ref 113, .int a1] m (f_X8_handsAt N a1 m) :=
  CM.ofOk km_X8_handsAt ⟨Nat.le_refl _, Nat.le_refl _⟩ (by simp [Value.category]) (Nat.le_of_ble_eq_true rfl) (ok_X8_handsAt N d a1 m)

def f_X8_noteDone_J22 (N : Nat) (a1 : Int32) (a2 : Int32) (a3 : Int32)    (m : Mem) : Ans :=
bd (f_X1_hour N 5 m) fun r_31 m_31 =>
if r_31 ≤ 0 then (bd (f_X1_note N 0 a1 a3 m_31) fun _ m_44 =>
some (0, m_44))
else (bd (f_X1_note N 1 a1 a3 m_31) fun _ m_44 =>
some (0, m_44))

def f_X8_noteDone (N : Nat) (a1 : Int32) (a2 : Int32) (a3 : Int32) (m : Mem) : Ans :=
if (m 113 4) = 0 then (if a2 = 0 then (f_X8_noteDone_J22 N a1 a2 a3 m)
else (bd (f_X1_note N 2 a1 0 m) fun _ m_19 =>
f_X8_noteDone_J22 N a1 a2 a3 m_19))
else (some (0, m))

set_option maxRecDepth 100000 in
set_option maxHeartbeats 4000000 in
theorem ok_X8_noteDone_J22 (N d : Nat) (a1 : Int32) (a2 : Int32) (a3 : Int32)     (m : Mem) : Ok none SG (d + 2) m_X8_noteDone 22 [some (.ref 113), some (.int a1), none, some (.int a3)] [] SG m (f_X8_noteDone_J22 N a1 a2 a3 m) := by
  unfold f_X8_noteDone_J22
  refine ok_aload_n 23 0 dX8_noteDone_22 rfl rfl rfl ?_
  refine ok_getR 26 dX8_noteDone_23 rfl rfl F_Encores_Stage_18 sg_113 rfl (Nat.le_of_ble_eq_true rfl) rfl rfl ?_
  refine ok_aload_n 27 0 dX8_noteDone_26 rfl rfl rfl ?_
  refine ok_getR 30 dX8_noteDone_27 rfl rfl F_Encores_Stage_18 sg_113 rfl (Nat.le_of_ble_eq_true rfl) rfl rfl ?_
  refine ok_iconst 31 5 dX8_noteDone_30 rfl rfl ?_
  refine ok_callVi (np := 1) (M' := m_X1_hour) (As := [.int 5]) (st := [.ref 2]) 34 dX8_noteDone_31 rfl rfl km_X1_hour ki_X1_hour kv_X1_hour ml_Encores_Stage_42 (by decide) sg_2 rfl (Nat.le_of_ble_eq_true rfl) rfl rfl rfl (Nat.le_of_ble_eq_true rfl) (c_X1_hour N (d + 0) 5 m) ⟨Nat.le_refl _, Nat.le_refl _⟩ (Or.inl rfl) rfl (fun r_31 m_31 _ => ?_)
  refine ok_if_le 41 37 dX8_noteDone_34 (by decide) rfl (fun _ => ?_) (fun _ => ?_)
  · refine ok_iconst 42 0 dX8_noteDone_41 rfl rfl ?_
    refine ok_iload_n 43 1 dX8_noteDone_42 rfl rfl rfl ?_
    refine ok_iload_n 44 3 dX8_noteDone_43 rfl rfl rfl ?_
    refine ok_callVv (np := 3) (M' := m_X1_note) (As := [.int 0, .int a1, .int a3]) (st := []) 47 dX8_noteDone_44 rfl rfl km_X1_note ki_X1_note kv_X1_note ml_Encores_Stage_141 (by decide) sg_2 rfl (Nat.le_of_ble_eq_true rfl) rfl rfl rfl (Nat.le_of_ble_eq_true rfl) (c_X1_note N (d + 0) 0 a1 a3 m_31) ⟨Nat.le_refl _, Nat.le_refl _⟩ (Or.inl rfl) rfl (fun _ m_44 _ => ?_)
    exact ok_vret dX8_noteDone_47 rfl
  · refine ok_iconst 38 1 dX8_noteDone_37 rfl rfl ?_
    refine ok_goto 42 dX8_noteDone_38 (by decide) ?_
    refine ok_iload_n 43 1 dX8_noteDone_42 rfl rfl rfl ?_
    refine ok_iload_n 44 3 dX8_noteDone_43 rfl rfl rfl ?_
    refine ok_callVv (np := 3) (M' := m_X1_note) (As := [.int 1, .int a1, .int a3]) (st := []) 47 dX8_noteDone_44 rfl rfl km_X1_note ki_X1_note kv_X1_note ml_Encores_Stage_141 (by decide) sg_2 rfl (Nat.le_of_ble_eq_true rfl) rfl rfl rfl (Nat.le_of_ble_eq_true rfl) (c_X1_note N (d + 0) 1 a1 a3 m_31) ⟨Nat.le_refl _, Nat.le_refl _⟩ (Or.inl rfl) rfl (fun _ m_44 _ => ?_)
    exact ok_vret dX8_noteDone_47 rfl

set_option maxRecDepth 100000 in
set_option maxHeartbeats 4000000 in
theorem ok_X8_noteDone (N d : Nat) (a1 : Int32) (a2 : Int32) (a3 : Int32)  (m : Mem) : Ok none SG (d + 2) m_X8_noteDone 0 [some (.ref 113), some (.int a1), some (.int a2), some (.int a3)] [] SG m (f_X8_noteDone N a1 a2 a3 m) := by
  unfold f_X8_noteDone
  refine ok_aload_n 1 0 dX8_noteDone_0 rfl rfl rfl ?_
  refine ok_getI 4 dX8_noteDone_1 rfl rfl F_Encores_Stage_109 sg_113 rfl (Nat.le_of_ble_eq_true rfl) rfl ?_
  refine ok_if_eq 8 7 dX8_noteDone_4 (by decide) rfl (fun _ => ?_) (fun _ => ?_)
  · refine ok_iload_n 9 2 dX8_noteDone_8 rfl rfl rfl ?_
    refine ok_if_eq 22 12 dX8_noteDone_9 (by decide) rfl (fun _ => ?_) (fun _ => ?_)
    · exact ok_less [some (.ref 113), some (.int a1), none, some (.int a3)] (And.intro rfl (And.intro rfl (And.intro rfl (trivial)))) (ok_X8_noteDone_J22 N d a1 a2 a3   m)
    · refine ok_aload_n 13 0 dX8_noteDone_12 rfl rfl rfl ?_
      refine ok_getR 16 dX8_noteDone_13 rfl rfl F_Encores_Stage_18 sg_113 rfl (Nat.le_of_ble_eq_true rfl) rfl rfl ?_
      refine ok_iconst 17 2 dX8_noteDone_16 rfl rfl ?_
      refine ok_iload_n 18 1 dX8_noteDone_17 rfl rfl rfl ?_
      refine ok_iconst 19 0 dX8_noteDone_18 rfl rfl ?_
      refine ok_callVv (np := 3) (M' := m_X1_note) (As := [.int 2, .int a1, .int 0]) (st := []) 22 dX8_noteDone_19 rfl rfl km_X1_note ki_X1_note kv_X1_note ml_Encores_Stage_141 (by decide) sg_2 rfl (Nat.le_of_ble_eq_true rfl) rfl rfl rfl (Nat.le_of_ble_eq_true rfl) (c_X1_note N (d + 0) 2 a1 0 m) ⟨Nat.le_refl _, Nat.le_refl _⟩ (Or.inl rfl) rfl (fun _ m_19 _ => ?_)
      exact ok_less [some (.ref 113), some (.int a1), none, some (.int a3)] (And.intro rfl (And.intro rfl (And.intro rfl (trivial)))) (ok_X8_noteDone_J22 N d a1 a2 a3   m_19)
  · exact ok_vret dX8_noteDone_7 rfl

theorem c_X8_noteDone (N d : Nat) (a1 : Int32) (a2 : Int32) (a3 : Int32)  (m : Mem) : CM (d + 2) m_X8_noteDone SG SG [.ref 113, .int a1, .int a2, .int a3] m (f_X8_noteDone N a1 a2 a3 m) :=
  CM.ofOk km_X8_noteDone ⟨Nat.le_refl _, Nat.le_refl _⟩ (by simp [Value.category]) (Nat.le_of_ble_eq_true rfl) (ok_X8_noteDone N d a1 a2 a3 m)

def f_X8_doWithAgains_J52 (N : Nat) (a1 : Int32)   (X : Int32 → Int32 → Int32 → Mem → Ans) (s2_52 : Int32) (s4_52 : Int32) (s5_52 : Int32) (t0_52 : Int32) (m : Mem) : Ans :=
bd (f_X8_noteDone N a1 s5_52 t0_52 m) fun _ m_60 =>
if s5_52 = 0 then (bd (f_X1_handsDue N m_60) fun r_77 m_77 =>
if t0_52 < r_77 then (X (s2_52 + 1) 0 (s4_52 + 1) m_77)
else (bd (f_X1_mayGoOn N m_77) fun r_87 m_87 =>
if r_87 = 0 then (X (s2_52 + 1) 0 (s4_52 + 1) m_87)
else (X (s2_52 + 1) 1 (s4_52 + 1) m_87)))
else (X (s2_52 + 1) 0 (s4_52 + 1) m_60)

def f_X8_doWithAgains_L7 (N : Nat) (a1 : Int32)   (X : Int32 → Int32 → Int32 → Mem → Ans) (s2_7 : Int32) (s3_7 : Int32) (s4_7 : Int32) (m : Mem) : Ans :=
if (20 : Int32) < s4_7 then (some (s2_7, m))
else (if s3_7 = 0 then (some (s2_7, m))
else (bd (f_X8_begin N a1 m) fun _ m_20 =>
bd (f_X8_drawEach N m_20) fun _ m_24 =>
bd (f_X8_applaud N a1 m_24) fun _ m_29 =>
bd (f_X8_coughs N m_29) fun r_33 m_33 =>
if r_33 = 0 then (bd (f_X8_handsAt N a1 m_33) fun r_49 m_49 =>
f_X8_doWithAgains_J52 N a1  X s2_7 s4_7 r_33 r_49 m_49)
else (f_X8_doWithAgains_J52 N a1  X s2_7 s4_7 r_33 0 m_33)))

def f_X8_doWithAgains (N : Nat) (a1 : Int32) (m : Mem) : Ans :=
it3 (f_X8_doWithAgains_L7 N a1 ) N 0 1 0 m

set_option maxRecDepth 100000 in
set_option maxHeartbeats 4000000 in
theorem ok_X8_doWithAgains_J52 (N d : Nat) (a1 : Int32)    (X : Int32 → Int32 → Int32 → Mem → Ans) (hX : ∀ (k2 : Int32) (k3 : Int32) (k4 : Int32) (m : Mem), Ok none SG (d + 5) m_X8_doWithAgains 7 [some (.ref 113), some (.int a1), some (.int k2), some (.int k3), some (.int k4), none, none] [] SG m (X k2 k3 k4 m)) (s2_52 : Int32) (s4_52 : Int32) (s5_52 : Int32) (t0_52 : Int32) (m : Mem) : Ok none SG (d + 5) m_X8_doWithAgains 52 [some (.ref 113), some (.int a1), some (.int s2_52), none, some (.int s4_52), some (.int s5_52), none] [.int t0_52] SG m (f_X8_doWithAgains_J52 N a1  X s2_52 s4_52 s5_52 t0_52 m) := by
  unfold f_X8_doWithAgains_J52
  refine ok_istore 54 6 [some (.ref 113), some (.int a1), some (.int s2_52), none, some (.int s4_52), some (.int s5_52), some (.int t0_52)] dX8_doWithAgains_52 rfl (by decide) rfl ?_
  refine ok_aload_n 55 0 dX8_doWithAgains_54 rfl rfl rfl ?_
  refine ok_iload_n 56 1 dX8_doWithAgains_55 rfl rfl rfl ?_
  refine ok_iload 58 5 dX8_doWithAgains_56 rfl rfl ?_
  refine ok_iload 60 6 dX8_doWithAgains_58 rfl rfl ?_
  refine ok_callVv (np := 3) (M' := m_X8_noteDone) (As := [.int a1, .int s5_52, .int t0_52]) (st := []) 63 dX8_doWithAgains_60 rfl rfl km_X8_noteDone ki_X8_noteDone kv_X8_noteDone ml_Encores_Stage_79 (by decide) sg_113 rfl (Nat.le_of_ble_eq_true rfl) rfl rfl rfl (Nat.le_of_ble_eq_true rfl) (c_X8_noteDone N (d + 2) a1 s5_52 t0_52 m) ⟨Nat.le_refl _, Nat.le_refl _⟩ (Or.inl rfl) rfl (fun _ m_60 _ => ?_)
  refine ok_iinc 66 2 1 [some (.ref 113), some (.int a1), some (.int (s2_52 + 1)), none, some (.int s4_52), some (.int s5_52), some (.int t0_52)] dX8_doWithAgains_63 rfl rfl rfl (by decide) rfl ?_
  refine ok_iload 68 5 dX8_doWithAgains_66 rfl rfl ?_
  refine ok_if_ne 97 71 dX8_doWithAgains_68 (by decide) rfl (fun _ => ?_) (fun _ => ?_)
  · refine ok_iconst 98 0 dX8_doWithAgains_97 rfl rfl ?_
    refine ok_istore_n 99 3 [some (.ref 113), some (.int a1), some (.int (s2_52 + 1)), some (.int 0), some (.int s4_52), some (.int s5_52), some (.int t0_52)] dX8_doWithAgains_98 rfl rfl (by decide) rfl ?_
    refine ok_iinc 102 4 1 [some (.ref 113), some (.int a1), some (.int (s2_52 + 1)), some (.int 0), some (.int (s4_52 + 1)), some (.int s5_52), some (.int t0_52)] dX8_doWithAgains_99 rfl rfl rfl (by decide) rfl ?_
    refine ok_goto 7 dX8_doWithAgains_102 (by decide) ?_
    exact ok_less [some (.ref 113), some (.int a1), some (.int (s2_52 + 1)), some (.int 0), some (.int (s4_52 + 1)), none, none] (And.intro rfl (And.intro rfl (And.intro rfl (And.intro rfl (And.intro rfl (trivial)))))) (hX (s2_52 + 1) 0 (s4_52 + 1) m_60)
  · refine ok_iload 73 6 dX8_doWithAgains_71 rfl rfl ?_
    refine ok_aload_n 74 0 dX8_doWithAgains_73 rfl rfl rfl ?_
    refine ok_getR 77 dX8_doWithAgains_74 rfl rfl F_Encores_Stage_18 sg_113 rfl (Nat.le_of_ble_eq_true rfl) rfl rfl ?_
    refine ok_callVi (np := 0) (M' := m_X1_handsDue) (As := []) (st := [.int t0_52]) 80 dX8_doWithAgains_77 rfl rfl km_X1_handsDue ki_X1_handsDue kv_X1_handsDue ml_Encores_Stage_83 (by decide) sg_2 rfl (Nat.le_of_ble_eq_true rfl) rfl rfl rfl (Nat.le_of_ble_eq_true rfl) (c_X1_handsDue N (d + 3) m_60) ⟨Nat.le_refl _, Nat.le_refl _⟩ (Or.inl rfl) rfl (fun r_77 m_77 _ => ?_)
    refine ok_icmp_lt 97 83 dX8_doWithAgains_80 (by decide) rfl (fun _ => ?_) (fun _ => ?_)
    · refine ok_iconst 98 0 dX8_doWithAgains_97 rfl rfl ?_
      refine ok_istore_n 99 3 [some (.ref 113), some (.int a1), some (.int (s2_52 + 1)), some (.int 0), some (.int s4_52), some (.int s5_52), some (.int t0_52)] dX8_doWithAgains_98 rfl rfl (by decide) rfl ?_
      refine ok_iinc 102 4 1 [some (.ref 113), some (.int a1), some (.int (s2_52 + 1)), some (.int 0), some (.int (s4_52 + 1)), some (.int s5_52), some (.int t0_52)] dX8_doWithAgains_99 rfl rfl rfl (by decide) rfl ?_
      refine ok_goto 7 dX8_doWithAgains_102 (by decide) ?_
      exact ok_less [some (.ref 113), some (.int a1), some (.int (s2_52 + 1)), some (.int 0), some (.int (s4_52 + 1)), none, none] (And.intro rfl (And.intro rfl (And.intro rfl (And.intro rfl (And.intro rfl (trivial)))))) (hX (s2_52 + 1) 0 (s4_52 + 1) m_77)
    · refine ok_aload_n 84 0 dX8_doWithAgains_83 rfl rfl rfl ?_
      refine ok_getR 87 dX8_doWithAgains_84 rfl rfl F_Encores_Stage_18 sg_113 rfl (Nat.le_of_ble_eq_true rfl) rfl rfl ?_
      refine ok_callVi (np := 0) (M' := m_X1_mayGoOn) (As := []) (st := []) 90 dX8_doWithAgains_87 rfl rfl km_X1_mayGoOn ki_X1_mayGoOn kv_X1_mayGoOn ml_Encores_Stage_86 (by decide) sg_2 rfl (Nat.le_of_ble_eq_true rfl) rfl rfl rfl (Nat.le_of_ble_eq_true rfl) (c_X1_mayGoOn N (d + 1) m_77) ⟨Nat.le_refl _, Nat.le_refl _⟩ (Or.inl rfl) rfl (fun r_87 m_87 _ => ?_)
      refine ok_if_eq 97 93 dX8_doWithAgains_90 (by decide) rfl (fun _ => ?_) (fun _ => ?_)
      · refine ok_iconst 98 0 dX8_doWithAgains_97 rfl rfl ?_
        refine ok_istore_n 99 3 [some (.ref 113), some (.int a1), some (.int (s2_52 + 1)), some (.int 0), some (.int s4_52), some (.int s5_52), some (.int t0_52)] dX8_doWithAgains_98 rfl rfl (by decide) rfl ?_
        refine ok_iinc 102 4 1 [some (.ref 113), some (.int a1), some (.int (s2_52 + 1)), some (.int 0), some (.int (s4_52 + 1)), some (.int s5_52), some (.int t0_52)] dX8_doWithAgains_99 rfl rfl rfl (by decide) rfl ?_
        refine ok_goto 7 dX8_doWithAgains_102 (by decide) ?_
        exact ok_less [some (.ref 113), some (.int a1), some (.int (s2_52 + 1)), some (.int 0), some (.int (s4_52 + 1)), none, none] (And.intro rfl (And.intro rfl (And.intro rfl (And.intro rfl (And.intro rfl (trivial)))))) (hX (s2_52 + 1) 0 (s4_52 + 1) m_87)
      · refine ok_iconst 94 1 dX8_doWithAgains_93 rfl rfl ?_
        refine ok_goto 98 dX8_doWithAgains_94 (by decide) ?_
        refine ok_istore_n 99 3 [some (.ref 113), some (.int a1), some (.int (s2_52 + 1)), some (.int 1), some (.int s4_52), some (.int s5_52), some (.int t0_52)] dX8_doWithAgains_98 rfl rfl (by decide) rfl ?_
        refine ok_iinc 102 4 1 [some (.ref 113), some (.int a1), some (.int (s2_52 + 1)), some (.int 1), some (.int (s4_52 + 1)), some (.int s5_52), some (.int t0_52)] dX8_doWithAgains_99 rfl rfl rfl (by decide) rfl ?_
        refine ok_goto 7 dX8_doWithAgains_102 (by decide) ?_
        exact ok_less [some (.ref 113), some (.int a1), some (.int (s2_52 + 1)), some (.int 1), some (.int (s4_52 + 1)), none, none] (And.intro rfl (And.intro rfl (And.intro rfl (And.intro rfl (And.intro rfl (trivial)))))) (hX (s2_52 + 1) 1 (s4_52 + 1) m_87)

set_option maxRecDepth 100000 in
set_option maxHeartbeats 4000000 in
theorem ok_X8_doWithAgains_L7 (N d : Nat) (a1 : Int32)    : ∀ (n : Nat) (s2_7 : Int32) (s3_7 : Int32) (s4_7 : Int32) (m : Mem), Ok none SG (d + 5) m_X8_doWithAgains 7 [some (.ref 113), some (.int a1), some (.int s2_7), some (.int s3_7), some (.int s4_7), none, none] [] SG m (it3 (f_X8_doWithAgains_L7 N a1) n s2_7 s3_7 s4_7 m) :=
  ok_it3 (fun s2_7 s3_7 s4_7 => [some (.ref 113), some (.int a1), some (.int s2_7), some (.int s3_7), some (.int s4_7), none, none]) (fun X hX s2_7 s3_7 s4_7 m => by
    try unfold f_X8_doWithAgains_L7
    refine ok_iload 9 4 dX8_doWithAgains_7 rfl rfl ?_
    refine ok_bipush 11 20 dX8_doWithAgains_9 rfl rfl ?_
    refine ok_icmp_gt 105 14 dX8_doWithAgains_11 (by decide) rfl (fun _ => ?_) (fun _ => ?_)
    · refine ok_iload_n 106 2 dX8_doWithAgains_105 rfl rfl rfl ?_
      exact ok_iret dX8_doWithAgains_106 rfl
    · refine ok_iload_n 15 3 dX8_doWithAgains_14 rfl rfl rfl ?_
      refine ok_if_eq 105 18 dX8_doWithAgains_15 (by decide) rfl (fun _ => ?_) (fun _ => ?_)
      · refine ok_iload_n 106 2 dX8_doWithAgains_105 rfl rfl rfl ?_
        exact ok_iret dX8_doWithAgains_106 rfl
      · refine ok_aload_n 19 0 dX8_doWithAgains_18 rfl rfl rfl ?_
        refine ok_iload_n 20 1 dX8_doWithAgains_19 rfl rfl rfl ?_
        refine ok_callVv (np := 1) (M' := m_X8_begin) (As := [.int a1]) (st := []) 23 dX8_doWithAgains_20 rfl rfl km_X8_begin ki_X8_begin kv_X8_begin ml_Encores_Stage_62 (by decide) sg_113 rfl (Nat.le_of_ble_eq_true rfl) rfl rfl rfl (Nat.le_of_ble_eq_true rfl) (c_X8_begin N (d + 0) a1 m) ⟨Nat.le_refl _, Nat.le_refl _⟩ (Or.inl rfl) rfl (fun _ m_20 _ => ?_)
        refine ok_aload_n 24 0 dX8_doWithAgains_23 rfl rfl rfl ?_
        refine ok_callVv (np := 0) (M' := m_X8_drawEach) (As := []) (st := []) 27 dX8_doWithAgains_24 rfl rfl km_X8_drawEach ki_X8_drawEach kv_X8_drawEach ml_Encores_Stage_66 (by decide) sg_113 rfl (Nat.le_of_ble_eq_true rfl) rfl rfl rfl (Nat.le_of_ble_eq_true rfl) (c_X8_drawEach N (d + 1) m_20) ⟨Nat.le_refl _, Nat.le_refl _⟩ (Or.inl rfl) rfl (fun _ m_24 _ => ?_)
        refine ok_aload_n 28 0 dX8_doWithAgains_27 rfl rfl rfl ?_
        refine ok_iload_n 29 1 dX8_doWithAgains_28 rfl rfl rfl ?_
        refine ok_callVv (np := 1) (M' := m_X8_applaud) (As := [.int a1]) (st := []) 32 dX8_doWithAgains_29 rfl rfl km_X8_applaud ki_X8_applaud kv_X8_applaud ml_Encores_Stage_69 (by decide) sg_113 rfl (Nat.le_of_ble_eq_true rfl) rfl rfl rfl (Nat.le_of_ble_eq_true rfl) (c_X8_applaud N (d + 0) a1 m_24) ⟨Nat.le_refl _, Nat.le_refl _⟩ (Or.inl rfl) rfl (fun _ m_29 _ => ?_)
        refine ok_aload_n 33 0 dX8_doWithAgains_32 rfl rfl rfl ?_
        refine ok_callVi (np := 0) (M' := m_X8_coughs) (As := []) (st := []) 36 dX8_doWithAgains_33 rfl rfl km_X8_coughs ki_X8_coughs kv_X8_coughs ml_Encores_Stage_72 (by decide) sg_113 rfl (Nat.le_of_ble_eq_true rfl) rfl rfl rfl (Nat.le_of_ble_eq_true rfl) (c_X8_coughs N (d + 1) m_29) ⟨Nat.le_refl _, Nat.le_refl _⟩ (Or.inl rfl) rfl (fun r_33 m_33 _ => ?_)
        refine ok_istore 38 5 [some (.ref 113), some (.int a1), some (.int s2_7), some (.int s3_7), some (.int s4_7), some (.int r_33), none] dX8_doWithAgains_36 rfl (by decide) rfl ?_
        refine ok_iload 40 5 dX8_doWithAgains_38 rfl rfl ?_
        refine ok_if_eq 47 43 dX8_doWithAgains_40 (by decide) rfl (fun _ => ?_) (fun _ => ?_)
        · refine ok_aload_n 48 0 dX8_doWithAgains_47 rfl rfl rfl ?_
          refine ok_iload_n 49 1 dX8_doWithAgains_48 rfl rfl rfl ?_
          refine ok_callVi (np := 1) (M' := m_X8_handsAt) (As := [.int a1]) (st := []) 52 dX8_doWithAgains_49 rfl rfl km_X8_handsAt ki_X8_handsAt kv_X8_handsAt ml_Encores_Stage_76 (by decide) sg_113 rfl (Nat.le_of_ble_eq_true rfl) rfl rfl rfl (Nat.le_of_ble_eq_true rfl) (c_X8_handsAt N (d + 0) a1 m_33) ⟨Nat.le_refl _, Nat.le_refl _⟩ (Or.inl rfl) rfl (fun r_49 m_49 _ => ?_)
          exact ok_less [some (.ref 113), some (.int a1), some (.int s2_7), none, some (.int s4_7), some (.int r_33), none] (And.intro rfl (And.intro rfl (And.intro rfl (And.intro rfl (And.intro rfl (trivial)))))) (ok_X8_doWithAgains_J52 N d a1   X hX s2_7 s4_7 r_33 r_49 m_49)
        · refine ok_iconst 44 0 dX8_doWithAgains_43 rfl rfl ?_
          refine ok_goto 52 dX8_doWithAgains_44 (by decide) ?_
          exact ok_less [some (.ref 113), some (.int a1), some (.int s2_7), none, some (.int s4_7), some (.int r_33), none] (And.intro rfl (And.intro rfl (And.intro rfl (And.intro rfl (And.intro rfl (trivial)))))) (ok_X8_doWithAgains_J52 N d a1   X hX s2_7 s4_7 r_33 0 m_33))

set_option maxRecDepth 100000 in
set_option maxHeartbeats 4000000 in
theorem ok_X8_doWithAgains (N d : Nat) (a1 : Int32)  (m : Mem) : Ok none SG (d + 5) m_X8_doWithAgains 0 [some (.ref 113), some (.int a1), none, none, none, none, none] [] SG m (f_X8_doWithAgains N a1 m) := by
  unfold f_X8_doWithAgains
  refine ok_iconst 1 0 dX8_doWithAgains_0 rfl rfl ?_
  refine ok_istore_n 2 2 [some (.ref 113), some (.int a1), some (.int 0), none, none, none, none] dX8_doWithAgains_1 rfl rfl (by decide) rfl ?_
  refine ok_iconst 3 1 dX8_doWithAgains_2 rfl rfl ?_
  refine ok_istore_n 4 3 [some (.ref 113), some (.int a1), some (.int 0), some (.int 1), none, none, none] dX8_doWithAgains_3 rfl rfl (by decide) rfl ?_
  refine ok_iconst 5 0 dX8_doWithAgains_4 rfl rfl ?_
  refine ok_istore 7 4 [some (.ref 113), some (.int a1), some (.int 0), some (.int 1), some (.int 0), none, none] dX8_doWithAgains_5 rfl (by decide) rfl ?_
  refine ok_less [some (.ref 113), some (.int a1), some (.int 0), some (.int 1), some (.int 0), none, none] (And.intro rfl (And.intro rfl (And.intro rfl (And.intro rfl (And.intro rfl (trivial)))))) ?_
  exact ok_X8_doWithAgains_L7 N d a1    N 0 1 0 m

theorem c_X8_doWithAgains (N d : Nat) (a1 : Int32)  (m : Mem) : CM (d + 5) m_X8_doWithAgains SG SG [.ref 113, .int a1] m (f_X8_doWithAgains N a1 m) :=
  CM.ofOk km_X8_doWithAgains ⟨Nat.le_refl _, Nat.le_refl _⟩ (by simp [Value.category]) (Nat.le_of_ble_eq_true rfl) (ok_X8_doWithAgains N d a1 m)

def f_X8_spendEvening_L31 (N : Nat)   (K119 : Int32 → Mem → Ans) (X : Int32 → Int32 → Mem → Ans) (s1_31 : Int32) (s2_31 : Int32) (m : Mem) : Ans :=
if (m 17 3) ≤ s2_31 then (K119 s1_31 m)
else (bd (f_X1_hour N 0 m) fun r_55 m_55 =>
bd (f_X9_at N 17 s2_31 1 m_55) fun r_67 m_67 =>
bd (f_X1_setHour N 0 (if r_55 < r_67 then r_67 else r_55) m_67) fun _ m_73 =>
bd (f_X1_hour N 0 m_73) fun r_81 m_81 =>
bd (f_X1_endMinute N m_81) fun r_88 m_88 =>
if r_88 ≤ r_81 then (X s1_31 (s2_31 + 1) m_88)
else (bd (f_X9_at N 17 s2_31 2 m_88) fun r_105 m_105 =>
bd (f_X8_doWithAgains N r_105 m_105) fun r_108 m_108 =>
bnd (s1_31 + r_108) fun a1_112 =>
X a1_112 (s2_31 + 1) m_108))

def f_X8_spendEvening (N : Nat)  (m : Mem) : Ans :=
bd (f_X1_setHour N 0 0 m) fun _ m_6 =>
bd (f_X1_setHour N 4 (-1) m_6) fun _ m_15 =>
bd (f_X1_setHour N 5 0 m_15) fun _ m_24 =>
it2 (f_X8_spendEvening_L31 N (fun k1_119 mk119 => bd (f_X1_hour N 1 mk119) fun r_129 m_129 =>
bd (f_X1_setHour N 1 (r_129 + (1 : Int32)) m_129) fun _ m_134 =>
some (k1_119, m_134))) N 0 0 m_24

set_option maxRecDepth 100000 in
set_option maxHeartbeats 4000000 in
theorem ok_X8_spendEvening_L31 (N d : Nat)    (K119 : Int32 → Mem → Ans) (hK119 : ∀ (k1 : Int32) (m : Mem), Ok none SG (d + 6) m_X8_spendEvening 119 [some (.ref 113), some (.int k1), none] [] SG m (K119 k1 m)) : ∀ (n : Nat) (s1_31 : Int32) (s2_31 : Int32) (m : Mem), Ok none SG (d + 6) m_X8_spendEvening 31 [some (.ref 113), some (.int s1_31), some (.int s2_31)] [] SG m (it2 (f_X8_spendEvening_L31 N K119) n s1_31 s2_31 m) :=
  ok_it2 (fun s1_31 s2_31 => [some (.ref 113), some (.int s1_31), some (.int s2_31)]) (fun X hX s1_31 s2_31 m => by
    try unfold f_X8_spendEvening_L31
    refine ok_iload_n 32 2 dX8_spendEvening_31 rfl rfl rfl ?_
    refine ok_aload_n 33 0 dX8_spendEvening_32 rfl rfl rfl ?_
    refine ok_getR 36 dX8_spendEvening_33 rfl rfl F_Encores_Stage_18 sg_113 rfl (Nat.le_of_ble_eq_true rfl) rfl rfl ?_
    refine ok_getR 39 dX8_spendEvening_36 rfl rfl F_Encores_Stage_32 sg_2 rfl (Nat.le_of_ble_eq_true rfl) rfl rfl ?_
    refine ok_getI 42 dX8_spendEvening_39 rfl rfl F_Encores_Stage_36 sg_17 rfl (Nat.le_of_ble_eq_true rfl) rfl ?_
    refine ok_icmp_ge 119 45 dX8_spendEvening_42 (by decide) rfl (fun _ => ?_) (fun _ => ?_)
    · exact ok_less [some (.ref 113), some (.int s1_31), none] (And.intro rfl (And.intro rfl (trivial))) (hK119 s1_31 m)
    · refine ok_aload_n 46 0 dX8_spendEvening_45 rfl rfl rfl ?_
      refine ok_getR 49 dX8_spendEvening_46 rfl rfl F_Encores_Stage_18 sg_113 rfl (Nat.le_of_ble_eq_true rfl) rfl rfl ?_
      refine ok_iconst 50 0 dX8_spendEvening_49 rfl rfl ?_
      refine ok_aload_n 51 0 dX8_spendEvening_50 rfl rfl rfl ?_
      refine ok_getR 54 dX8_spendEvening_51 rfl rfl F_Encores_Stage_18 sg_113 rfl (Nat.le_of_ble_eq_true rfl) rfl rfl ?_
      refine ok_iconst 55 0 dX8_spendEvening_54 rfl rfl ?_
      refine ok_callVi (np := 1) (M' := m_X1_hour) (As := [.int 0]) (st := [.int 0, .ref 2]) 58 dX8_spendEvening_55 rfl rfl km_X1_hour ki_X1_hour kv_X1_hour ml_Encores_Stage_42 (by decide) sg_2 rfl (Nat.le_of_ble_eq_true rfl) rfl rfl rfl (Nat.le_of_ble_eq_true rfl) (c_X1_hour N (d + 4) 0 m) ⟨Nat.le_refl _, Nat.le_refl _⟩ (Or.inl rfl) rfl (fun r_55 m_55 _ => ?_)
      refine ok_aload_n 59 0 dX8_spendEvening_58 rfl rfl rfl ?_
      refine ok_getR 62 dX8_spendEvening_59 rfl rfl F_Encores_Stage_18 sg_113 rfl (Nat.le_of_ble_eq_true rfl) rfl rfl ?_
      refine ok_getR 65 dX8_spendEvening_62 rfl rfl F_Encores_Stage_32 sg_2 rfl (Nat.le_of_ble_eq_true rfl) rfl rfl ?_
      refine ok_iload_n 66 2 dX8_spendEvening_65 rfl rfl rfl ?_
      refine ok_iconst 67 1 dX8_spendEvening_66 rfl rfl ?_
      refine ok_callVi (np := 2) (M' := m_X9_at) (As := [.int s2_31, .int 1]) (st := [.int r_55, .int 0, .ref 2]) 70 dX8_spendEvening_67 rfl rfl km_X9_at ki_X9_at kv_X9_at ml_Encores_Stage_46 (by decide) sg_17 rfl (Nat.le_of_ble_eq_true rfl) rfl rfl rfl (Nat.le_of_ble_eq_true rfl) (c_X9_at N (d + 5) 17 s2_31 1 tg_17 m_55) ⟨Nat.le_refl _, Nat.le_refl _⟩ (Or.inl rfl) rfl (fun r_67 m_67 _ => ?_)
      refine ok_max 73 ⟨Nat.le_refl _, Nat.le_refl _⟩ dX8_spendEvening_70 rfl rfl ml_Encores_Stage_50 (Nat.le_of_ble_eq_true rfl) ?_
      refine ok_callVv (np := 2) (M' := m_X1_setHour) (As := [.int 0, .int (if r_55 < r_67 then r_67 else r_55)]) (st := []) 76 dX8_spendEvening_73 rfl rfl km_X1_setHour ki_X1_setHour kv_X1_setHour ml_Encores_Stage_26 (by decide) sg_2 rfl (Nat.le_of_ble_eq_true rfl) rfl rfl rfl (Nat.le_of_ble_eq_true rfl) (c_X1_setHour N (d + 4) 0 (if r_55 < r_67 then r_67 else r_55) m_67) ⟨Nat.le_refl _, Nat.le_refl _⟩ (Or.inl rfl) rfl (fun _ m_73 _ => ?_)
      refine ok_aload_n 77 0 dX8_spendEvening_76 rfl rfl rfl ?_
      refine ok_getR 80 dX8_spendEvening_77 rfl rfl F_Encores_Stage_18 sg_113 rfl (Nat.le_of_ble_eq_true rfl) rfl rfl ?_
      refine ok_iconst 81 0 dX8_spendEvening_80 rfl rfl ?_
      refine ok_callVi (np := 1) (M' := m_X1_hour) (As := [.int 0]) (st := []) 84 dX8_spendEvening_81 rfl rfl km_X1_hour ki_X1_hour kv_X1_hour ml_Encores_Stage_42 (by decide) sg_2 rfl (Nat.le_of_ble_eq_true rfl) rfl rfl rfl (Nat.le_of_ble_eq_true rfl) (c_X1_hour N (d + 4) 0 m_73) ⟨Nat.le_refl _, Nat.le_refl _⟩ (Or.inl rfl) rfl (fun r_81 m_81 _ => ?_)
      refine ok_aload_n 85 0 dX8_spendEvening_84 rfl rfl rfl ?_
      refine ok_getR 88 dX8_spendEvening_85 rfl rfl F_Encores_Stage_18 sg_113 rfl (Nat.le_of_ble_eq_true rfl) rfl rfl ?_
      refine ok_callVi (np := 0) (M' := m_X1_endMinute) (As := []) (st := [.int r_81]) 91 dX8_spendEvening_88 rfl rfl km_X1_endMinute ki_X1_endMinute kv_X1_endMinute ml_Encores_Stage_55 (by decide) sg_2 rfl (Nat.le_of_ble_eq_true rfl) rfl rfl rfl (Nat.le_of_ble_eq_true rfl) (c_X1_endMinute N (d + 3) m_81) ⟨Nat.le_refl _, Nat.le_refl _⟩ (Or.inl rfl) rfl (fun r_88 m_88 _ => ?_)
      refine ok_icmp_ge 113 94 dX8_spendEvening_91 (by decide) rfl (fun _ => ?_) (fun _ => ?_)
      · refine ok_iinc 116 2 1 [some (.ref 113), some (.int s1_31), some (.int (s2_31 + 1))] dX8_spendEvening_113 rfl rfl rfl (by decide) rfl ?_
        refine ok_goto 31 dX8_spendEvening_116 (by decide) ?_
        exact ok_less [some (.ref 113), some (.int s1_31), some (.int (s2_31 + 1))] (And.intro rfl (And.intro rfl (And.intro rfl (trivial)))) (hX s1_31 (s2_31 + 1) m_88)
      · refine ok_iload_n 95 1 dX8_spendEvening_94 rfl rfl rfl ?_
        refine ok_aload_n 96 0 dX8_spendEvening_95 rfl rfl rfl ?_
        refine ok_aload_n 97 0 dX8_spendEvening_96 rfl rfl rfl ?_
        refine ok_getR 100 dX8_spendEvening_97 rfl rfl F_Encores_Stage_18 sg_113 rfl (Nat.le_of_ble_eq_true rfl) rfl rfl ?_
        refine ok_getR 103 dX8_spendEvening_100 rfl rfl F_Encores_Stage_32 sg_2 rfl (Nat.le_of_ble_eq_true rfl) rfl rfl ?_
        refine ok_iload_n 104 2 dX8_spendEvening_103 rfl rfl rfl ?_
        refine ok_iconst 105 2 dX8_spendEvening_104 rfl rfl ?_
        refine ok_callVi (np := 2) (M' := m_X9_at) (As := [.int s2_31, .int 2]) (st := [.ref 113, .int s1_31]) 108 dX8_spendEvening_105 rfl rfl km_X9_at ki_X9_at kv_X9_at ml_Encores_Stage_46 (by decide) sg_17 rfl (Nat.le_of_ble_eq_true rfl) rfl rfl rfl (Nat.le_of_ble_eq_true rfl) (c_X9_at N (d + 5) 17 s2_31 2 tg_17 m_88) ⟨Nat.le_refl _, Nat.le_refl _⟩ (Or.inl rfl) rfl (fun r_105 m_105 _ => ?_)
        refine ok_callVi (np := 1) (M' := m_X8_doWithAgains) (As := [.int r_105]) (st := [.int s1_31]) 111 dX8_spendEvening_108 rfl rfl km_X8_doWithAgains ki_X8_doWithAgains kv_X8_doWithAgains ml_Encores_Stage_59 (by decide) sg_113 rfl (Nat.le_of_ble_eq_true rfl) rfl rfl rfl (Nat.le_of_ble_eq_true rfl) (c_X8_doWithAgains N (d + 0) r_105 m_105) ⟨Nat.le_refl _, Nat.le_refl _⟩ (Or.inl rfl) rfl (fun r_108 m_108 _ => ?_)
        refine ok_iadd 112 dX8_spendEvening_111 rfl ?_
        refine ok_bndI (fun a1_112 => ?_)
        refine ok_istore_n 113 1 [some (.ref 113), some (.int a1_112), some (.int s2_31)] dX8_spendEvening_112 rfl rfl (by decide) rfl ?_
        refine ok_iinc 116 2 1 [some (.ref 113), some (.int a1_112), some (.int (s2_31 + 1))] dX8_spendEvening_113 rfl rfl rfl (by decide) rfl ?_
        refine ok_goto 31 dX8_spendEvening_116 (by decide) ?_
        exact ok_less [some (.ref 113), some (.int a1_112), some (.int (s2_31 + 1))] (And.intro rfl (And.intro rfl (And.intro rfl (trivial)))) (hX a1_112 (s2_31 + 1) m_108))

set_option maxRecDepth 100000 in
set_option maxHeartbeats 4000000 in
theorem ok_X8_spendEvening (N d : Nat)   (m : Mem) : Ok none SG (d + 6) m_X8_spendEvening 0 [some (.ref 113), none, none] [] SG m (f_X8_spendEvening N m) := by
  unfold f_X8_spendEvening
  refine ok_aload_n 1 0 dX8_spendEvening_0 rfl rfl rfl ?_
  refine ok_getR 4 dX8_spendEvening_1 rfl rfl F_Encores_Stage_18 sg_113 rfl (Nat.le_of_ble_eq_true rfl) rfl rfl ?_
  refine ok_iconst 5 0 dX8_spendEvening_4 rfl rfl ?_
  refine ok_iconst 6 0 dX8_spendEvening_5 rfl rfl ?_
  refine ok_callVv (np := 2) (M' := m_X1_setHour) (As := [.int 0, .int 0]) (st := []) 9 dX8_spendEvening_6 rfl rfl km_X1_setHour ki_X1_setHour kv_X1_setHour ml_Encores_Stage_26 (by decide) sg_2 rfl (Nat.le_of_ble_eq_true rfl) rfl rfl rfl (Nat.le_of_ble_eq_true rfl) (c_X1_setHour N (d + 4) 0 0 m) ⟨Nat.le_refl _, Nat.le_refl _⟩ (Or.inl rfl) rfl (fun _ m_6 _ => ?_)
  refine ok_aload_n 10 0 dX8_spendEvening_9 rfl rfl rfl ?_
  refine ok_getR 13 dX8_spendEvening_10 rfl rfl F_Encores_Stage_18 sg_113 rfl (Nat.le_of_ble_eq_true rfl) rfl rfl ?_
  refine ok_iconst 14 4 dX8_spendEvening_13 rfl rfl ?_
  refine ok_iconst 15 (-1) dX8_spendEvening_14 rfl rfl ?_
  refine ok_callVv (np := 2) (M' := m_X1_setHour) (As := [.int 4, .int (-1)]) (st := []) 18 dX8_spendEvening_15 rfl rfl km_X1_setHour ki_X1_setHour kv_X1_setHour ml_Encores_Stage_26 (by decide) sg_2 rfl (Nat.le_of_ble_eq_true rfl) rfl rfl rfl (Nat.le_of_ble_eq_true rfl) (c_X1_setHour N (d + 4) 4 (-1) m_6) ⟨Nat.le_refl _, Nat.le_refl _⟩ (Or.inl rfl) rfl (fun _ m_15 _ => ?_)
  refine ok_aload_n 19 0 dX8_spendEvening_18 rfl rfl rfl ?_
  refine ok_getR 22 dX8_spendEvening_19 rfl rfl F_Encores_Stage_18 sg_113 rfl (Nat.le_of_ble_eq_true rfl) rfl rfl ?_
  refine ok_iconst 23 5 dX8_spendEvening_22 rfl rfl ?_
  refine ok_iconst 24 0 dX8_spendEvening_23 rfl rfl ?_
  refine ok_callVv (np := 2) (M' := m_X1_setHour) (As := [.int 5, .int 0]) (st := []) 27 dX8_spendEvening_24 rfl rfl km_X1_setHour ki_X1_setHour kv_X1_setHour ml_Encores_Stage_26 (by decide) sg_2 rfl (Nat.le_of_ble_eq_true rfl) rfl rfl rfl (Nat.le_of_ble_eq_true rfl) (c_X1_setHour N (d + 4) 5 0 m_15) ⟨Nat.le_refl _, Nat.le_refl _⟩ (Or.inl rfl) rfl (fun _ m_24 _ => ?_)
  refine ok_iconst 28 0 dX8_spendEvening_27 rfl rfl ?_
  refine ok_istore_n 29 1 [some (.ref 113), some (.int 0), none] dX8_spendEvening_28 rfl rfl (by decide) rfl ?_
  refine ok_iconst 30 0 dX8_spendEvening_29 rfl rfl ?_
  refine ok_istore_n 31 2 [some (.ref 113), some (.int 0), some (.int 0)] dX8_spendEvening_30 rfl rfl (by decide) rfl ?_
  refine ok_less [some (.ref 113), some (.int 0), some (.int 0)] (And.intro rfl (And.intro rfl (And.intro rfl (trivial)))) ?_
  exact ok_X8_spendEvening_L31 N d   _ (fun k1_119 mk119 => by
      refine ok_aload_n 120 0 dX8_spendEvening_119 rfl rfl rfl ?_
      refine ok_getR 123 dX8_spendEvening_120 rfl rfl F_Encores_Stage_18 sg_113 rfl (Nat.le_of_ble_eq_true rfl) rfl rfl ?_
      refine ok_iconst 124 1 dX8_spendEvening_123 rfl rfl ?_
      refine ok_aload_n 125 0 dX8_spendEvening_124 rfl rfl rfl ?_
      refine ok_getR 128 dX8_spendEvening_125 rfl rfl F_Encores_Stage_18 sg_113 rfl (Nat.le_of_ble_eq_true rfl) rfl rfl ?_
      refine ok_iconst 129 1 dX8_spendEvening_128 rfl rfl ?_
      refine ok_callVi (np := 1) (M' := m_X1_hour) (As := [.int 1]) (st := [.int 1, .ref 2]) 132 dX8_spendEvening_129 rfl rfl km_X1_hour ki_X1_hour kv_X1_hour ml_Encores_Stage_42 (by decide) sg_2 rfl (Nat.le_of_ble_eq_true rfl) rfl rfl rfl (Nat.le_of_ble_eq_true rfl) (c_X1_hour N (d + 4) 1 mk119) ⟨Nat.le_refl _, Nat.le_refl _⟩ (Or.inl rfl) rfl (fun r_129 m_129 _ => ?_)
      refine ok_iconst 133 1 dX8_spendEvening_132 rfl rfl ?_
      refine ok_iadd 134 dX8_spendEvening_133 rfl ?_
      refine ok_callVv (np := 2) (M' := m_X1_setHour) (As := [.int 1, .int (r_129 + (1 : Int32))]) (st := []) 137 dX8_spendEvening_134 rfl rfl km_X1_setHour ki_X1_setHour kv_X1_setHour ml_Encores_Stage_26 (by decide) sg_2 rfl (Nat.le_of_ble_eq_true rfl) rfl rfl rfl (Nat.le_of_ble_eq_true rfl) (c_X1_setHour N (d + 4) 1 (r_129 + (1 : Int32)) m_129) ⟨Nat.le_refl _, Nat.le_refl _⟩ (Or.inl rfl) rfl (fun _ m_134 _ => ?_)
      refine ok_iload_n 138 1 dX8_spendEvening_137 rfl rfl rfl ?_
      exact ok_iret dX8_spendEvening_138 rfl) N 0 0 m_24

theorem c_X8_spendEvening (N d : Nat)   (m : Mem) : CM (d + 6) m_X8_spendEvening SG SG [.ref 113] m (f_X8_spendEvening N m) :=
  CM.ofOk km_X8_spendEvening ⟨Nat.le_refl _, Nat.le_refl _⟩ (by simp [Value.category]) (Nat.le_of_ble_eq_true rfl) (ok_X8_spendEvening N d  m)

def f_X10_hasRoom (N : Nat) (a1 : Int32) (m : Mem) : Ans :=
if (400 : Int32) < ((m 99 2) + a1) then (some (0, m))
else (some (1, m))

set_option maxRecDepth 100000 in
set_option maxHeartbeats 4000000 in
theorem ok_X10_hasRoom (N d : Nat) (a1 : Int32)  (m : Mem) : Ok none SG (d + 0) m_X10_hasRoom 0 [some (.ref 99), some (.int a1)] [] SG m (f_X10_hasRoom N a1 m) := by
  unfold f_X10_hasRoom
  refine ok_aload_n 1 0 dX10_hasRoom_0 rfl rfl rfl ?_
  refine ok_getI 4 dX10_hasRoom_1 rfl rfl F_Encores_Tape_24 sg_99 rfl (Nat.le_of_ble_eq_true rfl) rfl ?_
  refine ok_iload_n 5 1 dX10_hasRoom_4 rfl rfl rfl ?_
  refine ok_iadd 6 dX10_hasRoom_5 rfl ?_
  refine ok_aload_n 7 0 dX10_hasRoom_6 rfl rfl rfl ?_
  refine ok_getR 10 dX10_hasRoom_7 rfl rfl F_Encores_Tape_9 sg_99 rfl (Nat.le_of_ble_eq_true rfl) rfl rfl ?_
  refine ok_alen 11 dX10_hasRoom_10 rfl sg_100 ?_
  rw [show Int32.ofNat 400 = 400 from rfl]
  refine ok_icmp_gt 18 14 dX10_hasRoom_11 (by decide) rfl (fun _ => ?_) (fun _ => ?_)
  · refine ok_iconst 19 0 dX10_hasRoom_18 rfl rfl ?_
    exact ok_zretc dX10_hasRoom_19 rfl rfl
  · refine ok_iconst 15 1 dX10_hasRoom_14 rfl rfl ?_
    refine ok_goto 19 dX10_hasRoom_15 (by decide) ?_
    exact ok_zretc dX10_hasRoom_19 rfl rfl

theorem c_X10_hasRoom (N d : Nat) (a1 : Int32)  (m : Mem) : CM (d + 0) m_X10_hasRoom SG SG [.ref 99, .int a1] m (f_X10_hasRoom N a1 m) :=
  CM.ofOk km_X10_hasRoom ⟨Nat.le_refl _, Nat.le_refl _⟩ (by simp [Value.category]) (Nat.le_of_ble_eq_true rfl) (ok_X10_hasRoom N d a1 m)

def f_X10_append_L3 (N : Nat) (a1 : Int32)   (X : Int32 → Mem → Ans) (s2_3 : Int32) (m : Mem) : Ans :=
if s2_3 < 0 then (some (0, m))
else (if (m 99 2) < 0 then (X (s2_3 + (-8)) m)
else (if (400 : Int32) ≤ (m 99 2) then (X (s2_3 + (-8)) m)
else (chk (inb (m 99 2) 400) <|
bnd (mset m 100 (m 99 2).toNatClampNeg ((a1 >>> (s2_3 &&& 31)) &&& (255 : Int32))) fun m_41 =>
bnd (mset m_41 99 2 ((m_41 99 2) + (1 : Int32))) fun m_49 =>
X (s2_3 + (-8)) m_49)))

def f_X10_append (N : Nat) (a1 : Int32) (m : Mem) : Ans :=
it1 (f_X10_append_L3 N a1 ) N 24 m

set_option maxRecDepth 100000 in
set_option maxHeartbeats 4000000 in
theorem ok_X10_append_L3 (N d : Nat) (a1 : Int32)    : ∀ (n : Nat) (s2_3 : Int32) (m : Mem), Ok none SG (d + 0) m_X10_append 3 [some (.ref 99), some (.int a1), some (.int s2_3)] [] SG m (it1 (f_X10_append_L3 N a1) n s2_3 m) :=
  ok_it1 (fun s2_3 => [some (.ref 99), some (.int a1), some (.int s2_3)]) (fun X hX s2_3 m => by
    try unfold f_X10_append_L3
    refine ok_iload_n 4 2 dX10_append_3 rfl rfl rfl ?_
    refine ok_if_lt 58 7 dX10_append_4 (by decide) rfl (fun _ => ?_) (fun _ => ?_)
    · exact ok_vret dX10_append_58 rfl
    · refine ok_aload_n 8 0 dX10_append_7 rfl rfl rfl ?_
      refine ok_getI 11 dX10_append_8 rfl rfl F_Encores_Tape_24 sg_99 rfl (Nat.le_of_ble_eq_true rfl) rfl ?_
      refine ok_if_lt 52 14 dX10_append_11 (by decide) rfl (fun _ => ?_) (fun _ => ?_)
      · refine ok_iinc 55 2 (-8) [some (.ref 99), some (.int a1), some (.int (s2_3 + (-8)))] dX10_append_52 rfl rfl rfl (by decide) rfl ?_
        refine ok_goto 3 dX10_append_55 (by decide) ?_
        exact ok_less [some (.ref 99), some (.int a1), some (.int (s2_3 + (-8)))] (And.intro rfl (And.intro rfl (And.intro rfl (trivial)))) (hX (s2_3 + (-8)) m)
      · refine ok_aload_n 15 0 dX10_append_14 rfl rfl rfl ?_
        refine ok_getI 18 dX10_append_15 rfl rfl F_Encores_Tape_24 sg_99 rfl (Nat.le_of_ble_eq_true rfl) rfl ?_
        refine ok_aload_n 19 0 dX10_append_18 rfl rfl rfl ?_
        refine ok_getR 22 dX10_append_19 rfl rfl F_Encores_Tape_9 sg_99 rfl (Nat.le_of_ble_eq_true rfl) rfl rfl ?_
        refine ok_alen 23 dX10_append_22 rfl sg_100 ?_
        rw [show Int32.ofNat 400 = 400 from rfl]
        refine ok_icmp_ge 52 26 dX10_append_23 (by decide) rfl (fun _ => ?_) (fun _ => ?_)
        · refine ok_iinc 55 2 (-8) [some (.ref 99), some (.int a1), some (.int (s2_3 + (-8)))] dX10_append_52 rfl rfl rfl (by decide) rfl ?_
          refine ok_goto 3 dX10_append_55 (by decide) ?_
          exact ok_less [some (.ref 99), some (.int a1), some (.int (s2_3 + (-8)))] (And.intro rfl (And.intro rfl (And.intro rfl (trivial)))) (hX (s2_3 + (-8)) m)
        · refine ok_aload_n 27 0 dX10_append_26 rfl rfl rfl ?_
          refine ok_getR 30 dX10_append_27 rfl rfl F_Encores_Tape_9 sg_99 rfl (Nat.le_of_ble_eq_true rfl) rfl rfl ?_
          refine ok_aload_n 31 0 dX10_append_30 rfl rfl rfl ?_
          refine ok_getI 34 dX10_append_31 rfl rfl F_Encores_Tape_24 sg_99 rfl (Nat.le_of_ble_eq_true rfl) rfl ?_
          refine ok_iload_n 35 1 dX10_append_34 rfl rfl rfl ?_
          refine ok_iload_n 36 2 dX10_append_35 rfl rfl rfl ?_
          refine ok_ishr 37 dX10_append_36 rfl ?_
          refine ok_sipush 40 255 dX10_append_37 rfl rfl ?_
          refine ok_iand 41 dX10_append_40 rfl ?_
          refine ok_iast 42 dX10_append_41 rfl sg_100 ?_
          refine ok_bndM (fun m_41 => ?_)
          refine ok_aload_n 43 0 dX10_append_42 rfl rfl rfl ?_
          refine ok_dup 44 dX10_append_43 rfl rfl ?_
          refine ok_getI 47 dX10_append_44 rfl rfl F_Encores_Tape_24 sg_99 rfl (Nat.le_of_ble_eq_true rfl) rfl ?_
          refine ok_iconst 48 1 dX10_append_47 rfl rfl ?_
          refine ok_iadd 49 dX10_append_48 rfl ?_
          refine ok_putI 52 dX10_append_49 rfl rfl F_Encores_Tape_24 sg_99 rfl (Nat.le_of_ble_eq_true rfl) rfl rfl pZ_10_2 rfl rfl ?_
          refine ok_bndM (fun m_49 => ?_)
          refine ok_iinc 55 2 (-8) [some (.ref 99), some (.int a1), some (.int (s2_3 + (-8)))] dX10_append_52 rfl rfl rfl (by decide) rfl ?_
          refine ok_goto 3 dX10_append_55 (by decide) ?_
          exact ok_less [some (.ref 99), some (.int a1), some (.int (s2_3 + (-8)))] (And.intro rfl (And.intro rfl (And.intro rfl (trivial)))) (hX (s2_3 + (-8)) m_49))

set_option maxRecDepth 100000 in
set_option maxHeartbeats 4000000 in
theorem ok_X10_append (N d : Nat) (a1 : Int32)  (m : Mem) : Ok none SG (d + 0) m_X10_append 0 [some (.ref 99), some (.int a1), none] [] SG m (f_X10_append N a1 m) := by
  unfold f_X10_append
  refine ok_bipush 2 24 dX10_append_0 rfl rfl ?_
  refine ok_istore_n 3 2 [some (.ref 99), some (.int a1), some (.int 24)] dX10_append_2 rfl rfl (by decide) rfl ?_
  refine ok_less [some (.ref 99), some (.int a1), some (.int 24)] (And.intro rfl (And.intro rfl (And.intro rfl (trivial)))) ?_
  exact ok_X10_append_L3 N d a1    N 24 m

theorem c_X10_append (N d : Nat) (a1 : Int32)  (m : Mem) : CM (d + 0) m_X10_append SG SG [.ref 99, .int a1] m (f_X10_append N a1 m) :=
  CM.ofOk km_X10_append ⟨Nat.le_refl _, Nat.le_refl _⟩ (by simp [Value.category]) (Nat.le_of_ble_eq_true rfl) (ok_X10_append N d a1 m)

def f_X11_state (N : Nat) (a1 : Int32) (m : Mem) : Ans :=
bd (f_X1_hour N 6 m) fun r_6 m_6 =>
bd (f_X1_setHour N 6 a1 m_6) fun _ m_17 =>
bd (f_X4_forget N m_17) fun _ m_24 =>
some (r_6, m_24)

set_option maxRecDepth 100000 in
set_option maxHeartbeats 4000000 in
theorem ok_X11_state (N d : Nat) (a1 : Int32)  (m : Mem) : Ok none SG (d + 2) m_X11_state 0 [some (.ref 0), some (.int a1), none] [] SG m (f_X11_state N a1 m) := by
  unfold f_X11_state
  refine ok_aload_n 1 0 dX11_state_0 rfl rfl rfl ?_
  refine ok_getR 4 dX11_state_1 rfl rfl F_Encores_16 sg_0 rfl (Nat.le_of_ble_eq_true rfl) rfl rfl ?_
  refine ok_bipush 6 6 dX11_state_4 rfl rfl ?_
  refine ok_callVi (np := 1) (M' := m_X1_hour) (As := [.int 6]) (st := []) 9 dX11_state_6 rfl rfl km_X1_hour ki_X1_hour kv_X1_hour ml_Encores_98 (by decide) sg_2 rfl (Nat.le_of_ble_eq_true rfl) rfl rfl rfl (Nat.le_of_ble_eq_true rfl) (c_X1_hour N (d + 0) 6 m) ⟨Nat.le_refl _, Nat.le_refl _⟩ (Or.inl rfl) rfl (fun r_6 m_6 _ => ?_)
  refine ok_istore_n 10 2 [some (.ref 0), some (.int a1), some (.int r_6)] dX11_state_9 rfl rfl (by decide) rfl ?_
  refine ok_aload_n 11 0 dX11_state_10 rfl rfl rfl ?_
  refine ok_getR 14 dX11_state_11 rfl rfl F_Encores_16 sg_0 rfl (Nat.le_of_ble_eq_true rfl) rfl rfl ?_
  refine ok_bipush 16 6 dX11_state_14 rfl rfl ?_
  refine ok_iload_n 17 1 dX11_state_16 rfl rfl rfl ?_
  refine ok_callVv (np := 2) (M' := m_X1_setHour) (As := [.int 6, .int a1]) (st := []) 20 dX11_state_17 rfl rfl km_X1_setHour ki_X1_setHour kv_X1_setHour ml_Encores_102 (by decide) sg_2 rfl (Nat.le_of_ble_eq_true rfl) rfl rfl rfl (Nat.le_of_ble_eq_true rfl) (c_X1_setHour N (d + 0) 6 a1 m_6) ⟨Nat.le_refl _, Nat.le_refl _⟩ (Or.inl rfl) rfl (fun _ m_17 _ => ?_)
  refine ok_aload_n 21 0 dX11_state_20 rfl rfl rfl ?_
  refine ok_getR 24 dX11_state_21 rfl rfl F_Encores_30 sg_0 rfl (Nat.le_of_ble_eq_true rfl) rfl rfl ?_
  refine ok_callVv (np := 0) (M' := m_X4_forget) (As := []) (st := []) 27 dX11_state_24 rfl rfl km_X4_forget ki_X4_forget kv_X4_forget ml_Encores_106 (by decide) sg_48 rfl (Nat.le_of_ble_eq_true rfl) rfl rfl rfl (Nat.le_of_ble_eq_true rfl) (c_X4_forget N (d + 1) m_17) ⟨Nat.le_refl _, Nat.le_refl _⟩ (Or.inl rfl) rfl (fun _ m_24 _ => ?_)
  refine ok_iload_n 28 2 dX11_state_27 rfl rfl rfl ?_
  exact ok_iret dX11_state_28 rfl

theorem c_X11_state (N d : Nat) (a1 : Int32)  (m : Mem) : CM (d + 2) m_X11_state SG SG [.ref 0, .int a1] m (f_X11_state N a1 m) :=
  CM.ofOk km_X11_state ⟨Nat.le_refl _, Nat.le_refl _⟩ (by simp [Value.category]) (Nat.le_of_ble_eq_true rfl) (ok_X11_state N d a1 m)

def f_X11_hearer (N : Nat) (a1 : Int32) (a2 : Int32) (a3 : Int32) (m : Mem) : Ans :=
bd (f_X11_within N a1 0 9 m) fun r_4 m_4 =>
if r_4 = 0 then (some ((-1), m_4))
else (bd (f_X11_within N a2 0 9 m_4) fun r_14 m_14 =>
if r_14 = 0 then (some ((-1), m_14))
else (bd (f_X11_within N a3 0 9 m_14) fun r_24 m_24 =>
if r_24 = 0 then (some ((-1), m_24))
else (bnd (m_24 3 3) fun a4_42 =>
bd (f_X9_add N 3 a1 a2 a3 1 m_24) fun r_55 m_55 =>
if r_55 = 0 then (some ((-1), m_55))
else (bd (f_X9_put N 3 a4_42 7 1 m_55) fun _ m_75 =>
bd (f_X4_forget N m_75) fun _ m_82 =>
some (a4_42, m_82)))))

set_option maxRecDepth 100000 in
set_option maxHeartbeats 4000000 in
theorem ok_X11_hearer (N d : Nat) (a1 : Int32) (a2 : Int32) (a3 : Int32)  (m : Mem) : Ok none SG (d + 1) m_X11_hearer 0 [some (.ref 0), some (.int a1), some (.int a2), some (.int a3), none] [] SG m (f_X11_hearer N a1 a2 a3 m) := by
  unfold f_X11_hearer
  refine ok_iload_n 1 1 dX11_hearer_0 rfl rfl rfl ?_
  refine ok_iconst 2 0 dX11_hearer_1 rfl rfl ?_
  refine ok_bipush 4 9 dX11_hearer_2 rfl rfl ?_
  refine ok_callSi (np := 3) (M' := m_X11_within) (As := [.int a1, .int 0, .int 9]) (st := []) 7 dX11_hearer_4 rfl rfl km_X11_within ks_X11_within ml_Encores_109 (by decide) rfl rfl (Nat.le_of_ble_eq_true rfl) (c_X11_within N (d + 0) a1 0 9 m) ⟨Nat.le_refl _, Nat.le_refl _⟩ (Or.inl rfl) rfl (fun r_4 m_4 _ => ?_)
  refine ok_if_eq 30 10 dX11_hearer_7 (by decide) rfl (fun _ => ?_) (fun _ => ?_)
  · refine ok_iconst 31 (-1) dX11_hearer_30 rfl rfl ?_
    exact ok_iret dX11_hearer_31 rfl
  · refine ok_iload_n 11 2 dX11_hearer_10 rfl rfl rfl ?_
    refine ok_iconst 12 0 dX11_hearer_11 rfl rfl ?_
    refine ok_bipush 14 9 dX11_hearer_12 rfl rfl ?_
    refine ok_callSi (np := 3) (M' := m_X11_within) (As := [.int a2, .int 0, .int 9]) (st := []) 17 dX11_hearer_14 rfl rfl km_X11_within ks_X11_within ml_Encores_109 (by decide) rfl rfl (Nat.le_of_ble_eq_true rfl) (c_X11_within N (d + 0) a2 0 9 m_4) ⟨Nat.le_refl _, Nat.le_refl _⟩ (Or.inl rfl) rfl (fun r_14 m_14 _ => ?_)
    refine ok_if_eq 30 20 dX11_hearer_17 (by decide) rfl (fun _ => ?_) (fun _ => ?_)
    · refine ok_iconst 31 (-1) dX11_hearer_30 rfl rfl ?_
      exact ok_iret dX11_hearer_31 rfl
    · refine ok_iload_n 21 3 dX11_hearer_20 rfl rfl rfl ?_
      refine ok_iconst 22 0 dX11_hearer_21 rfl rfl ?_
      refine ok_bipush 24 9 dX11_hearer_22 rfl rfl ?_
      refine ok_callSi (np := 3) (M' := m_X11_within) (As := [.int a3, .int 0, .int 9]) (st := []) 27 dX11_hearer_24 rfl rfl km_X11_within ks_X11_within ml_Encores_109 (by decide) rfl rfl (Nat.le_of_ble_eq_true rfl) (c_X11_within N (d + 0) a3 0 9 m_14) ⟨Nat.le_refl _, Nat.le_refl _⟩ (Or.inl rfl) rfl (fun r_24 m_24 _ => ?_)
      refine ok_if_ne 32 30 dX11_hearer_27 (by decide) rfl (fun _ => ?_) (fun _ => ?_)
      · refine ok_aload_n 33 0 dX11_hearer_32 rfl rfl rfl ?_
        refine ok_getR 36 dX11_hearer_33 rfl rfl F_Encores_16 sg_0 rfl (Nat.le_of_ble_eq_true rfl) rfl rfl ?_
        refine ok_getR 39 dX11_hearer_36 rfl rfl F_Encores_113 sg_2 rfl (Nat.le_of_ble_eq_true rfl) rfl rfl ?_
        refine ok_getI 42 dX11_hearer_39 rfl rfl F_Encores_117 sg_3 rfl (Nat.le_of_ble_eq_true rfl) rfl ?_
        refine ok_bndI (fun a4_42 => ?_)
        refine ok_istore 44 4 [some (.ref 0), some (.int a1), some (.int a2), some (.int a3), some (.int a4_42)] dX11_hearer_42 rfl (by decide) rfl ?_
        refine ok_aload_n 45 0 dX11_hearer_44 rfl rfl rfl ?_
        refine ok_getR 48 dX11_hearer_45 rfl rfl F_Encores_16 sg_0 rfl (Nat.le_of_ble_eq_true rfl) rfl rfl ?_
        refine ok_getR 51 dX11_hearer_48 rfl rfl F_Encores_113 sg_2 rfl (Nat.le_of_ble_eq_true rfl) rfl rfl ?_
        refine ok_iload_n 52 1 dX11_hearer_51 rfl rfl rfl ?_
        refine ok_iload_n 53 2 dX11_hearer_52 rfl rfl rfl ?_
        refine ok_iload_n 54 3 dX11_hearer_53 rfl rfl rfl ?_
        refine ok_iconst 55 1 dX11_hearer_54 rfl rfl ?_
        refine ok_callVi (np := 4) (M' := m_X9_add) (As := [.int a1, .int a2, .int a3, .int 1]) (st := []) 58 dX11_hearer_55 rfl rfl km_X9_add ki_X9_add kv_X9_add ml_Encores_123 (by decide) sg_3 rfl (Nat.le_of_ble_eq_true rfl) rfl rfl rfl (Nat.le_of_ble_eq_true rfl) (c_X9_add N (d + 0) 3 a1 a2 a3 1 tg_3 m_24) ⟨Nat.le_refl _, Nat.le_refl _⟩ (Or.inl rfl) rfl (fun r_55 m_55 _ => ?_)
        refine ok_if_ne 63 61 dX11_hearer_58 (by decide) rfl (fun _ => ?_) (fun _ => ?_)
        · refine ok_aload_n 64 0 dX11_hearer_63 rfl rfl rfl ?_
          refine ok_getR 67 dX11_hearer_64 rfl rfl F_Encores_16 sg_0 rfl (Nat.le_of_ble_eq_true rfl) rfl rfl ?_
          refine ok_getR 70 dX11_hearer_67 rfl rfl F_Encores_113 sg_2 rfl (Nat.le_of_ble_eq_true rfl) rfl rfl ?_
          refine ok_iload 72 4 dX11_hearer_70 rfl rfl ?_
          refine ok_bipush 74 7 dX11_hearer_72 rfl rfl ?_
          refine ok_iconst 75 1 dX11_hearer_74 rfl rfl ?_
          refine ok_callVv (np := 3) (M' := m_X9_put) (As := [.int a4_42, .int 7, .int 1]) (st := []) 78 dX11_hearer_75 rfl rfl km_X9_put ki_X9_put kv_X9_put ml_Encores_127 (by decide) sg_3 rfl (Nat.le_of_ble_eq_true rfl) rfl rfl rfl (Nat.le_of_ble_eq_true rfl) (c_X9_put N (d + 0) 3 a4_42 7 1 tg_3 m_55) ⟨Nat.le_refl _, Nat.le_refl _⟩ (Or.inl rfl) rfl (fun _ m_75 _ => ?_)
          refine ok_aload_n 79 0 dX11_hearer_78 rfl rfl rfl ?_
          refine ok_getR 82 dX11_hearer_79 rfl rfl F_Encores_30 sg_0 rfl (Nat.le_of_ble_eq_true rfl) rfl rfl ?_
          refine ok_callVv (np := 0) (M' := m_X4_forget) (As := []) (st := []) 85 dX11_hearer_82 rfl rfl km_X4_forget ki_X4_forget kv_X4_forget ml_Encores_106 (by decide) sg_48 rfl (Nat.le_of_ble_eq_true rfl) rfl rfl rfl (Nat.le_of_ble_eq_true rfl) (c_X4_forget N (d + 0) m_75) ⟨Nat.le_refl _, Nat.le_refl _⟩ (Or.inl rfl) rfl (fun _ m_82 _ => ?_)
          refine ok_iload 87 4 dX11_hearer_85 rfl rfl ?_
          exact ok_iret dX11_hearer_87 rfl
        · refine ok_iconst 62 (-1) dX11_hearer_61 rfl rfl ?_
          exact ok_iret dX11_hearer_62 rfl
      · refine ok_iconst 31 (-1) dX11_hearer_30 rfl rfl ?_
        exact ok_iret dX11_hearer_31 rfl

theorem c_X11_hearer (N d : Nat) (a1 : Int32) (a2 : Int32) (a3 : Int32)  (m : Mem) : CM (d + 1) m_X11_hearer SG SG [.ref 0, .int a1, .int a2, .int a3] m (f_X11_hearer N a1 a2 a3 m) :=
  CM.ofOk km_X11_hearer ⟨Nat.le_refl _, Nat.le_refl _⟩ (by simp [Value.category]) (Nat.le_of_ble_eq_true rfl) (ok_X11_hearer N d a1 a2 a3 m)

def f_X11_deed (N : Nat) (a1 : Int32) (a2 : Int32) (a3 : Int32) (m : Mem) : Ans :=
bd (f_X11_within N a1 0 9 m) fun r_4 m_4 =>
if r_4 = 0 then (some ((-1), m_4))
else (bd (f_X11_within N a2 1 60 m_4) fun r_14 m_14 =>
if r_14 = 0 then (some ((-1), m_14))
else (bd (f_X11_within N a3 0 99 m_14) fun r_24 m_24 =>
if r_24 = 0 then (some ((-1), m_24))
else (bnd (m_24 5 3) fun a4_42 =>
bd (f_X9_add N 5 a1 a2 a3 0 m_24) fun r_55 m_55 =>
if r_55 = 0 then (some ((-1), m_55))
else (bd (f_X4_forget N m_55) fun _ m_67 =>
some (a4_42, m_67)))))

set_option maxRecDepth 100000 in
set_option maxHeartbeats 4000000 in
theorem ok_X11_deed (N d : Nat) (a1 : Int32) (a2 : Int32) (a3 : Int32)  (m : Mem) : Ok none SG (d + 1) m_X11_deed 0 [some (.ref 0), some (.int a1), some (.int a2), some (.int a3), none] [] SG m (f_X11_deed N a1 a2 a3 m) := by
  unfold f_X11_deed
  refine ok_iload_n 1 1 dX11_deed_0 rfl rfl rfl ?_
  refine ok_iconst 2 0 dX11_deed_1 rfl rfl ?_
  refine ok_bipush 4 9 dX11_deed_2 rfl rfl ?_
  refine ok_callSi (np := 3) (M' := m_X11_within) (As := [.int a1, .int 0, .int 9]) (st := []) 7 dX11_deed_4 rfl rfl km_X11_within ks_X11_within ml_Encores_109 (by decide) rfl rfl (Nat.le_of_ble_eq_true rfl) (c_X11_within N (d + 0) a1 0 9 m) ⟨Nat.le_refl _, Nat.le_refl _⟩ (Or.inl rfl) rfl (fun r_4 m_4 _ => ?_)
  refine ok_if_eq 30 10 dX11_deed_7 (by decide) rfl (fun _ => ?_) (fun _ => ?_)
  · refine ok_iconst 31 (-1) dX11_deed_30 rfl rfl ?_
    exact ok_iret dX11_deed_31 rfl
  · refine ok_iload_n 11 2 dX11_deed_10 rfl rfl rfl ?_
    refine ok_iconst 12 1 dX11_deed_11 rfl rfl ?_
    refine ok_bipush 14 60 dX11_deed_12 rfl rfl ?_
    refine ok_callSi (np := 3) (M' := m_X11_within) (As := [.int a2, .int 1, .int 60]) (st := []) 17 dX11_deed_14 rfl rfl km_X11_within ks_X11_within ml_Encores_109 (by decide) rfl rfl (Nat.le_of_ble_eq_true rfl) (c_X11_within N (d + 0) a2 1 60 m_4) ⟨Nat.le_refl _, Nat.le_refl _⟩ (Or.inl rfl) rfl (fun r_14 m_14 _ => ?_)
    refine ok_if_eq 30 20 dX11_deed_17 (by decide) rfl (fun _ => ?_) (fun _ => ?_)
    · refine ok_iconst 31 (-1) dX11_deed_30 rfl rfl ?_
      exact ok_iret dX11_deed_31 rfl
    · refine ok_iload_n 21 3 dX11_deed_20 rfl rfl rfl ?_
      refine ok_iconst 22 0 dX11_deed_21 rfl rfl ?_
      refine ok_bipush 24 99 dX11_deed_22 rfl rfl ?_
      refine ok_callSi (np := 3) (M' := m_X11_within) (As := [.int a3, .int 0, .int 99]) (st := []) 27 dX11_deed_24 rfl rfl km_X11_within ks_X11_within ml_Encores_109 (by decide) rfl rfl (Nat.le_of_ble_eq_true rfl) (c_X11_within N (d + 0) a3 0 99 m_14) ⟨Nat.le_refl _, Nat.le_refl _⟩ (Or.inl rfl) rfl (fun r_24 m_24 _ => ?_)
      refine ok_if_ne 32 30 dX11_deed_27 (by decide) rfl (fun _ => ?_) (fun _ => ?_)
      · refine ok_aload_n 33 0 dX11_deed_32 rfl rfl rfl ?_
        refine ok_getR 36 dX11_deed_33 rfl rfl F_Encores_16 sg_0 rfl (Nat.le_of_ble_eq_true rfl) rfl rfl ?_
        refine ok_getR 39 dX11_deed_36 rfl rfl F_Encores_131 sg_2 rfl (Nat.le_of_ble_eq_true rfl) rfl rfl ?_
        refine ok_getI 42 dX11_deed_39 rfl rfl F_Encores_117 sg_5 rfl (Nat.le_of_ble_eq_true rfl) rfl ?_
        refine ok_bndI (fun a4_42 => ?_)
        refine ok_istore 44 4 [some (.ref 0), some (.int a1), some (.int a2), some (.int a3), some (.int a4_42)] dX11_deed_42 rfl (by decide) rfl ?_
        refine ok_aload_n 45 0 dX11_deed_44 rfl rfl rfl ?_
        refine ok_getR 48 dX11_deed_45 rfl rfl F_Encores_16 sg_0 rfl (Nat.le_of_ble_eq_true rfl) rfl rfl ?_
        refine ok_getR 51 dX11_deed_48 rfl rfl F_Encores_131 sg_2 rfl (Nat.le_of_ble_eq_true rfl) rfl rfl ?_
        refine ok_iload_n 52 1 dX11_deed_51 rfl rfl rfl ?_
        refine ok_iload_n 53 2 dX11_deed_52 rfl rfl rfl ?_
        refine ok_iload_n 54 3 dX11_deed_53 rfl rfl rfl ?_
        refine ok_iconst 55 0 dX11_deed_54 rfl rfl ?_
        refine ok_callVi (np := 4) (M' := m_X9_add) (As := [.int a1, .int a2, .int a3, .int 0]) (st := []) 58 dX11_deed_55 rfl rfl km_X9_add ki_X9_add kv_X9_add ml_Encores_123 (by decide) sg_5 rfl (Nat.le_of_ble_eq_true rfl) rfl rfl rfl (Nat.le_of_ble_eq_true rfl) (c_X9_add N (d + 0) 5 a1 a2 a3 0 tg_5 m_24) ⟨Nat.le_refl _, Nat.le_refl _⟩ (Or.inl rfl) rfl (fun r_55 m_55 _ => ?_)
        refine ok_if_ne 63 61 dX11_deed_58 (by decide) rfl (fun _ => ?_) (fun _ => ?_)
        · refine ok_aload_n 64 0 dX11_deed_63 rfl rfl rfl ?_
          refine ok_getR 67 dX11_deed_64 rfl rfl F_Encores_30 sg_0 rfl (Nat.le_of_ble_eq_true rfl) rfl rfl ?_
          refine ok_callVv (np := 0) (M' := m_X4_forget) (As := []) (st := []) 70 dX11_deed_67 rfl rfl km_X4_forget ki_X4_forget kv_X4_forget ml_Encores_106 (by decide) sg_48 rfl (Nat.le_of_ble_eq_true rfl) rfl rfl rfl (Nat.le_of_ble_eq_true rfl) (c_X4_forget N (d + 0) m_55) ⟨Nat.le_refl _, Nat.le_refl _⟩ (Or.inl rfl) rfl (fun _ m_67 _ => ?_)
          refine ok_iload 72 4 dX11_deed_70 rfl rfl ?_
          exact ok_iret dX11_deed_72 rfl
        · refine ok_iconst 62 (-1) dX11_deed_61 rfl rfl ?_
          exact ok_iret dX11_deed_62 rfl
      · refine ok_iconst 31 (-1) dX11_deed_30 rfl rfl ?_
        exact ok_iret dX11_deed_31 rfl

theorem c_X11_deed (N d : Nat) (a1 : Int32) (a2 : Int32) (a3 : Int32)  (m : Mem) : CM (d + 1) m_X11_deed SG SG [.ref 0, .int a1, .int a2, .int a3] m (f_X11_deed N a1 a2 a3 m) :=
  CM.ofOk km_X11_deed ⟨Nat.le_refl _, Nat.le_refl _⟩ (by simp [Value.category]) (Nat.le_of_ble_eq_true rfl) (ok_X11_deed N d a1 a2 a3 m)

def f_X11_setTo (N : Nat) (a0 : Nat) (a1 : Int32) (a2 : Int32) (a3 : Int32) (a4 : Int32) (m : Mem) : Ans :=
bd (f_X9_has N a0 a1 m) fun r_2 m_2 =>
if r_2 = 0 then (some (0, m_2))
else (bd (f_X11_within N a3 0 a4 m_2) fun r_12 m_12 =>
if r_12 = 0 then (some (0, m_12))
else (bd (f_X9_put N a0 a1 a2 a3 m_12) fun _ m_24 =>
some (1, m_24)))

set_option maxRecDepth 100000 in
set_option maxHeartbeats 4000000 in
theorem ok_X11_setTo (N d : Nat) (a0 : Nat) (a1 : Int32) (a2 : Int32) (a3 : Int32) (a4 : Int32) (h0 : tg a0 = 9) (m : Mem) : Ok none SG (d + 1) m_X11_setTo 0 [some (.ref a0), some (.int a1), some (.int a2), some (.int a3), some (.int a4)] [] SG m (f_X11_setTo N a0 a1 a2 a3 a4 m) := by
  unfold f_X11_setTo
  refine ok_aload_n 1 0 dX11_setTo_0 rfl rfl rfl ?_
  refine ok_iload_n 2 1 dX11_setTo_1 rfl rfl rfl ?_
  refine ok_callVi (np := 1) (M' := m_X9_has) (As := [.int a1]) (st := []) 5 dX11_setTo_2 rfl rfl km_X9_has ki_X9_has kv_X9_has ml_Encores_138 (by decide) (sg_T _ h0) rfl (Nat.le_of_ble_eq_true rfl) rfl rfl rfl (Nat.le_of_ble_eq_true rfl) (c_X9_has N (d + 0) a0 a1 h0 m) ⟨Nat.le_refl _, Nat.le_refl _⟩ (Or.inl rfl) rfl (fun r_2 m_2 _ => ?_)
  refine ok_if_eq 18 8 dX11_setTo_5 (by decide) rfl (fun _ => ?_) (fun _ => ?_)
  · refine ok_iconst 19 0 dX11_setTo_18 rfl rfl ?_
    exact ok_zretc dX11_setTo_19 rfl rfl
  · refine ok_iload_n 9 3 dX11_setTo_8 rfl rfl rfl ?_
    refine ok_iconst 10 0 dX11_setTo_9 rfl rfl ?_
    refine ok_iload 12 4 dX11_setTo_10 rfl rfl ?_
    refine ok_callSi (np := 3) (M' := m_X11_within) (As := [.int a3, .int 0, .int a4]) (st := []) 15 dX11_setTo_12 rfl rfl km_X11_within ks_X11_within ml_Encores_109 (by decide) rfl rfl (Nat.le_of_ble_eq_true rfl) (c_X11_within N (d + 0) a3 0 a4 m_2) ⟨Nat.le_refl _, Nat.le_refl _⟩ (Or.inl rfl) rfl (fun r_12 m_12 _ => ?_)
    refine ok_if_ne 20 18 dX11_setTo_15 (by decide) rfl (fun _ => ?_) (fun _ => ?_)
    · refine ok_aload_n 21 0 dX11_setTo_20 rfl rfl rfl ?_
      refine ok_iload_n 22 1 dX11_setTo_21 rfl rfl rfl ?_
      refine ok_iload_n 23 2 dX11_setTo_22 rfl rfl rfl ?_
      refine ok_iload_n 24 3 dX11_setTo_23 rfl rfl rfl ?_
      refine ok_callVv (np := 3) (M' := m_X9_put) (As := [.int a1, .int a2, .int a3]) (st := []) 27 dX11_setTo_24 rfl rfl km_X9_put ki_X9_put kv_X9_put ml_Encores_127 (by decide) (sg_T _ h0) rfl (Nat.le_of_ble_eq_true rfl) rfl rfl rfl (Nat.le_of_ble_eq_true rfl) (c_X9_put N (d + 0) a0 a1 a2 a3 h0 m_12) ⟨Nat.le_refl _, Nat.le_refl _⟩ (Or.inl rfl) rfl (fun _ m_24 _ => ?_)
      refine ok_iconst 28 1 dX11_setTo_27 rfl rfl ?_
      exact ok_zretc dX11_setTo_28 rfl rfl
    · refine ok_iconst 19 0 dX11_setTo_18 rfl rfl ?_
      exact ok_zretc dX11_setTo_19 rfl rfl

theorem c_X11_setTo (N d : Nat) (a0 : Nat) (a1 : Int32) (a2 : Int32) (a3 : Int32) (a4 : Int32) (h0 : tg a0 = 9) (m : Mem) : CM (d + 1) m_X11_setTo SG SG [.ref a0, .int a1, .int a2, .int a3, .int a4] m (f_X11_setTo N a0 a1 a2 a3 a4 m) :=
  CM.ofOk km_X11_setTo ⟨Nat.le_refl _, Nat.le_refl _⟩ (by simp [Value.category]) (Nat.le_of_ble_eq_true rfl) (ok_X11_setTo N d a0 a1 a2 a3 a4 h0 m)

def f_X11_set (N : Nat) (a1 : Int32) (a2 : Int32) (a3 : Int32) (m : Mem) : Ans :=
swt (Int32.toInt a1 - (0)) [(bd (f_X11_within N a3 0 1000 m) fun r_49 m_49 =>
if r_49 = 0 then (if r_49 = 0 then (chk (isB r_49) (some (r_49, m_49)))
else (bd (f_X4_forget N m_49) fun _ m_180 =>
chk (isB r_49) (some (r_49, m_180))))
else (bd (f_X1_setHour N 3 a3 m_49) fun _ m_65 =>
if r_49 = 0 then (chk (isB r_49) (some (r_49, m_65)))
else (bd (f_X4_forget N m_65) fun _ m_180 =>
chk (isB r_49) (some (r_49, m_180))))),
(bd (f_X11_setTo N 3 a2 0 a3 9 m) fun r_83 m_83 =>
if r_83 = 0 then (chk (isB r_83) (some (r_83, m_83)))
else (bd (f_X4_forget N m_83) fun _ m_180 =>
chk (isB r_83) (some (r_83, m_180)))),
(bd (f_X11_setTo N 3 a2 1 a3 9 m) fun r_103 m_103 =>
if r_103 = 0 then (chk (isB r_103) (some (r_103, m_103)))
else (bd (f_X4_forget N m_103) fun _ m_180 =>
chk (isB r_103) (some (r_103, m_180)))),
(bd (f_X11_setTo N 3 a2 2 a3 9 m) fun r_123 m_123 =>
if r_123 = 0 then (chk (isB r_123) (some (r_123, m_123)))
else (bd (f_X4_forget N m_123) fun _ m_180 =>
chk (isB r_123) (some (r_123, m_180)))),
(bd (f_X11_setTo N 5 a2 0 a3 9 m) fun r_143 m_143 =>
if r_143 = 0 then (chk (isB r_143) (some (r_143, m_143)))
else (bd (f_X4_forget N m_143) fun _ m_180 =>
chk (isB r_143) (some (r_143, m_180)))),
(bd (f_X11_setTo N 5 a2 3 a3 99 m) fun r_163 m_163 =>
if r_163 = 0 then (chk (isB r_163) (some (r_163, m_163)))
else (bd (f_X4_forget N m_163) fun _ m_180 =>
chk (isB r_163) (some (r_163, m_180))))] (if (0 : Int32) = 0 then (some (0, m))
else (bd (f_X4_forget N m) fun _ m_180 =>
some (0, m_180)))

set_option maxRecDepth 100000 in
set_option maxHeartbeats 4000000 in
theorem ok_X11_set (N d : Nat) (a1 : Int32) (a2 : Int32) (a3 : Int32)  (m : Mem) : Ok none SG (d + 2) m_X11_set 0 [some (.ref 0), some (.int a1), some (.int a2), some (.int a3), none] [] SG m (f_X11_set N a1 a2 a3 m) := by
  unfold f_X11_set
  refine ok_iconst 1 0 dX11_set_0 rfl rfl ?_
  refine ok_istore 3 4 [some (.ref 0), some (.int a1), some (.int a2), some (.int a3), some (.int 0)] dX11_set_1 rfl (by decide) rfl ?_
  refine ok_iload_n 4 1 dX11_set_3 rfl rfl rfl ?_
  refine ok_tsw 171 [44, 71, 91, 111, 131, 151] dX11_set_4 (by decide) (by decide) (by decide) rfl ?_ ?_
  · refine And.intro ?_ (And.intro ?_ (And.intro ?_ (And.intro ?_ (And.intro ?_ (And.intro ?_ (trivial))))))
    · refine ok_iload_n 45 3 dX11_set_44 rfl rfl rfl ?_
      refine ok_iconst 46 0 dX11_set_45 rfl rfl ?_
      refine ok_sipush 49 1000 dX11_set_46 rfl rfl ?_
      refine ok_callSi (np := 3) (M' := m_X11_within) (As := [.int a3, .int 0, .int 1000]) (st := []) 52 dX11_set_49 rfl rfl km_X11_within ks_X11_within ml_Encores_109 (by decide) rfl rfl (Nat.le_of_ble_eq_true rfl) (c_X11_within N (d + 1) a3 0 1000 m) ⟨Nat.le_refl _, Nat.le_refl _⟩ (Or.inl rfl) rfl (fun r_49 m_49 _ => ?_)
      refine ok_istore 54 4 [some (.ref 0), some (.int a1), some (.int a2), some (.int a3), some (.int r_49)] dX11_set_52 rfl (by decide) rfl ?_
      refine ok_iload 56 4 dX11_set_54 rfl rfl ?_
      refine ok_if_eq 171 59 dX11_set_56 (by decide) rfl (fun _ => ?_) (fun _ => ?_)
      · refine ok_iload 173 4 dX11_set_171 rfl rfl ?_
        refine ok_if_eq 183 176 dX11_set_173 (by decide) rfl (fun _ => ?_) (fun _ => ?_)
        · refine ok_iload 185 4 dX11_set_183 rfl rfl ?_
          exact ok_zret dX11_set_185 rfl
        · refine ok_aload_n 177 0 dX11_set_176 rfl rfl rfl ?_
          refine ok_getR 180 dX11_set_177 rfl rfl F_Encores_30 sg_0 rfl (Nat.le_of_ble_eq_true rfl) rfl rfl ?_
          refine ok_callVv (np := 0) (M' := m_X4_forget) (As := []) (st := []) 183 dX11_set_180 rfl rfl km_X4_forget ki_X4_forget kv_X4_forget ml_Encores_106 (by decide) sg_48 rfl (Nat.le_of_ble_eq_true rfl) rfl rfl rfl (Nat.le_of_ble_eq_true rfl) (c_X4_forget N (d + 1) m_49) ⟨Nat.le_refl _, Nat.le_refl _⟩ (Or.inl rfl) rfl (fun _ m_180 _ => ?_)
          refine ok_iload 185 4 dX11_set_183 rfl rfl ?_
          exact ok_zret dX11_set_185 rfl
      · refine ok_aload_n 60 0 dX11_set_59 rfl rfl rfl ?_
        refine ok_getR 63 dX11_set_60 rfl rfl F_Encores_16 sg_0 rfl (Nat.le_of_ble_eq_true rfl) rfl rfl ?_
        refine ok_iconst 64 3 dX11_set_63 rfl rfl ?_
        refine ok_iload_n 65 3 dX11_set_64 rfl rfl rfl ?_
        refine ok_callVv (np := 2) (M' := m_X1_setHour) (As := [.int 3, .int a3]) (st := []) 68 dX11_set_65 rfl rfl km_X1_setHour ki_X1_setHour kv_X1_setHour ml_Encores_102 (by decide) sg_2 rfl (Nat.le_of_ble_eq_true rfl) rfl rfl rfl (Nat.le_of_ble_eq_true rfl) (c_X1_setHour N (d + 0) 3 a3 m_49) ⟨Nat.le_refl _, Nat.le_refl _⟩ (Or.inl rfl) rfl (fun _ m_65 _ => ?_)
        refine ok_goto 171 dX11_set_68 (by decide) ?_
        refine ok_iload 173 4 dX11_set_171 rfl rfl ?_
        refine ok_if_eq 183 176 dX11_set_173 (by decide) rfl (fun _ => ?_) (fun _ => ?_)
        · refine ok_iload 185 4 dX11_set_183 rfl rfl ?_
          exact ok_zret dX11_set_185 rfl
        · refine ok_aload_n 177 0 dX11_set_176 rfl rfl rfl ?_
          refine ok_getR 180 dX11_set_177 rfl rfl F_Encores_30 sg_0 rfl (Nat.le_of_ble_eq_true rfl) rfl rfl ?_
          refine ok_callVv (np := 0) (M' := m_X4_forget) (As := []) (st := []) 183 dX11_set_180 rfl rfl km_X4_forget ki_X4_forget kv_X4_forget ml_Encores_106 (by decide) sg_48 rfl (Nat.le_of_ble_eq_true rfl) rfl rfl rfl (Nat.le_of_ble_eq_true rfl) (c_X4_forget N (d + 1) m_65) ⟨Nat.le_refl _, Nat.le_refl _⟩ (Or.inl rfl) rfl (fun _ m_180 _ => ?_)
          refine ok_iload 185 4 dX11_set_183 rfl rfl ?_
          exact ok_zret dX11_set_185 rfl
    · refine ok_aload_n 72 0 dX11_set_71 rfl rfl rfl ?_
      refine ok_getR 75 dX11_set_72 rfl rfl F_Encores_16 sg_0 rfl (Nat.le_of_ble_eq_true rfl) rfl rfl ?_
      refine ok_getR 78 dX11_set_75 rfl rfl F_Encores_113 sg_2 rfl (Nat.le_of_ble_eq_true rfl) rfl rfl ?_
      refine ok_iload_n 79 2 dX11_set_78 rfl rfl rfl ?_
      refine ok_iconst 80 0 dX11_set_79 rfl rfl ?_
      refine ok_iload_n 81 3 dX11_set_80 rfl rfl rfl ?_
      refine ok_bipush 83 9 dX11_set_81 rfl rfl ?_
      refine ok_callSi (np := 5) (M' := m_X11_setTo) (As := [.ref 3, .int a2, .int 0, .int a3, .int 9]) (st := []) 86 dX11_set_83 rfl rfl km_X11_setTo ks_X11_setTo ml_Encores_134 (by decide) rfl rfl (Nat.le_of_ble_eq_true rfl) (c_X11_setTo N (d + 0) 3 a2 0 a3 9 tg_3 m) ⟨Nat.le_refl _, Nat.le_refl _⟩ (Or.inl rfl) rfl (fun r_83 m_83 _ => ?_)
      refine ok_istore 88 4 [some (.ref 0), some (.int a1), some (.int a2), some (.int a3), some (.int r_83)] dX11_set_86 rfl (by decide) rfl ?_
      refine ok_goto 171 dX11_set_88 (by decide) ?_
      refine ok_iload 173 4 dX11_set_171 rfl rfl ?_
      refine ok_if_eq 183 176 dX11_set_173 (by decide) rfl (fun _ => ?_) (fun _ => ?_)
      · refine ok_iload 185 4 dX11_set_183 rfl rfl ?_
        exact ok_zret dX11_set_185 rfl
      · refine ok_aload_n 177 0 dX11_set_176 rfl rfl rfl ?_
        refine ok_getR 180 dX11_set_177 rfl rfl F_Encores_30 sg_0 rfl (Nat.le_of_ble_eq_true rfl) rfl rfl ?_
        refine ok_callVv (np := 0) (M' := m_X4_forget) (As := []) (st := []) 183 dX11_set_180 rfl rfl km_X4_forget ki_X4_forget kv_X4_forget ml_Encores_106 (by decide) sg_48 rfl (Nat.le_of_ble_eq_true rfl) rfl rfl rfl (Nat.le_of_ble_eq_true rfl) (c_X4_forget N (d + 1) m_83) ⟨Nat.le_refl _, Nat.le_refl _⟩ (Or.inl rfl) rfl (fun _ m_180 _ => ?_)
        refine ok_iload 185 4 dX11_set_183 rfl rfl ?_
        exact ok_zret dX11_set_185 rfl
    · refine ok_aload_n 92 0 dX11_set_91 rfl rfl rfl ?_
      refine ok_getR 95 dX11_set_92 rfl rfl F_Encores_16 sg_0 rfl (Nat.le_of_ble_eq_true rfl) rfl rfl ?_
      refine ok_getR 98 dX11_set_95 rfl rfl F_Encores_113 sg_2 rfl (Nat.le_of_ble_eq_true rfl) rfl rfl ?_
      refine ok_iload_n 99 2 dX11_set_98 rfl rfl rfl ?_
      refine ok_iconst 100 1 dX11_set_99 rfl rfl ?_
      refine ok_iload_n 101 3 dX11_set_100 rfl rfl rfl ?_
      refine ok_bipush 103 9 dX11_set_101 rfl rfl ?_
      refine ok_callSi (np := 5) (M' := m_X11_setTo) (As := [.ref 3, .int a2, .int 1, .int a3, .int 9]) (st := []) 106 dX11_set_103 rfl rfl km_X11_setTo ks_X11_setTo ml_Encores_134 (by decide) rfl rfl (Nat.le_of_ble_eq_true rfl) (c_X11_setTo N (d + 0) 3 a2 1 a3 9 tg_3 m) ⟨Nat.le_refl _, Nat.le_refl _⟩ (Or.inl rfl) rfl (fun r_103 m_103 _ => ?_)
      refine ok_istore 108 4 [some (.ref 0), some (.int a1), some (.int a2), some (.int a3), some (.int r_103)] dX11_set_106 rfl (by decide) rfl ?_
      refine ok_goto 171 dX11_set_108 (by decide) ?_
      refine ok_iload 173 4 dX11_set_171 rfl rfl ?_
      refine ok_if_eq 183 176 dX11_set_173 (by decide) rfl (fun _ => ?_) (fun _ => ?_)
      · refine ok_iload 185 4 dX11_set_183 rfl rfl ?_
        exact ok_zret dX11_set_185 rfl
      · refine ok_aload_n 177 0 dX11_set_176 rfl rfl rfl ?_
        refine ok_getR 180 dX11_set_177 rfl rfl F_Encores_30 sg_0 rfl (Nat.le_of_ble_eq_true rfl) rfl rfl ?_
        refine ok_callVv (np := 0) (M' := m_X4_forget) (As := []) (st := []) 183 dX11_set_180 rfl rfl km_X4_forget ki_X4_forget kv_X4_forget ml_Encores_106 (by decide) sg_48 rfl (Nat.le_of_ble_eq_true rfl) rfl rfl rfl (Nat.le_of_ble_eq_true rfl) (c_X4_forget N (d + 1) m_103) ⟨Nat.le_refl _, Nat.le_refl _⟩ (Or.inl rfl) rfl (fun _ m_180 _ => ?_)
        refine ok_iload 185 4 dX11_set_183 rfl rfl ?_
        exact ok_zret dX11_set_185 rfl
    · refine ok_aload_n 112 0 dX11_set_111 rfl rfl rfl ?_
      refine ok_getR 115 dX11_set_112 rfl rfl F_Encores_16 sg_0 rfl (Nat.le_of_ble_eq_true rfl) rfl rfl ?_
      refine ok_getR 118 dX11_set_115 rfl rfl F_Encores_113 sg_2 rfl (Nat.le_of_ble_eq_true rfl) rfl rfl ?_
      refine ok_iload_n 119 2 dX11_set_118 rfl rfl rfl ?_
      refine ok_iconst 120 2 dX11_set_119 rfl rfl ?_
      refine ok_iload_n 121 3 dX11_set_120 rfl rfl rfl ?_
      refine ok_bipush 123 9 dX11_set_121 rfl rfl ?_
      refine ok_callSi (np := 5) (M' := m_X11_setTo) (As := [.ref 3, .int a2, .int 2, .int a3, .int 9]) (st := []) 126 dX11_set_123 rfl rfl km_X11_setTo ks_X11_setTo ml_Encores_134 (by decide) rfl rfl (Nat.le_of_ble_eq_true rfl) (c_X11_setTo N (d + 0) 3 a2 2 a3 9 tg_3 m) ⟨Nat.le_refl _, Nat.le_refl _⟩ (Or.inl rfl) rfl (fun r_123 m_123 _ => ?_)
      refine ok_istore 128 4 [some (.ref 0), some (.int a1), some (.int a2), some (.int a3), some (.int r_123)] dX11_set_126 rfl (by decide) rfl ?_
      refine ok_goto 171 dX11_set_128 (by decide) ?_
      refine ok_iload 173 4 dX11_set_171 rfl rfl ?_
      refine ok_if_eq 183 176 dX11_set_173 (by decide) rfl (fun _ => ?_) (fun _ => ?_)
      · refine ok_iload 185 4 dX11_set_183 rfl rfl ?_
        exact ok_zret dX11_set_185 rfl
      · refine ok_aload_n 177 0 dX11_set_176 rfl rfl rfl ?_
        refine ok_getR 180 dX11_set_177 rfl rfl F_Encores_30 sg_0 rfl (Nat.le_of_ble_eq_true rfl) rfl rfl ?_
        refine ok_callVv (np := 0) (M' := m_X4_forget) (As := []) (st := []) 183 dX11_set_180 rfl rfl km_X4_forget ki_X4_forget kv_X4_forget ml_Encores_106 (by decide) sg_48 rfl (Nat.le_of_ble_eq_true rfl) rfl rfl rfl (Nat.le_of_ble_eq_true rfl) (c_X4_forget N (d + 1) m_123) ⟨Nat.le_refl _, Nat.le_refl _⟩ (Or.inl rfl) rfl (fun _ m_180 _ => ?_)
        refine ok_iload 185 4 dX11_set_183 rfl rfl ?_
        exact ok_zret dX11_set_185 rfl
    · refine ok_aload_n 132 0 dX11_set_131 rfl rfl rfl ?_
      refine ok_getR 135 dX11_set_132 rfl rfl F_Encores_16 sg_0 rfl (Nat.le_of_ble_eq_true rfl) rfl rfl ?_
      refine ok_getR 138 dX11_set_135 rfl rfl F_Encores_131 sg_2 rfl (Nat.le_of_ble_eq_true rfl) rfl rfl ?_
      refine ok_iload_n 139 2 dX11_set_138 rfl rfl rfl ?_
      refine ok_iconst 140 0 dX11_set_139 rfl rfl ?_
      refine ok_iload_n 141 3 dX11_set_140 rfl rfl rfl ?_
      refine ok_bipush 143 9 dX11_set_141 rfl rfl ?_
      refine ok_callSi (np := 5) (M' := m_X11_setTo) (As := [.ref 5, .int a2, .int 0, .int a3, .int 9]) (st := []) 146 dX11_set_143 rfl rfl km_X11_setTo ks_X11_setTo ml_Encores_134 (by decide) rfl rfl (Nat.le_of_ble_eq_true rfl) (c_X11_setTo N (d + 0) 5 a2 0 a3 9 tg_5 m) ⟨Nat.le_refl _, Nat.le_refl _⟩ (Or.inl rfl) rfl (fun r_143 m_143 _ => ?_)
      refine ok_istore 148 4 [some (.ref 0), some (.int a1), some (.int a2), some (.int a3), some (.int r_143)] dX11_set_146 rfl (by decide) rfl ?_
      refine ok_goto 171 dX11_set_148 (by decide) ?_
      refine ok_iload 173 4 dX11_set_171 rfl rfl ?_
      refine ok_if_eq 183 176 dX11_set_173 (by decide) rfl (fun _ => ?_) (fun _ => ?_)
      · refine ok_iload 185 4 dX11_set_183 rfl rfl ?_
        exact ok_zret dX11_set_185 rfl
      · refine ok_aload_n 177 0 dX11_set_176 rfl rfl rfl ?_
        refine ok_getR 180 dX11_set_177 rfl rfl F_Encores_30 sg_0 rfl (Nat.le_of_ble_eq_true rfl) rfl rfl ?_
        refine ok_callVv (np := 0) (M' := m_X4_forget) (As := []) (st := []) 183 dX11_set_180 rfl rfl km_X4_forget ki_X4_forget kv_X4_forget ml_Encores_106 (by decide) sg_48 rfl (Nat.le_of_ble_eq_true rfl) rfl rfl rfl (Nat.le_of_ble_eq_true rfl) (c_X4_forget N (d + 1) m_143) ⟨Nat.le_refl _, Nat.le_refl _⟩ (Or.inl rfl) rfl (fun _ m_180 _ => ?_)
        refine ok_iload 185 4 dX11_set_183 rfl rfl ?_
        exact ok_zret dX11_set_185 rfl
    · refine ok_aload_n 152 0 dX11_set_151 rfl rfl rfl ?_
      refine ok_getR 155 dX11_set_152 rfl rfl F_Encores_16 sg_0 rfl (Nat.le_of_ble_eq_true rfl) rfl rfl ?_
      refine ok_getR 158 dX11_set_155 rfl rfl F_Encores_131 sg_2 rfl (Nat.le_of_ble_eq_true rfl) rfl rfl ?_
      refine ok_iload_n 159 2 dX11_set_158 rfl rfl rfl ?_
      refine ok_iconst 160 3 dX11_set_159 rfl rfl ?_
      refine ok_iload_n 161 3 dX11_set_160 rfl rfl rfl ?_
      refine ok_bipush 163 99 dX11_set_161 rfl rfl ?_
      refine ok_callSi (np := 5) (M' := m_X11_setTo) (As := [.ref 5, .int a2, .int 3, .int a3, .int 99]) (st := []) 166 dX11_set_163 rfl rfl km_X11_setTo ks_X11_setTo ml_Encores_134 (by decide) rfl rfl (Nat.le_of_ble_eq_true rfl) (c_X11_setTo N (d + 0) 5 a2 3 a3 99 tg_5 m) ⟨Nat.le_refl _, Nat.le_refl _⟩ (Or.inl rfl) rfl (fun r_163 m_163 _ => ?_)
      refine ok_istore 168 4 [some (.ref 0), some (.int a1), some (.int a2), some (.int a3), some (.int r_163)] dX11_set_166 rfl (by decide) rfl ?_
      refine ok_goto 171 dX11_set_168 (by decide) ?_
      refine ok_iload 173 4 dX11_set_171 rfl rfl ?_
      refine ok_if_eq 183 176 dX11_set_173 (by decide) rfl (fun _ => ?_) (fun _ => ?_)
      · refine ok_iload 185 4 dX11_set_183 rfl rfl ?_
        exact ok_zret dX11_set_185 rfl
      · refine ok_aload_n 177 0 dX11_set_176 rfl rfl rfl ?_
        refine ok_getR 180 dX11_set_177 rfl rfl F_Encores_30 sg_0 rfl (Nat.le_of_ble_eq_true rfl) rfl rfl ?_
        refine ok_callVv (np := 0) (M' := m_X4_forget) (As := []) (st := []) 183 dX11_set_180 rfl rfl km_X4_forget ki_X4_forget kv_X4_forget ml_Encores_106 (by decide) sg_48 rfl (Nat.le_of_ble_eq_true rfl) rfl rfl rfl (Nat.le_of_ble_eq_true rfl) (c_X4_forget N (d + 1) m_163) ⟨Nat.le_refl _, Nat.le_refl _⟩ (Or.inl rfl) rfl (fun _ m_180 _ => ?_)
        refine ok_iload 185 4 dX11_set_183 rfl rfl ?_
        exact ok_zret dX11_set_185 rfl
  · refine ok_iload 173 4 dX11_set_171 rfl rfl ?_
    refine ok_if_eq 183 176 dX11_set_173 (by decide) rfl (fun _ => ?_) (fun _ => ?_)
    · refine ok_iload 185 4 dX11_set_183 rfl rfl ?_
      exact ok_zretc dX11_set_185 rfl rfl
    · refine ok_aload_n 177 0 dX11_set_176 rfl rfl rfl ?_
      refine ok_getR 180 dX11_set_177 rfl rfl F_Encores_30 sg_0 rfl (Nat.le_of_ble_eq_true rfl) rfl rfl ?_
      refine ok_callVv (np := 0) (M' := m_X4_forget) (As := []) (st := []) 183 dX11_set_180 rfl rfl km_X4_forget ki_X4_forget kv_X4_forget ml_Encores_106 (by decide) sg_48 rfl (Nat.le_of_ble_eq_true rfl) rfl rfl rfl (Nat.le_of_ble_eq_true rfl) (c_X4_forget N (d + 1) m) ⟨Nat.le_refl _, Nat.le_refl _⟩ (Or.inl rfl) rfl (fun _ m_180 _ => ?_)
      refine ok_iload 185 4 dX11_set_183 rfl rfl ?_
      exact ok_zretc dX11_set_185 rfl rfl

theorem c_X11_set (N d : Nat) (a1 : Int32) (a2 : Int32) (a3 : Int32)  (m : Mem) : CM (d + 2) m_X11_set SG SG [.ref 0, .int a1, .int a2, .int a3] m (f_X11_set N a1 a2 a3 m) :=
  CM.ofOk km_X11_set ⟨Nat.le_refl _, Nat.le_refl _⟩ (by simp [Value.category]) (Nat.le_of_ble_eq_true rfl) (ok_X11_set N d a1 a2 a3 m)

def f_X11_perform (N : Nat) (a1 : Int32) (m : Mem) : Ans :=
bd (f_X9_has N 5 a1 m) fun r_8 m_8 =>
if r_8 = 0 then (some ((-1), m_8))
else (bd (f_X1_hour N 0 m_8) fun r_21 m_21 =>
bd (f_X9_at N 5 a1 1 m_21) fun r_35 m_35 =>
bnd (r_21 + ((21 : Int32) * r_35)) fun a2_40 =>
if a2_40 < (9999 : Int32) then (bd (f_X4_keep N m_35) fun _ m_58 =>
bd (f_X8_doWithAgains N a1 m_58) fun r_66 m_66 =>
some (r_66, m_66))
else (some ((-1), m_35)))

set_option maxRecDepth 100000 in
set_option maxHeartbeats 4000000 in
theorem ok_X11_perform (N d : Nat) (a1 : Int32)  (m : Mem) : Ok none SG (d + 6) m_X11_perform 0 [some (.ref 0), some (.int a1), none] [] SG m (f_X11_perform N a1 m) := by
  unfold f_X11_perform
  refine ok_aload_n 1 0 dX11_perform_0 rfl rfl rfl ?_
  refine ok_getR 4 dX11_perform_1 rfl rfl F_Encores_16 sg_0 rfl (Nat.le_of_ble_eq_true rfl) rfl rfl ?_
  refine ok_getR 7 dX11_perform_4 rfl rfl F_Encores_131 sg_2 rfl (Nat.le_of_ble_eq_true rfl) rfl rfl ?_
  refine ok_iload_n 8 1 dX11_perform_7 rfl rfl rfl ?_
  refine ok_callVi (np := 1) (M' := m_X9_has) (As := [.int a1]) (st := []) 11 dX11_perform_8 rfl rfl km_X9_has ki_X9_has kv_X9_has ml_Encores_138 (by decide) sg_5 rfl (Nat.le_of_ble_eq_true rfl) rfl rfl rfl (Nat.le_of_ble_eq_true rfl) (c_X9_has N (d + 5) 5 a1 tg_5 m) ⟨Nat.le_refl _, Nat.le_refl _⟩ (Or.inl rfl) rfl (fun r_8 m_8 _ => ?_)
  refine ok_if_ne 16 14 dX11_perform_11 (by decide) rfl (fun _ => ?_) (fun _ => ?_)
  · refine ok_aload_n 17 0 dX11_perform_16 rfl rfl rfl ?_
    refine ok_getR 20 dX11_perform_17 rfl rfl F_Encores_16 sg_0 rfl (Nat.le_of_ble_eq_true rfl) rfl rfl ?_
    refine ok_iconst 21 0 dX11_perform_20 rfl rfl ?_
    refine ok_callVi (np := 1) (M' := m_X1_hour) (As := [.int 0]) (st := []) 24 dX11_perform_21 rfl rfl km_X1_hour ki_X1_hour kv_X1_hour ml_Encores_98 (by decide) sg_2 rfl (Nat.le_of_ble_eq_true rfl) rfl rfl rfl (Nat.le_of_ble_eq_true rfl) (c_X1_hour N (d + 4) 0 m_8) ⟨Nat.le_refl _, Nat.le_refl _⟩ (Or.inl rfl) rfl (fun r_21 m_21 _ => ?_)
    refine ok_bipush 26 21 dX11_perform_24 rfl rfl ?_
    refine ok_aload_n 27 0 dX11_perform_26 rfl rfl rfl ?_
    refine ok_getR 30 dX11_perform_27 rfl rfl F_Encores_16 sg_0 rfl (Nat.le_of_ble_eq_true rfl) rfl rfl ?_
    refine ok_getR 33 dX11_perform_30 rfl rfl F_Encores_131 sg_2 rfl (Nat.le_of_ble_eq_true rfl) rfl rfl ?_
    refine ok_iload_n 34 1 dX11_perform_33 rfl rfl rfl ?_
    refine ok_iconst 35 1 dX11_perform_34 rfl rfl ?_
    refine ok_callVi (np := 2) (M' := m_X9_at) (As := [.int a1, .int 1]) (st := [.int 21, .int r_21]) 38 dX11_perform_35 rfl rfl km_X9_at ki_X9_at kv_X9_at ml_Encores_142 (by decide) sg_5 rfl (Nat.le_of_ble_eq_true rfl) rfl rfl rfl (Nat.le_of_ble_eq_true rfl) (c_X9_at N (d + 5) 5 a1 1 tg_5 m_21) ⟨Nat.le_refl _, Nat.le_refl _⟩ (Or.inl rfl) rfl (fun r_35 m_35 _ => ?_)
    refine ok_imul 39 dX11_perform_38 rfl ?_
    refine ok_iadd 40 dX11_perform_39 rfl ?_
    refine ok_bndI (fun a2_40 => ?_)
    refine ok_istore_n 41 2 [some (.ref 0), some (.int a1), some (.int a2_40)] dX11_perform_40 rfl rfl (by decide) rfl ?_
    refine ok_iload_n 42 2 dX11_perform_41 rfl rfl rfl ?_
    refine ok_sipush 45 9999 dX11_perform_42 rfl rfl ?_
    refine ok_icmp_lt 50 48 dX11_perform_45 (by decide) rfl (fun _ => ?_) (fun _ => ?_)
    · refine ok_aload_n 51 0 dX11_perform_50 rfl rfl rfl ?_
      refine ok_getR 54 dX11_perform_51 rfl rfl F_Encores_30 sg_0 rfl (Nat.le_of_ble_eq_true rfl) rfl rfl ?_
      refine ok_aload_n 55 0 dX11_perform_54 rfl rfl rfl ?_
      refine ok_getR 58 dX11_perform_55 rfl rfl F_Encores_16 sg_0 rfl (Nat.le_of_ble_eq_true rfl) rfl rfl ?_
      refine ok_callVv (np := 1) (M' := m_X4_keep) (As := [.ref 2]) (st := []) 61 dX11_perform_58 rfl rfl km_X4_keep ki_X4_keep kv_X4_keep ml_Encores_146 (by decide) sg_48 rfl (Nat.le_of_ble_eq_true rfl) rfl rfl rfl (Nat.le_of_ble_eq_true rfl) (c_X4_keep N (d + 2) m_35) ⟨Nat.le_refl _, Nat.le_refl _⟩ (Or.inl rfl) rfl (fun _ m_58 _ => ?_)
      refine ok_aload_n 62 0 dX11_perform_61 rfl rfl rfl ?_
      refine ok_getR 65 dX11_perform_62 rfl rfl F_Encores_71 sg_0 rfl (Nat.le_of_ble_eq_true rfl) rfl rfl ?_
      refine ok_iload_n 66 1 dX11_perform_65 rfl rfl rfl ?_
      refine ok_callVi (np := 1) (M' := m_X8_doWithAgains) (As := [.int a1]) (st := []) 69 dX11_perform_66 rfl rfl km_X8_doWithAgains ki_X8_doWithAgains kv_X8_doWithAgains ml_Encores_149 (by decide) sg_113 rfl (Nat.le_of_ble_eq_true rfl) rfl rfl rfl (Nat.le_of_ble_eq_true rfl) (c_X8_doWithAgains N (d + 0) a1 m_58) ⟨Nat.le_refl _, Nat.le_refl _⟩ (Or.inl rfl) rfl (fun r_66 m_66 _ => ?_)
      exact ok_iret dX11_perform_69 rfl
    · refine ok_iconst 49 (-1) dX11_perform_48 rfl rfl ?_
      exact ok_iret dX11_perform_49 rfl
  · refine ok_iconst 15 (-1) dX11_perform_14 rfl rfl ?_
    exact ok_iret dX11_perform_15 rfl

theorem c_X11_perform (N d : Nat) (a1 : Int32)  (m : Mem) : CM (d + 6) m_X11_perform SG SG [.ref 0, .int a1] m (f_X11_perform N a1 m) :=
  CM.ofOk km_X11_perform ⟨Nat.le_refl _, Nat.le_refl _⟩ (by simp [Value.category]) (Nat.le_of_ble_eq_true rfl) (ok_X11_perform N d a1 m)

def f_X11_pay (N : Nat) (a1 : Int32) (a2 : Int32) (m : Mem) : Ans :=
bd (f_X9_has N 3 a1 m) fun r_8 m_8 =>
if r_8 = 0 then (some (0, m_8))
else (bd (f_X11_within N a2 1 99 m_8) fun r_18 m_18 =>
if r_18 = 0 then (some (0, m_18))
else (bd (f_X4_keep N m_18) fun _ m_34 =>
bd (f_X9_at N 3 a1 5 m_34) fun r_57 m_57 =>
bd (f_X9_put N 3 a1 5 (if (r_57 + a2) < (99 : Int32) then (r_57 + a2) else (99 : Int32)) m_57) fun _ m_65 =>
bd (f_X1_hour N 2 m_65) fun r_78 m_78 =>
bd (f_X1_setHour N 2 (r_78 - a2) m_78) fun _ m_83 =>
bd (f_X1_note N 3 a1 a2 m_83) fun _ m_93 =>
some (1, m_93)))

set_option maxRecDepth 100000 in
set_option maxHeartbeats 4000000 in
theorem ok_X11_pay (N d : Nat) (a1 : Int32) (a2 : Int32)  (m : Mem) : Ok none SG (d + 4) m_X11_pay 0 [some (.ref 0), some (.int a1), some (.int a2)] [] SG m (f_X11_pay N a1 a2 m) := by
  unfold f_X11_pay
  refine ok_aload_n 1 0 dX11_pay_0 rfl rfl rfl ?_
  refine ok_getR 4 dX11_pay_1 rfl rfl F_Encores_16 sg_0 rfl (Nat.le_of_ble_eq_true rfl) rfl rfl ?_
  refine ok_getR 7 dX11_pay_4 rfl rfl F_Encores_113 sg_2 rfl (Nat.le_of_ble_eq_true rfl) rfl rfl ?_
  refine ok_iload_n 8 1 dX11_pay_7 rfl rfl rfl ?_
  refine ok_callVi (np := 1) (M' := m_X9_has) (As := [.int a1]) (st := []) 11 dX11_pay_8 rfl rfl km_X9_has ki_X9_has kv_X9_has ml_Encores_138 (by decide) sg_3 rfl (Nat.le_of_ble_eq_true rfl) rfl rfl rfl (Nat.le_of_ble_eq_true rfl) (c_X9_has N (d + 3) 3 a1 tg_3 m) ⟨Nat.le_refl _, Nat.le_refl _⟩ (Or.inl rfl) rfl (fun r_8 m_8 _ => ?_)
  refine ok_if_eq 24 14 dX11_pay_11 (by decide) rfl (fun _ => ?_) (fun _ => ?_)
  · refine ok_iconst 25 0 dX11_pay_24 rfl rfl ?_
    exact ok_zretc dX11_pay_25 rfl rfl
  · refine ok_iload_n 15 2 dX11_pay_14 rfl rfl rfl ?_
    refine ok_iconst 16 1 dX11_pay_15 rfl rfl ?_
    refine ok_bipush 18 99 dX11_pay_16 rfl rfl ?_
    refine ok_callSi (np := 3) (M' := m_X11_within) (As := [.int a2, .int 1, .int 99]) (st := []) 21 dX11_pay_18 rfl rfl km_X11_within ks_X11_within ml_Encores_109 (by decide) rfl rfl (Nat.le_of_ble_eq_true rfl) (c_X11_within N (d + 3) a2 1 99 m_8) ⟨Nat.le_refl _, Nat.le_refl _⟩ (Or.inl rfl) rfl (fun r_18 m_18 _ => ?_)
    refine ok_if_ne 26 24 dX11_pay_21 (by decide) rfl (fun _ => ?_) (fun _ => ?_)
    · refine ok_aload_n 27 0 dX11_pay_26 rfl rfl rfl ?_
      refine ok_getR 30 dX11_pay_27 rfl rfl F_Encores_30 sg_0 rfl (Nat.le_of_ble_eq_true rfl) rfl rfl ?_
      refine ok_aload_n 31 0 dX11_pay_30 rfl rfl rfl ?_
      refine ok_getR 34 dX11_pay_31 rfl rfl F_Encores_16 sg_0 rfl (Nat.le_of_ble_eq_true rfl) rfl rfl ?_
      refine ok_callVv (np := 1) (M' := m_X4_keep) (As := [.ref 2]) (st := []) 37 dX11_pay_34 rfl rfl km_X4_keep ki_X4_keep kv_X4_keep ml_Encores_146 (by decide) sg_48 rfl (Nat.le_of_ble_eq_true rfl) rfl rfl rfl (Nat.le_of_ble_eq_true rfl) (c_X4_keep N (d + 0) m_18) ⟨Nat.le_refl _, Nat.le_refl _⟩ (Or.inl rfl) rfl (fun _ m_34 _ => ?_)
      refine ok_aload_n 38 0 dX11_pay_37 rfl rfl rfl ?_
      refine ok_getR 41 dX11_pay_38 rfl rfl F_Encores_16 sg_0 rfl (Nat.le_of_ble_eq_true rfl) rfl rfl ?_
      refine ok_getR 44 dX11_pay_41 rfl rfl F_Encores_113 sg_2 rfl (Nat.le_of_ble_eq_true rfl) rfl rfl ?_
      refine ok_iload_n 45 1 dX11_pay_44 rfl rfl rfl ?_
      refine ok_iconst 46 5 dX11_pay_45 rfl rfl ?_
      refine ok_bipush 48 99 dX11_pay_46 rfl rfl ?_
      refine ok_aload_n 49 0 dX11_pay_48 rfl rfl rfl ?_
      refine ok_getR 52 dX11_pay_49 rfl rfl F_Encores_16 sg_0 rfl (Nat.le_of_ble_eq_true rfl) rfl rfl ?_
      refine ok_getR 55 dX11_pay_52 rfl rfl F_Encores_113 sg_2 rfl (Nat.le_of_ble_eq_true rfl) rfl rfl ?_
      refine ok_iload_n 56 1 dX11_pay_55 rfl rfl rfl ?_
      refine ok_iconst 57 5 dX11_pay_56 rfl rfl ?_
      refine ok_callVi (np := 2) (M' := m_X9_at) (As := [.int a1, .int 5]) (st := [.int 99, .int 5, .int a1, .ref 3]) 60 dX11_pay_57 rfl rfl km_X9_at ki_X9_at kv_X9_at ml_Encores_142 (by decide) sg_3 rfl (Nat.le_of_ble_eq_true rfl) rfl rfl rfl (Nat.le_of_ble_eq_true rfl) (c_X9_at N (d + 3) 3 a1 5 tg_3 m_34) ⟨Nat.le_refl _, Nat.le_refl _⟩ (Or.inl rfl) rfl (fun r_57 m_57 _ => ?_)
      refine ok_iload_n 61 2 dX11_pay_60 rfl rfl rfl ?_
      refine ok_iadd 62 dX11_pay_61 rfl ?_
      refine ok_min 65 ⟨Nat.le_refl _, Nat.le_refl _⟩ dX11_pay_62 rfl rfl ml_Encores_152 (Nat.le_of_ble_eq_true rfl) ?_
      refine ok_callVv (np := 3) (M' := m_X9_put) (As := [.int a1, .int 5, .int (if (r_57 + a2) < (99 : Int32) then (r_57 + a2) else (99 : Int32))]) (st := []) 68 dX11_pay_65 rfl rfl km_X9_put ki_X9_put kv_X9_put ml_Encores_127 (by decide) sg_3 rfl (Nat.le_of_ble_eq_true rfl) rfl rfl rfl (Nat.le_of_ble_eq_true rfl) (c_X9_put N (d + 3) 3 a1 5 (if (r_57 + a2) < (99 : Int32) then (r_57 + a2) else (99 : Int32)) tg_3 m_57) ⟨Nat.le_refl _, Nat.le_refl _⟩ (Or.inl rfl) rfl (fun _ m_65 _ => ?_)
      refine ok_aload_n 69 0 dX11_pay_68 rfl rfl rfl ?_
      refine ok_getR 72 dX11_pay_69 rfl rfl F_Encores_16 sg_0 rfl (Nat.le_of_ble_eq_true rfl) rfl rfl ?_
      refine ok_iconst 73 2 dX11_pay_72 rfl rfl ?_
      refine ok_aload_n 74 0 dX11_pay_73 rfl rfl rfl ?_
      refine ok_getR 77 dX11_pay_74 rfl rfl F_Encores_16 sg_0 rfl (Nat.le_of_ble_eq_true rfl) rfl rfl ?_
      refine ok_iconst 78 2 dX11_pay_77 rfl rfl ?_
      refine ok_callVi (np := 1) (M' := m_X1_hour) (As := [.int 2]) (st := [.int 2, .ref 2]) 81 dX11_pay_78 rfl rfl km_X1_hour ki_X1_hour kv_X1_hour ml_Encores_98 (by decide) sg_2 rfl (Nat.le_of_ble_eq_true rfl) rfl rfl rfl (Nat.le_of_ble_eq_true rfl) (c_X1_hour N (d + 2) 2 m_65) ⟨Nat.le_refl _, Nat.le_refl _⟩ (Or.inl rfl) rfl (fun r_78 m_78 _ => ?_)
      refine ok_iload_n 82 2 dX11_pay_81 rfl rfl rfl ?_
      refine ok_isub 83 dX11_pay_82 rfl ?_
      refine ok_callVv (np := 2) (M' := m_X1_setHour) (As := [.int 2, .int (r_78 - a2)]) (st := []) 86 dX11_pay_83 rfl rfl km_X1_setHour ki_X1_setHour kv_X1_setHour ml_Encores_102 (by decide) sg_2 rfl (Nat.le_of_ble_eq_true rfl) rfl rfl rfl (Nat.le_of_ble_eq_true rfl) (c_X1_setHour N (d + 2) 2 (r_78 - a2) m_78) ⟨Nat.le_refl _, Nat.le_refl _⟩ (Or.inl rfl) rfl (fun _ m_83 _ => ?_)
      refine ok_aload_n 87 0 dX11_pay_86 rfl rfl rfl ?_
      refine ok_getR 90 dX11_pay_87 rfl rfl F_Encores_16 sg_0 rfl (Nat.le_of_ble_eq_true rfl) rfl rfl ?_
      refine ok_iconst 91 3 dX11_pay_90 rfl rfl ?_
      refine ok_iload_n 92 1 dX11_pay_91 rfl rfl rfl ?_
      refine ok_iload_n 93 2 dX11_pay_92 rfl rfl rfl ?_
      refine ok_callVv (np := 3) (M' := m_X1_note) (As := [.int 3, .int a1, .int a2]) (st := []) 96 dX11_pay_93 rfl rfl km_X1_note ki_X1_note kv_X1_note ml_Encores_157 (by decide) sg_2 rfl (Nat.le_of_ble_eq_true rfl) rfl rfl rfl (Nat.le_of_ble_eq_true rfl) (c_X1_note N (d + 2) 3 a1 a2 m_83) ⟨Nat.le_refl _, Nat.le_refl _⟩ (Or.inl rfl) rfl (fun _ m_93 _ => ?_)
      refine ok_iconst 97 1 dX11_pay_96 rfl rfl ?_
      exact ok_zretc dX11_pay_97 rfl rfl
    · refine ok_iconst 25 0 dX11_pay_24 rfl rfl ?_
      exact ok_zretc dX11_pay_25 rfl rfl

theorem c_X11_pay (N d : Nat) (a1 : Int32) (a2 : Int32)  (m : Mem) : CM (d + 4) m_X11_pay SG SG [.ref 0, .int a1, .int a2] m (f_X11_pay N a1 a2 m) :=
  CM.ofOk km_X11_pay ⟨Nat.le_refl _, Nat.le_refl _⟩ (by simp [Value.category]) (Nat.le_of_ble_eq_true rfl) (ok_X11_pay N d a1 a2 m)

def f_X11_turn_J9 (N : Nat) (a1 : Int32) (a2 : Int32) (a3 : Int32) (a4 : Int32)   (t0_9 : Int32) (m : Mem) : Ans :=
bd (f_X9_has N 3 a1 m) fun r_19 m_19 =>
if r_19 = 0 then (some (0, m_19))
else (bd (f_X9_at N 3 a1 a2 m_19) fun r_34 m_34 =>
if r_34 = t0_9 then (some (0, m_34))
else (bd (f_X4_keep N m_34) fun _ m_52 =>
bd (f_X9_put N 3 a1 a2 t0_9 m_52) fun _ m_66 =>
bd (f_X1_note N a4 a1 t0_9 m_66) fun _ m_78 =>
some (1, m_78)))

def f_X11_turn (N : Nat) (a1 : Int32) (a2 : Int32) (a3 : Int32) (a4 : Int32) (m : Mem) : Ans :=
if a3 = 0 then (f_X11_turn_J9 N a1 a2 a3 a4 0 m)
else (f_X11_turn_J9 N a1 a2 a3 a4 1 m)

set_option maxRecDepth 100000 in
set_option maxHeartbeats 4000000 in
theorem ok_X11_turn_J9 (N d : Nat) (a1 : Int32) (a2 : Int32) (a3 : Int32) (a4 : Int32)    (t0_9 : Int32) (m : Mem) : Ok none SG (d + 4) m_X11_turn 9 [some (.ref 0), some (.int a1), some (.int a2), none, some (.int a4), none] [.int t0_9] SG m (f_X11_turn_J9 N a1 a2 a3 a4 t0_9 m) := by
  unfold f_X11_turn_J9
  refine ok_istore 11 5 [some (.ref 0), some (.int a1), some (.int a2), none, some (.int a4), some (.int t0_9)] dX11_turn_9 rfl (by decide) rfl ?_
  refine ok_aload_n 12 0 dX11_turn_11 rfl rfl rfl ?_
  refine ok_getR 15 dX11_turn_12 rfl rfl F_Encores_16 sg_0 rfl (Nat.le_of_ble_eq_true rfl) rfl rfl ?_
  refine ok_getR 18 dX11_turn_15 rfl rfl F_Encores_113 sg_2 rfl (Nat.le_of_ble_eq_true rfl) rfl rfl ?_
  refine ok_iload_n 19 1 dX11_turn_18 rfl rfl rfl ?_
  refine ok_callVi (np := 1) (M' := m_X9_has) (As := [.int a1]) (st := []) 22 dX11_turn_19 rfl rfl km_X9_has ki_X9_has kv_X9_has ml_Encores_138 (by decide) sg_3 rfl (Nat.le_of_ble_eq_true rfl) rfl rfl rfl (Nat.le_of_ble_eq_true rfl) (c_X9_has N (d + 3) 3 a1 tg_3 m) ⟨Nat.le_refl _, Nat.le_refl _⟩ (Or.inl rfl) rfl (fun r_19 m_19 _ => ?_)
  refine ok_if_eq 42 25 dX11_turn_22 (by decide) rfl (fun _ => ?_) (fun _ => ?_)
  · refine ok_iconst 43 0 dX11_turn_42 rfl rfl ?_
    exact ok_zretc dX11_turn_43 rfl rfl
  · refine ok_aload_n 26 0 dX11_turn_25 rfl rfl rfl ?_
    refine ok_getR 29 dX11_turn_26 rfl rfl F_Encores_16 sg_0 rfl (Nat.le_of_ble_eq_true rfl) rfl rfl ?_
    refine ok_getR 32 dX11_turn_29 rfl rfl F_Encores_113 sg_2 rfl (Nat.le_of_ble_eq_true rfl) rfl rfl ?_
    refine ok_iload_n 33 1 dX11_turn_32 rfl rfl rfl ?_
    refine ok_iload_n 34 2 dX11_turn_33 rfl rfl rfl ?_
    refine ok_callVi (np := 2) (M' := m_X9_at) (As := [.int a1, .int a2]) (st := []) 37 dX11_turn_34 rfl rfl km_X9_at ki_X9_at kv_X9_at ml_Encores_142 (by decide) sg_3 rfl (Nat.le_of_ble_eq_true rfl) rfl rfl rfl (Nat.le_of_ble_eq_true rfl) (c_X9_at N (d + 3) 3 a1 a2 tg_3 m_19) ⟨Nat.le_refl _, Nat.le_refl _⟩ (Or.inl rfl) rfl (fun r_34 m_34 _ => ?_)
    refine ok_iload 39 5 dX11_turn_37 rfl rfl ?_
    refine ok_icmp_ne 44 42 dX11_turn_39 (by decide) rfl (fun _ => ?_) (fun _ => ?_)
    · refine ok_aload_n 45 0 dX11_turn_44 rfl rfl rfl ?_
      refine ok_getR 48 dX11_turn_45 rfl rfl F_Encores_30 sg_0 rfl (Nat.le_of_ble_eq_true rfl) rfl rfl ?_
      refine ok_aload_n 49 0 dX11_turn_48 rfl rfl rfl ?_
      refine ok_getR 52 dX11_turn_49 rfl rfl F_Encores_16 sg_0 rfl (Nat.le_of_ble_eq_true rfl) rfl rfl ?_
      refine ok_callVv (np := 1) (M' := m_X4_keep) (As := [.ref 2]) (st := []) 55 dX11_turn_52 rfl rfl km_X4_keep ki_X4_keep kv_X4_keep ml_Encores_146 (by decide) sg_48 rfl (Nat.le_of_ble_eq_true rfl) rfl rfl rfl (Nat.le_of_ble_eq_true rfl) (c_X4_keep N (d + 0) m_34) ⟨Nat.le_refl _, Nat.le_refl _⟩ (Or.inl rfl) rfl (fun _ m_52 _ => ?_)
      refine ok_aload_n 56 0 dX11_turn_55 rfl rfl rfl ?_
      refine ok_getR 59 dX11_turn_56 rfl rfl F_Encores_16 sg_0 rfl (Nat.le_of_ble_eq_true rfl) rfl rfl ?_
      refine ok_getR 62 dX11_turn_59 rfl rfl F_Encores_113 sg_2 rfl (Nat.le_of_ble_eq_true rfl) rfl rfl ?_
      refine ok_iload_n 63 1 dX11_turn_62 rfl rfl rfl ?_
      refine ok_iload_n 64 2 dX11_turn_63 rfl rfl rfl ?_
      refine ok_iload 66 5 dX11_turn_64 rfl rfl ?_
      refine ok_callVv (np := 3) (M' := m_X9_put) (As := [.int a1, .int a2, .int t0_9]) (st := []) 69 dX11_turn_66 rfl rfl km_X9_put ki_X9_put kv_X9_put ml_Encores_127 (by decide) sg_3 rfl (Nat.le_of_ble_eq_true rfl) rfl rfl rfl (Nat.le_of_ble_eq_true rfl) (c_X9_put N (d + 3) 3 a1 a2 t0_9 tg_3 m_52) ⟨Nat.le_refl _, Nat.le_refl _⟩ (Or.inl rfl) rfl (fun _ m_66 _ => ?_)
      refine ok_aload_n 70 0 dX11_turn_69 rfl rfl rfl ?_
      refine ok_getR 73 dX11_turn_70 rfl rfl F_Encores_16 sg_0 rfl (Nat.le_of_ble_eq_true rfl) rfl rfl ?_
      refine ok_iload 75 4 dX11_turn_73 rfl rfl ?_
      refine ok_iload_n 76 1 dX11_turn_75 rfl rfl rfl ?_
      refine ok_iload 78 5 dX11_turn_76 rfl rfl ?_
      refine ok_callVv (np := 3) (M' := m_X1_note) (As := [.int a4, .int a1, .int t0_9]) (st := []) 81 dX11_turn_78 rfl rfl km_X1_note ki_X1_note kv_X1_note ml_Encores_157 (by decide) sg_2 rfl (Nat.le_of_ble_eq_true rfl) rfl rfl rfl (Nat.le_of_ble_eq_true rfl) (c_X1_note N (d + 2) a4 a1 t0_9 m_66) ⟨Nat.le_refl _, Nat.le_refl _⟩ (Or.inl rfl) rfl (fun _ m_78 _ => ?_)
      refine ok_iconst 82 1 dX11_turn_81 rfl rfl ?_
      exact ok_zretc dX11_turn_82 rfl rfl
    · refine ok_iconst 43 0 dX11_turn_42 rfl rfl ?_
      exact ok_zretc dX11_turn_43 rfl rfl

set_option maxRecDepth 100000 in
set_option maxHeartbeats 4000000 in
theorem ok_X11_turn (N d : Nat) (a1 : Int32) (a2 : Int32) (a3 : Int32) (a4 : Int32)  (m : Mem) : Ok none SG (d + 4) m_X11_turn 0 [some (.ref 0), some (.int a1), some (.int a2), some (.int a3), some (.int a4), none] [] SG m (f_X11_turn N a1 a2 a3 a4 m) := by
  unfold f_X11_turn
  refine ok_iload_n 1 3 dX11_turn_0 rfl rfl rfl ?_
  refine ok_if_eq 8 4 dX11_turn_1 (by decide) rfl (fun _ => ?_) (fun _ => ?_)
  · refine ok_iconst 9 0 dX11_turn_8 rfl rfl ?_
    exact ok_less [some (.ref 0), some (.int a1), some (.int a2), none, some (.int a4), none] (And.intro rfl (And.intro rfl (And.intro rfl (And.intro rfl (trivial))))) (ok_X11_turn_J9 N d a1 a2 a3 a4   0 m)
  · refine ok_iconst 5 1 dX11_turn_4 rfl rfl ?_
    refine ok_goto 9 dX11_turn_5 (by decide) ?_
    exact ok_less [some (.ref 0), some (.int a1), some (.int a2), none, some (.int a4), none] (And.intro rfl (And.intro rfl (And.intro rfl (And.intro rfl (trivial))))) (ok_X11_turn_J9 N d a1 a2 a3 a4   1 m)

theorem c_X11_turn (N d : Nat) (a1 : Int32) (a2 : Int32) (a3 : Int32) (a4 : Int32)  (m : Mem) : CM (d + 4) m_X11_turn SG SG [.ref 0, .int a1, .int a2, .int a3, .int a4] m (f_X11_turn N a1 a2 a3 a4 m) :=
  CM.ofOk km_X11_turn ⟨Nat.le_refl _, Nat.le_refl _⟩ (by simp [Value.category]) (Nat.le_of_ble_eq_true rfl) (ok_X11_turn N d a1 a2 a3 a4 m)

def f_X11_glove (N : Nat) (a1 : Int32) (a2 : Int32) (m : Mem) : Ans :=
bd (f_X11_turn N a1 4 a2 4 m) fun r_5 m_5 =>
chk (isB r_5) (some (r_5, m_5))

set_option maxRecDepth 100000 in
set_option maxHeartbeats 4000000 in
theorem ok_X11_glove (N d : Nat) (a1 : Int32) (a2 : Int32)  (m : Mem) : Ok none SG (d + 5) m_X11_glove 0 [some (.ref 0), some (.int a1), some (.int a2)] [] SG m (f_X11_glove N a1 a2 m) := by
  unfold f_X11_glove
  refine ok_aload_n 1 0 dX11_glove_0 rfl rfl rfl ?_
  refine ok_iload_n 2 1 dX11_glove_1 rfl rfl rfl ?_
  refine ok_iconst 3 4 dX11_glove_2 rfl rfl ?_
  refine ok_iload_n 4 2 dX11_glove_3 rfl rfl rfl ?_
  refine ok_iconst 5 4 dX11_glove_4 rfl rfl ?_
  refine ok_callVi (np := 4) (M' := m_X11_turn) (As := [.int a1, .int 4, .int a2, .int 4]) (st := []) 8 dX11_glove_5 rfl rfl km_X11_turn ki_X11_turn kv_X11_turn ml_Encores_160 (by decide) sg_0 rfl (Nat.le_of_ble_eq_true rfl) rfl rfl rfl (Nat.le_of_ble_eq_true rfl) (c_X11_turn N (d + 0) a1 4 a2 4 m) ⟨Nat.le_refl _, Nat.le_refl _⟩ (Or.inl rfl) rfl (fun r_5 m_5 _ => ?_)
  exact ok_zret dX11_glove_8 rfl

theorem c_X11_glove (N d : Nat) (a1 : Int32) (a2 : Int32)  (m : Mem) : CM (d + 5) m_X11_glove SG SG [.ref 0, .int a1, .int a2] m (f_X11_glove N a1 a2 m) :=
  CM.ofOk km_X11_glove ⟨Nat.le_refl _, Nat.le_refl _⟩ (by simp [Value.category]) (Nat.le_of_ble_eq_true rfl) (ok_X11_glove N d a1 a2 m)

def f_X11_let (N : Nat) (a1 : Int32) (a2 : Int32) (m : Mem) : Ans :=
bd (f_X11_turn N a1 3 a2 5 m) fun r_5 m_5 =>
chk (isB r_5) (some (r_5, m_5))

set_option maxRecDepth 100000 in
set_option maxHeartbeats 4000000 in
theorem ok_X11_let (N d : Nat) (a1 : Int32) (a2 : Int32)  (m : Mem) : Ok none SG (d + 5) m_X11_let 0 [some (.ref 0), some (.int a1), some (.int a2)] [] SG m (f_X11_let N a1 a2 m) := by
  unfold f_X11_let
  refine ok_aload_n 1 0 dX11_let_0 rfl rfl rfl ?_
  refine ok_iload_n 2 1 dX11_let_1 rfl rfl rfl ?_
  refine ok_iconst 3 3 dX11_let_2 rfl rfl ?_
  refine ok_iload_n 4 2 dX11_let_3 rfl rfl rfl ?_
  refine ok_iconst 5 5 dX11_let_4 rfl rfl ?_
  refine ok_callVi (np := 4) (M' := m_X11_turn) (As := [.int a1, .int 3, .int a2, .int 5]) (st := []) 8 dX11_let_5 rfl rfl km_X11_turn ki_X11_turn kv_X11_turn ml_Encores_160 (by decide) sg_0 rfl (Nat.le_of_ble_eq_true rfl) rfl rfl rfl (Nat.le_of_ble_eq_true rfl) (c_X11_turn N (d + 0) a1 3 a2 5 m) ⟨Nat.le_refl _, Nat.le_refl _⟩ (Or.inl rfl) rfl (fun r_5 m_5 _ => ?_)
  exact ok_zret dX11_let_8 rfl

theorem c_X11_let (N d : Nat) (a1 : Int32) (a2 : Int32)  (m : Mem) : CM (d + 5) m_X11_let SG SG [.ref 0, .int a1, .int a2] m (f_X11_let N a1 a2 m) :=
  CM.ofOk km_X11_let ⟨Nat.le_refl _, Nat.le_refl _⟩ (by simp [Value.category]) (Nat.le_of_ble_eq_true rfl) (ok_X11_let N d a1 a2 m)

def f_X11_evenings_L32 (N : Nat) (a1 : Int32)   (X : Int32 → Int32 → Mem → Ans) (s2_32 : Int32) (s3_32 : Int32) (m : Mem) : Ans :=
if a1 ≤ s3_32 then (some (s2_32, m))
else (bd (f_X4_keep N m) fun _ m_45 =>
bd (f_X8_spendEvening N m_45) fun r_53 m_53 =>
bnd (s2_32 + r_53) fun a2_57 =>
X a2_57 (s3_32 + 1) m_53)

def f_X11_evenings (N : Nat) (a1 : Int32) (m : Mem) : Ans :=
bd (f_X11_within N a1 1 20 m) fun r_4 m_4 =>
if r_4 = 0 then (some ((-1), m_4))
else (bd (f_X1_hour N 1 m_4) fun r_15 m_15 =>
if (r_15 + a1) ≤ (9999 : Int32) then (it2 (f_X11_evenings_L32 N a1 ) N 0 0 m_15)
else (some ((-1), m_15)))

set_option maxRecDepth 100000 in
set_option maxHeartbeats 4000000 in
theorem ok_X11_evenings_L32 (N d : Nat) (a1 : Int32)    : ∀ (n : Nat) (s2_32 : Int32) (s3_32 : Int32) (m : Mem), Ok none SG (d + 7) m_X11_evenings 32 [some (.ref 0), some (.int a1), some (.int s2_32), some (.int s3_32)] [] SG m (it2 (f_X11_evenings_L32 N a1) n s2_32 s3_32 m) :=
  ok_it2 (fun s2_32 s3_32 => [some (.ref 0), some (.int a1), some (.int s2_32), some (.int s3_32)]) (fun X hX s2_32 s3_32 m => by
    try unfold f_X11_evenings_L32
    refine ok_iload_n 33 3 dX11_evenings_32 rfl rfl rfl ?_
    refine ok_iload_n 34 1 dX11_evenings_33 rfl rfl rfl ?_
    refine ok_icmp_ge 64 37 dX11_evenings_34 (by decide) rfl (fun _ => ?_) (fun _ => ?_)
    · refine ok_iload_n 65 2 dX11_evenings_64 rfl rfl rfl ?_
      exact ok_iret dX11_evenings_65 rfl
    · refine ok_aload_n 38 0 dX11_evenings_37 rfl rfl rfl ?_
      refine ok_getR 41 dX11_evenings_38 rfl rfl F_Encores_30 sg_0 rfl (Nat.le_of_ble_eq_true rfl) rfl rfl ?_
      refine ok_aload_n 42 0 dX11_evenings_41 rfl rfl rfl ?_
      refine ok_getR 45 dX11_evenings_42 rfl rfl F_Encores_16 sg_0 rfl (Nat.le_of_ble_eq_true rfl) rfl rfl ?_
      refine ok_callVv (np := 1) (M' := m_X4_keep) (As := [.ref 2]) (st := []) 48 dX11_evenings_45 rfl rfl km_X4_keep ki_X4_keep kv_X4_keep ml_Encores_146 (by decide) sg_48 rfl (Nat.le_of_ble_eq_true rfl) rfl rfl rfl (Nat.le_of_ble_eq_true rfl) (c_X4_keep N (d + 3) m) ⟨Nat.le_refl _, Nat.le_refl _⟩ (Or.inl rfl) rfl (fun _ m_45 _ => ?_)
      refine ok_iload_n 49 2 dX11_evenings_48 rfl rfl rfl ?_
      refine ok_aload_n 50 0 dX11_evenings_49 rfl rfl rfl ?_
      refine ok_getR 53 dX11_evenings_50 rfl rfl F_Encores_71 sg_0 rfl (Nat.le_of_ble_eq_true rfl) rfl rfl ?_
      refine ok_callVi (np := 0) (M' := m_X8_spendEvening) (As := []) (st := [.int s2_32]) 56 dX11_evenings_53 rfl rfl km_X8_spendEvening ki_X8_spendEvening kv_X8_spendEvening ml_Encores_164 (by decide) sg_113 rfl (Nat.le_of_ble_eq_true rfl) rfl rfl rfl (Nat.le_of_ble_eq_true rfl) (c_X8_spendEvening N (d + 0) m_45) ⟨Nat.le_refl _, Nat.le_refl _⟩ (Or.inl rfl) rfl (fun r_53 m_53 _ => ?_)
      refine ok_iadd 57 dX11_evenings_56 rfl ?_
      refine ok_bndI (fun a2_57 => ?_)
      refine ok_istore_n 58 2 [some (.ref 0), some (.int a1), some (.int a2_57), some (.int s3_32)] dX11_evenings_57 rfl rfl (by decide) rfl ?_
      refine ok_iinc 61 3 1 [some (.ref 0), some (.int a1), some (.int a2_57), some (.int (s3_32 + 1))] dX11_evenings_58 rfl rfl rfl (by decide) rfl ?_
      refine ok_goto 32 dX11_evenings_61 (by decide) ?_
      exact ok_less [some (.ref 0), some (.int a1), some (.int a2_57), some (.int (s3_32 + 1))] (And.intro rfl (And.intro rfl (And.intro rfl (And.intro rfl (trivial))))) (hX a2_57 (s3_32 + 1) m_53))

set_option maxRecDepth 100000 in
set_option maxHeartbeats 4000000 in
theorem ok_X11_evenings (N d : Nat) (a1 : Int32)  (m : Mem) : Ok none SG (d + 7) m_X11_evenings 0 [some (.ref 0), some (.int a1), none, none] [] SG m (f_X11_evenings N a1 m) := by
  unfold f_X11_evenings
  refine ok_iload_n 1 1 dX11_evenings_0 rfl rfl rfl ?_
  refine ok_iconst 2 1 dX11_evenings_1 rfl rfl ?_
  refine ok_bipush 4 20 dX11_evenings_2 rfl rfl ?_
  refine ok_callSi (np := 3) (M' := m_X11_within) (As := [.int a1, .int 1, .int 20]) (st := []) 7 dX11_evenings_4 rfl rfl km_X11_within ks_X11_within ml_Encores_109 (by decide) rfl rfl (Nat.le_of_ble_eq_true rfl) (c_X11_within N (d + 6) a1 1 20 m) ⟨Nat.le_refl _, Nat.le_refl _⟩ (Or.inl rfl) rfl (fun r_4 m_4 _ => ?_)
  refine ok_if_eq 26 10 dX11_evenings_7 (by decide) rfl (fun _ => ?_) (fun _ => ?_)
  · refine ok_iconst 27 (-1) dX11_evenings_26 rfl rfl ?_
    exact ok_iret dX11_evenings_27 rfl
  · refine ok_aload_n 11 0 dX11_evenings_10 rfl rfl rfl ?_
    refine ok_getR 14 dX11_evenings_11 rfl rfl F_Encores_16 sg_0 rfl (Nat.le_of_ble_eq_true rfl) rfl rfl ?_
    refine ok_iconst 15 1 dX11_evenings_14 rfl rfl ?_
    refine ok_callVi (np := 1) (M' := m_X1_hour) (As := [.int 1]) (st := []) 18 dX11_evenings_15 rfl rfl km_X1_hour ki_X1_hour kv_X1_hour ml_Encores_98 (by decide) sg_2 rfl (Nat.le_of_ble_eq_true rfl) rfl rfl rfl (Nat.le_of_ble_eq_true rfl) (c_X1_hour N (d + 5) 1 m_4) ⟨Nat.le_refl _, Nat.le_refl _⟩ (Or.inl rfl) rfl (fun r_15 m_15 _ => ?_)
    refine ok_iload_n 19 1 dX11_evenings_18 rfl rfl rfl ?_
    refine ok_iadd 20 dX11_evenings_19 rfl ?_
    refine ok_sipush 23 9999 dX11_evenings_20 rfl rfl ?_
    refine ok_icmp_le 28 26 dX11_evenings_23 (by decide) rfl (fun _ => ?_) (fun _ => ?_)
    · refine ok_iconst 29 0 dX11_evenings_28 rfl rfl ?_
      refine ok_istore_n 30 2 [some (.ref 0), some (.int a1), some (.int 0), none] dX11_evenings_29 rfl rfl (by decide) rfl ?_
      refine ok_iconst 31 0 dX11_evenings_30 rfl rfl ?_
      refine ok_istore_n 32 3 [some (.ref 0), some (.int a1), some (.int 0), some (.int 0)] dX11_evenings_31 rfl rfl (by decide) rfl ?_
      refine ok_less [some (.ref 0), some (.int a1), some (.int 0), some (.int 0)] (And.intro rfl (And.intro rfl (And.intro rfl (And.intro rfl (trivial))))) ?_
      exact ok_X11_evenings_L32 N d a1    N 0 0 m_15
    · refine ok_iconst 27 (-1) dX11_evenings_26 rfl rfl ?_
      exact ok_iret dX11_evenings_27 rfl

theorem c_X11_evenings (N d : Nat) (a1 : Int32)  (m : Mem) : CM (d + 7) m_X11_evenings SG SG [.ref 0, .int a1] m (f_X11_evenings N a1 m) :=
  CM.ofOk km_X11_evenings ⟨Nat.le_refl _, Nat.le_refl _⟩ (by simp [Value.category]) (Nat.le_of_ble_eq_true rfl) (ok_X11_evenings N d a1 m)

def f_X11_feed (N : Nat) (a1 : Int32) (a2 : Int32) (a3 : Int32) (a4 : Int32) (a5 : Int32) (m : Mem) : Ans :=
bd (f_X10_hasRoom N 20 m) fun r_6 m_6 =>
if r_6 = 0 then (some ((-1), m_6))
else (bd (f_X10_append N a1 m_6) fun _ m_19 =>
bd (f_X10_append N a2 m_19) fun _ m_27 =>
bd (f_X10_append N a3 m_27) fun _ m_35 =>
bd (f_X10_append N a4 m_35) fun _ m_44 =>
bd (f_X10_append N a5 m_44) fun _ m_53 =>
some (m_53 99 2, m_53))

set_option maxRecDepth 100000 in
set_option maxHeartbeats 4000000 in
theorem ok_X11_feed (N d : Nat) (a1 : Int32) (a2 : Int32) (a3 : Int32) (a4 : Int32) (a5 : Int32)  (m : Mem) : Ok none SG (d + 1) m_X11_feed 0 [some (.ref 0), some (.int a1), some (.int a2), some (.int a3), some (.int a4), some (.int a5)] [] SG m (f_X11_feed N a1 a2 a3 a4 a5 m) := by
  unfold f_X11_feed
  refine ok_aload_n 1 0 dX11_feed_0 rfl rfl rfl ?_
  refine ok_getR 4 dX11_feed_1 rfl rfl F_Encores_44 sg_0 rfl (Nat.le_of_ble_eq_true rfl) rfl rfl ?_
  refine ok_bipush 6 20 dX11_feed_4 rfl rfl ?_
  refine ok_callVi (np := 1) (M' := m_X10_hasRoom) (As := [.int 20]) (st := []) 9 dX11_feed_6 rfl rfl km_X10_hasRoom ki_X10_hasRoom kv_X10_hasRoom ml_Encores_168 (by decide) sg_99 rfl (Nat.le_of_ble_eq_true rfl) rfl rfl rfl (Nat.le_of_ble_eq_true rfl) (c_X10_hasRoom N (d + 0) 20 m) ⟨Nat.le_refl _, Nat.le_refl _⟩ (Or.inl rfl) rfl (fun r_6 m_6 _ => ?_)
  refine ok_if_ne 14 12 dX11_feed_9 (by decide) rfl (fun _ => ?_) (fun _ => ?_)
  · refine ok_aload_n 15 0 dX11_feed_14 rfl rfl rfl ?_
    refine ok_getR 18 dX11_feed_15 rfl rfl F_Encores_44 sg_0 rfl (Nat.le_of_ble_eq_true rfl) rfl rfl ?_
    refine ok_iload_n 19 1 dX11_feed_18 rfl rfl rfl ?_
    refine ok_callVv (np := 1) (M' := m_X10_append) (As := [.int a1]) (st := []) 22 dX11_feed_19 rfl rfl km_X10_append ki_X10_append kv_X10_append ml_Encores_171 (by decide) sg_99 rfl (Nat.le_of_ble_eq_true rfl) rfl rfl rfl (Nat.le_of_ble_eq_true rfl) (c_X10_append N (d + 0) a1 m_6) ⟨Nat.le_refl _, Nat.le_refl _⟩ (Or.inl rfl) rfl (fun _ m_19 _ => ?_)
    refine ok_aload_n 23 0 dX11_feed_22 rfl rfl rfl ?_
    refine ok_getR 26 dX11_feed_23 rfl rfl F_Encores_44 sg_0 rfl (Nat.le_of_ble_eq_true rfl) rfl rfl ?_
    refine ok_iload_n 27 2 dX11_feed_26 rfl rfl rfl ?_
    refine ok_callVv (np := 1) (M' := m_X10_append) (As := [.int a2]) (st := []) 30 dX11_feed_27 rfl rfl km_X10_append ki_X10_append kv_X10_append ml_Encores_171 (by decide) sg_99 rfl (Nat.le_of_ble_eq_true rfl) rfl rfl rfl (Nat.le_of_ble_eq_true rfl) (c_X10_append N (d + 0) a2 m_19) ⟨Nat.le_refl _, Nat.le_refl _⟩ (Or.inl rfl) rfl (fun _ m_27 _ => ?_)
    refine ok_aload_n 31 0 dX11_feed_30 rfl rfl rfl ?_
    refine ok_getR 34 dX11_feed_31 rfl rfl F_Encores_44 sg_0 rfl (Nat.le_of_ble_eq_true rfl) rfl rfl ?_
    refine ok_iload_n 35 3 dX11_feed_34 rfl rfl rfl ?_
    refine ok_callVv (np := 1) (M' := m_X10_append) (As := [.int a3]) (st := []) 38 dX11_feed_35 rfl rfl km_X10_append ki_X10_append kv_X10_append ml_Encores_171 (by decide) sg_99 rfl (Nat.le_of_ble_eq_true rfl) rfl rfl rfl (Nat.le_of_ble_eq_true rfl) (c_X10_append N (d + 0) a3 m_27) ⟨Nat.le_refl _, Nat.le_refl _⟩ (Or.inl rfl) rfl (fun _ m_35 _ => ?_)
    refine ok_aload_n 39 0 dX11_feed_38 rfl rfl rfl ?_
    refine ok_getR 42 dX11_feed_39 rfl rfl F_Encores_44 sg_0 rfl (Nat.le_of_ble_eq_true rfl) rfl rfl ?_
    refine ok_iload 44 4 dX11_feed_42 rfl rfl ?_
    refine ok_callVv (np := 1) (M' := m_X10_append) (As := [.int a4]) (st := []) 47 dX11_feed_44 rfl rfl km_X10_append ki_X10_append kv_X10_append ml_Encores_171 (by decide) sg_99 rfl (Nat.le_of_ble_eq_true rfl) rfl rfl rfl (Nat.le_of_ble_eq_true rfl) (c_X10_append N (d + 0) a4 m_35) ⟨Nat.le_refl _, Nat.le_refl _⟩ (Or.inl rfl) rfl (fun _ m_44 _ => ?_)
    refine ok_aload_n 48 0 dX11_feed_47 rfl rfl rfl ?_
    refine ok_getR 51 dX11_feed_48 rfl rfl F_Encores_44 sg_0 rfl (Nat.le_of_ble_eq_true rfl) rfl rfl ?_
    refine ok_iload 53 5 dX11_feed_51 rfl rfl ?_
    refine ok_callVv (np := 1) (M' := m_X10_append) (As := [.int a5]) (st := []) 56 dX11_feed_53 rfl rfl km_X10_append ki_X10_append kv_X10_append ml_Encores_171 (by decide) sg_99 rfl (Nat.le_of_ble_eq_true rfl) rfl rfl rfl (Nat.le_of_ble_eq_true rfl) (c_X10_append N (d + 0) a5 m_44) ⟨Nat.le_refl _, Nat.le_refl _⟩ (Or.inl rfl) rfl (fun _ m_53 _ => ?_)
    refine ok_aload_n 57 0 dX11_feed_56 rfl rfl rfl ?_
    refine ok_getR 60 dX11_feed_57 rfl rfl F_Encores_44 sg_0 rfl (Nat.le_of_ble_eq_true rfl) rfl rfl ?_
    refine ok_getI 63 dX11_feed_60 rfl rfl F_Encores_175 sg_99 rfl (Nat.le_of_ble_eq_true rfl) rfl ?_
    exact ok_iret dX11_feed_63 rfl
  · refine ok_iconst 13 (-1) dX11_feed_12 rfl rfl ?_
    exact ok_iret dX11_feed_13 rfl

theorem c_X11_feed (N d : Nat) (a1 : Int32) (a2 : Int32) (a3 : Int32) (a4 : Int32) (a5 : Int32)  (m : Mem) : CM (d + 1) m_X11_feed SG SG [.ref 0, .int a1, .int a2, .int a3, .int a4, .int a5] m (f_X11_feed N a1 a2 a3 a4 a5 m) :=
  CM.ofOk km_X11_feed ⟨Nat.le_refl _, Nat.le_refl _⟩ (by simp [Value.category]) (Nat.le_of_ble_eq_true rfl) (ok_X11_feed N d a1 a2 a3 a4 a5 m)

def f_X11_end (N : Nat) (a1 : Int32) (m : Mem) : Ans :=
bd (f_X11_within N a1 0 (m 99 2) m) fun r_9 m_9 =>
if r_9 = 0 then (some (0, m_9))
else (bnd (mset m_9 99 2 a1) fun m_22 =>
some (1, m_22))

set_option maxRecDepth 100000 in
set_option maxHeartbeats 4000000 in
theorem ok_X11_end (N d : Nat) (a1 : Int32)  (m : Mem) : Ok none SG (d + 1) m_X11_end 0 [some (.ref 0), some (.int a1)] [] SG m (f_X11_end N a1 m) := by
  unfold f_X11_end
  refine ok_iload_n 1 1 dX11_end_0 rfl rfl rfl ?_
  refine ok_iconst 2 0 dX11_end_1 rfl rfl ?_
  refine ok_aload_n 3 0 dX11_end_2 rfl rfl rfl ?_
  refine ok_getR 6 dX11_end_3 rfl rfl F_Encores_44 sg_0 rfl (Nat.le_of_ble_eq_true rfl) rfl rfl ?_
  refine ok_getI 9 dX11_end_6 rfl rfl F_Encores_175 sg_99 rfl (Nat.le_of_ble_eq_true rfl) rfl ?_
  refine ok_callSi (np := 3) (M' := m_X11_within) (As := [.int a1, .int 0, .int (m 99 2)]) (st := []) 12 dX11_end_9 rfl rfl km_X11_within ks_X11_within ml_Encores_109 (by decide) rfl rfl (Nat.le_of_ble_eq_true rfl) (c_X11_within N (d + 0) a1 0 (m 99 2) m) ⟨Nat.le_refl _, Nat.le_refl _⟩ (Or.inl rfl) rfl (fun r_9 m_9 _ => ?_)
  refine ok_if_ne 17 15 dX11_end_12 (by decide) rfl (fun _ => ?_) (fun _ => ?_)
  · refine ok_aload_n 18 0 dX11_end_17 rfl rfl rfl ?_
    refine ok_getR 21 dX11_end_18 rfl rfl F_Encores_44 sg_0 rfl (Nat.le_of_ble_eq_true rfl) rfl rfl ?_
    refine ok_iload_n 22 1 dX11_end_21 rfl rfl rfl ?_
    refine ok_putI 25 dX11_end_22 rfl rfl F_Encores_175 sg_99 rfl (Nat.le_of_ble_eq_true rfl) rfl rfl pZ_10_2 rfl rfl ?_
    refine ok_bndM (fun m_22 => ?_)
    refine ok_iconst 26 1 dX11_end_25 rfl rfl ?_
    exact ok_zretc dX11_end_26 rfl rfl
  · refine ok_iconst 16 0 dX11_end_15 rfl rfl ?_
    exact ok_zretc dX11_end_16 rfl rfl

theorem c_X11_end (N d : Nat) (a1 : Int32)  (m : Mem) : CM (d + 1) m_X11_end SG SG [.ref 0, .int a1] m (f_X11_end N a1 m) :=
  CM.ofOk km_X11_end ⟨Nat.le_refl _, Nat.le_refl _⟩ (by simp [Value.category]) (Nat.le_of_ble_eq_true rfl) (ok_X11_end N d a1 m)

def f_X11_text (N : Nat) (a1 : Int32) (m : Mem) : Ans :=
bd (f_X6_read N a1 (m 3 3) (m 5 3) m) fun _ m_25 =>
bnd (mset m_25 99 2 0) fun m_33 =>
bd (f_X11_within N a1 0 3 m_33) fun r_39 m_39 =>
if r_39 = 0 then (some ((-1), m_39))
else (if (m_39 103 3) = 0 then (bd (f_X1_takeText N a1 m_39) fun _ m_76 =>
if a1 = 0 then (some (m_76 104 3, m_76))
else (bd (f_X4_forget N m_76) fun _ m_87 =>
some (m_87 104 3, m_87)))
else (some ((-1), m_39)))

set_option maxRecDepth 100000 in
set_option maxHeartbeats 4000000 in
theorem ok_X11_text (N d : Nat) (a1 : Int32)  (m : Mem) : Ok none SG (d + 9) m_X11_text 0 [some (.ref 0), some (.int a1)] [] SG m (f_X11_text N a1 m) := by
  unfold f_X11_text
  refine ok_aload_n 1 0 dX11_text_0 rfl rfl rfl ?_
  refine ok_getR 4 dX11_text_1 rfl rfl F_Encores_53 sg_0 rfl (Nat.le_of_ble_eq_true rfl) rfl rfl ?_
  refine ok_iload_n 5 1 dX11_text_4 rfl rfl rfl ?_
  refine ok_aload_n 6 0 dX11_text_5 rfl rfl rfl ?_
  refine ok_getR 9 dX11_text_6 rfl rfl F_Encores_16 sg_0 rfl (Nat.le_of_ble_eq_true rfl) rfl rfl ?_
  refine ok_getR 12 dX11_text_9 rfl rfl F_Encores_113 sg_2 rfl (Nat.le_of_ble_eq_true rfl) rfl rfl ?_
  refine ok_getI 15 dX11_text_12 rfl rfl F_Encores_117 sg_3 rfl (Nat.le_of_ble_eq_true rfl) rfl ?_
  refine ok_aload_n 16 0 dX11_text_15 rfl rfl rfl ?_
  refine ok_getR 19 dX11_text_16 rfl rfl F_Encores_16 sg_0 rfl (Nat.le_of_ble_eq_true rfl) rfl rfl ?_
  refine ok_getR 22 dX11_text_19 rfl rfl F_Encores_131 sg_2 rfl (Nat.le_of_ble_eq_true rfl) rfl rfl ?_
  refine ok_getI 25 dX11_text_22 rfl rfl F_Encores_117 sg_5 rfl (Nat.le_of_ble_eq_true rfl) rfl ?_
  refine ok_callVv (np := 3) (M' := m_X6_read) (As := [.int a1, .int (m 3 3), .int (m 5 3)]) (st := []) 28 dX11_text_25 rfl rfl km_X6_read ki_X6_read kv_X6_read ml_Encores_178 (by decide) sg_103 rfl (Nat.le_of_ble_eq_true rfl) rfl rfl rfl (Nat.le_of_ble_eq_true rfl) (c_X6_read N (d + 0) a1 (m 3 3) (m 5 3) m) ⟨Nat.le_refl _, Nat.le_refl _⟩ (Or.inl rfl) rfl (fun _ m_25 _ => ?_)
  refine ok_aload_n 29 0 dX11_text_28 rfl rfl rfl ?_
  refine ok_getR 32 dX11_text_29 rfl rfl F_Encores_44 sg_0 rfl (Nat.le_of_ble_eq_true rfl) rfl rfl ?_
  refine ok_iconst 33 0 dX11_text_32 rfl rfl ?_
  refine ok_putI 36 dX11_text_33 rfl rfl F_Encores_175 sg_99 rfl (Nat.le_of_ble_eq_true rfl) rfl rfl pZ_10_2 rfl rfl ?_
  refine ok_bndM (fun m_33 => ?_)
  refine ok_iload_n 37 1 dX11_text_36 rfl rfl rfl ?_
  refine ok_iconst 38 0 dX11_text_37 rfl rfl ?_
  refine ok_iconst 39 3 dX11_text_38 rfl rfl ?_
  refine ok_callSi (np := 3) (M' := m_X11_within) (As := [.int a1, .int 0, .int 3]) (st := []) 42 dX11_text_39 rfl rfl km_X11_within ks_X11_within ml_Encores_109 (by decide) rfl rfl (Nat.le_of_ble_eq_true rfl) (c_X11_within N (d + 8) a1 0 3 m_33) ⟨Nat.le_refl _, Nat.le_refl _⟩ (Or.inl rfl) rfl (fun r_39 m_39 _ => ?_)
  refine ok_if_eq 55 45 dX11_text_42 (by decide) rfl (fun _ => ?_) (fun _ => ?_)
  · refine ok_iconst 56 (-1) dX11_text_55 rfl rfl ?_
    exact ok_iret dX11_text_56 rfl
  · refine ok_aload_n 46 0 dX11_text_45 rfl rfl rfl ?_
    refine ok_getR 49 dX11_text_46 rfl rfl F_Encores_53 sg_0 rfl (Nat.le_of_ble_eq_true rfl) rfl rfl ?_
    refine ok_getI 52 dX11_text_49 rfl rfl F_Encores_181 sg_103 rfl (Nat.le_of_ble_eq_true rfl) rfl ?_
    refine ok_if_eq 57 55 dX11_text_52 (by decide) rfl (fun _ => ?_) (fun _ => ?_)
    · refine ok_aload_n 58 0 dX11_text_57 rfl rfl rfl ?_
      refine ok_getR 61 dX11_text_58 rfl rfl F_Encores_16 sg_0 rfl (Nat.le_of_ble_eq_true rfl) rfl rfl ?_
      refine ok_iload_n 62 1 dX11_text_61 rfl rfl rfl ?_
      refine ok_aload_n 63 0 dX11_text_62 rfl rfl rfl ?_
      refine ok_getR 66 dX11_text_63 rfl rfl F_Encores_53 sg_0 rfl (Nat.le_of_ble_eq_true rfl) rfl rfl ?_
      refine ok_getR 69 dX11_text_66 rfl rfl F_Encores_184 sg_103 rfl (Nat.le_of_ble_eq_true rfl) rfl rfl ?_
      refine ok_aload_n 70 0 dX11_text_69 rfl rfl rfl ?_
      refine ok_getR 73 dX11_text_70 rfl rfl F_Encores_53 sg_0 rfl (Nat.le_of_ble_eq_true rfl) rfl rfl ?_
      refine ok_getR 76 dX11_text_73 rfl rfl F_Encores_186 sg_103 rfl (Nat.le_of_ble_eq_true rfl) rfl rfl ?_
      refine ok_callVv (np := 3) (M' := m_X1_takeText) (As := [.int a1, .ref 104, .ref 106]) (st := []) 79 dX11_text_76 rfl rfl km_X1_takeText ki_X1_takeText kv_X1_takeText ml_Encores_189 (by decide) sg_2 rfl (Nat.le_of_ble_eq_true rfl) rfl rfl rfl (Nat.le_of_ble_eq_true rfl) (c_X1_takeText N (d + 6) a1 m_39) ⟨Nat.le_refl _, Nat.le_refl _⟩ (Or.inl rfl) rfl (fun _ m_76 _ => ?_)
      refine ok_iload_n 80 1 dX11_text_79 rfl rfl rfl ?_
      refine ok_if_eq 90 83 dX11_text_80 (by decide) rfl (fun _ => ?_) (fun _ => ?_)
      · refine ok_aload_n 91 0 dX11_text_90 rfl rfl rfl ?_
        refine ok_getR 94 dX11_text_91 rfl rfl F_Encores_53 sg_0 rfl (Nat.le_of_ble_eq_true rfl) rfl rfl ?_
        refine ok_getR 97 dX11_text_94 rfl rfl F_Encores_184 sg_103 rfl (Nat.le_of_ble_eq_true rfl) rfl rfl ?_
        refine ok_getI 100 dX11_text_97 rfl rfl F_Encores_117 sg_104 rfl (Nat.le_of_ble_eq_true rfl) rfl ?_
        exact ok_iret dX11_text_100 rfl
      · refine ok_aload_n 84 0 dX11_text_83 rfl rfl rfl ?_
        refine ok_getR 87 dX11_text_84 rfl rfl F_Encores_30 sg_0 rfl (Nat.le_of_ble_eq_true rfl) rfl rfl ?_
        refine ok_callVv (np := 0) (M' := m_X4_forget) (As := []) (st := []) 90 dX11_text_87 rfl rfl km_X4_forget ki_X4_forget kv_X4_forget ml_Encores_106 (by decide) sg_48 rfl (Nat.le_of_ble_eq_true rfl) rfl rfl rfl (Nat.le_of_ble_eq_true rfl) (c_X4_forget N (d + 8) m_76) ⟨Nat.le_refl _, Nat.le_refl _⟩ (Or.inl rfl) rfl (fun _ m_87 _ => ?_)
        refine ok_aload_n 91 0 dX11_text_90 rfl rfl rfl ?_
        refine ok_getR 94 dX11_text_91 rfl rfl F_Encores_53 sg_0 rfl (Nat.le_of_ble_eq_true rfl) rfl rfl ?_
        refine ok_getR 97 dX11_text_94 rfl rfl F_Encores_184 sg_103 rfl (Nat.le_of_ble_eq_true rfl) rfl rfl ?_
        refine ok_getI 100 dX11_text_97 rfl rfl F_Encores_117 sg_104 rfl (Nat.le_of_ble_eq_true rfl) rfl ?_
        exact ok_iret dX11_text_100 rfl
    · refine ok_iconst 56 (-1) dX11_text_55 rfl rfl ?_
      exact ok_iret dX11_text_56 rfl

theorem c_X11_text (N d : Nat) (a1 : Int32)  (m : Mem) : CM (d + 9) m_X11_text SG SG [.ref 0, .int a1] m (f_X11_text N a1 m) :=
  CM.ofOk km_X11_text ⟨Nat.le_refl _, Nat.le_refl _⟩ (by simp [Value.category]) (Nat.le_of_ble_eq_true rfl) (ok_X11_text N d a1 m)

def f_X11_fault (N : Nat) (a1 : Int32) (m : Mem) : Ans :=
if a1 = 0 then (some (m 103 3, m))
else (if a1 = (1 : Int32) then (some (m 103 4, m))
else (some ((-1), m)))

set_option maxRecDepth 100000 in
set_option maxHeartbeats 4000000 in
theorem ok_X11_fault (N d : Nat) (a1 : Int32)  (m : Mem) : Ok none SG (d + 0) m_X11_fault 0 [some (.ref 0), some (.int a1)] [] SG m (f_X11_fault N a1 m) := by
  unfold f_X11_fault
  refine ok_iload_n 1 1 dX11_fault_0 rfl rfl rfl ?_
  refine ok_if_ne 12 4 dX11_fault_1 (by decide) rfl (fun _ => ?_) (fun _ => ?_)
  · refine ok_iload_n 13 1 dX11_fault_12 rfl rfl rfl ?_
    refine ok_iconst 14 1 dX11_fault_13 rfl rfl ?_
    refine ok_icmp_ne 27 17 dX11_fault_14 (by decide) rfl (fun _ => ?_) (fun _ => ?_)
    · refine ok_iconst 28 (-1) dX11_fault_27 rfl rfl ?_
      exact ok_iret dX11_fault_28 rfl
    · refine ok_aload_n 18 0 dX11_fault_17 rfl rfl rfl ?_
      refine ok_getR 21 dX11_fault_18 rfl rfl F_Encores_53 sg_0 rfl (Nat.le_of_ble_eq_true rfl) rfl rfl ?_
      refine ok_getI 24 dX11_fault_21 rfl rfl F_Encores_193 sg_103 rfl (Nat.le_of_ble_eq_true rfl) rfl ?_
      refine ok_goto 28 dX11_fault_24 (by decide) ?_
      exact ok_iret dX11_fault_28 rfl
  · refine ok_aload_n 5 0 dX11_fault_4 rfl rfl rfl ?_
    refine ok_getR 8 dX11_fault_5 rfl rfl F_Encores_53 sg_0 rfl (Nat.le_of_ble_eq_true rfl) rfl rfl ?_
    refine ok_getI 11 dX11_fault_8 rfl rfl F_Encores_181 sg_103 rfl (Nat.le_of_ble_eq_true rfl) rfl ?_
    exact ok_iret dX11_fault_11 rfl

theorem c_X11_fault (N d : Nat) (a1 : Int32)  (m : Mem) : CM (d + 0) m_X11_fault SG SG [.ref 0, .int a1] m (f_X11_fault N a1 m) :=
  CM.ofOk km_X11_fault ⟨Nat.le_refl _, Nat.le_refl _⟩ (by simp [Value.category]) (Nat.le_of_ble_eq_true rfl) (ok_X11_fault N d a1 m)

def f_X11_of (N : Nat) (a1 : Int32) (a2 : Int32) (m : Mem) : Ans :=
bd (f_X9_has N 3 a1 m) fun r_8 m_8 =>
if r_8 = 0 then (some ((-1), m_8))
else (if (10 : Int32) ≤ a2 then (bd (f_X9_has N 5 (a2 - (10 : Int32)) m_8) fun r_46 m_46 =>
if r_46 = 0 then (some ((-1), m_46))
else (bd (f_X2_clap N a1 (a2 - (10 : Int32)) 0 m_46) fun r_62 m_62 =>
some (r_62, m_62)))
else (bd (f_X9_at N 3 a1 a2 m_8) fun r_31 m_31 =>
some (r_31, m_31)))

set_option maxRecDepth 100000 in
set_option maxHeartbeats 4000000 in
theorem ok_X11_of (N d : Nat) (a1 : Int32) (a2 : Int32)  (m : Mem) : Ok none SG (d + 4) m_X11_of 0 [some (.ref 0), some (.int a1), some (.int a2)] [] SG m (f_X11_of N a1 a2 m) := by
  unfold f_X11_of
  refine ok_aload_n 1 0 dX11_of_0 rfl rfl rfl ?_
  refine ok_getR 4 dX11_of_1 rfl rfl F_Encores_16 sg_0 rfl (Nat.le_of_ble_eq_true rfl) rfl rfl ?_
  refine ok_getR 7 dX11_of_4 rfl rfl F_Encores_113 sg_2 rfl (Nat.le_of_ble_eq_true rfl) rfl rfl ?_
  refine ok_iload_n 8 1 dX11_of_7 rfl rfl rfl ?_
  refine ok_callVi (np := 1) (M' := m_X9_has) (As := [.int a1]) (st := []) 11 dX11_of_8 rfl rfl km_X9_has ki_X9_has kv_X9_has ml_Encores_138 (by decide) sg_3 rfl (Nat.le_of_ble_eq_true rfl) rfl rfl rfl (Nat.le_of_ble_eq_true rfl) (c_X9_has N (d + 3) 3 a1 tg_3 m) ⟨Nat.le_refl _, Nat.le_refl _⟩ (Or.inl rfl) rfl (fun r_8 m_8 _ => ?_)
  refine ok_if_ne 16 14 dX11_of_11 (by decide) rfl (fun _ => ?_) (fun _ => ?_)
  · refine ok_iload_n 17 2 dX11_of_16 rfl rfl rfl ?_
    refine ok_bipush 19 10 dX11_of_17 rfl rfl ?_
    refine ok_icmp_ge 35 22 dX11_of_19 (by decide) rfl (fun _ => ?_) (fun _ => ?_)
    · refine ok_aload_n 36 0 dX11_of_35 rfl rfl rfl ?_
      refine ok_getR 39 dX11_of_36 rfl rfl F_Encores_16 sg_0 rfl (Nat.le_of_ble_eq_true rfl) rfl rfl ?_
      refine ok_getR 42 dX11_of_39 rfl rfl F_Encores_131 sg_2 rfl (Nat.le_of_ble_eq_true rfl) rfl rfl ?_
      refine ok_iload_n 43 2 dX11_of_42 rfl rfl rfl ?_
      refine ok_bipush 45 10 dX11_of_43 rfl rfl ?_
      refine ok_isub 46 dX11_of_45 rfl ?_
      refine ok_callVi (np := 1) (M' := m_X9_has) (As := [.int (a2 - (10 : Int32))]) (st := []) 49 dX11_of_46 rfl rfl km_X9_has ki_X9_has kv_X9_has ml_Encores_138 (by decide) sg_5 rfl (Nat.le_of_ble_eq_true rfl) rfl rfl rfl (Nat.le_of_ble_eq_true rfl) (c_X9_has N (d + 3) 5 (a2 - (10 : Int32)) tg_5 m_8) ⟨Nat.le_refl _, Nat.le_refl _⟩ (Or.inl rfl) rfl (fun r_46 m_46 _ => ?_)
      refine ok_if_eq 68 52 dX11_of_49 (by decide) rfl (fun _ => ?_) (fun _ => ?_)
      · refine ok_iconst 69 (-1) dX11_of_68 rfl rfl ?_
        exact ok_iret dX11_of_69 rfl
      · refine ok_aload_n 53 0 dX11_of_52 rfl rfl rfl ?_
        refine ok_getR 56 dX11_of_53 rfl rfl F_Encores_62 sg_0 rfl (Nat.le_of_ble_eq_true rfl) rfl rfl ?_
        refine ok_iload_n 57 1 dX11_of_56 rfl rfl rfl ?_
        refine ok_iload_n 58 2 dX11_of_57 rfl rfl rfl ?_
        refine ok_bipush 60 10 dX11_of_58 rfl rfl ?_
        refine ok_isub 61 dX11_of_60 rfl ?_
        refine ok_iconst 62 0 dX11_of_61 rfl rfl ?_
        refine ok_callVi (np := 3) (M' := m_X2_clap) (As := [.int a1, .int (a2 - (10 : Int32)), .int 0]) (st := []) 65 dX11_of_62 rfl rfl km_X2_clap ki_X2_clap kv_X2_clap ml_Encores_196 (by decide) sg_110 rfl (Nat.le_of_ble_eq_true rfl) rfl rfl rfl (Nat.le_of_ble_eq_true rfl) (c_X2_clap N (d + 0) a1 (a2 - (10 : Int32)) 0 m_46) ⟨Nat.le_refl _, Nat.le_refl _⟩ (Or.inl rfl) rfl (fun r_62 m_62 _ => ?_)
        refine ok_goto 69 dX11_of_65 (by decide) ?_
        exact ok_iret dX11_of_69 rfl
    · refine ok_aload_n 23 0 dX11_of_22 rfl rfl rfl ?_
      refine ok_getR 26 dX11_of_23 rfl rfl F_Encores_16 sg_0 rfl (Nat.le_of_ble_eq_true rfl) rfl rfl ?_
      refine ok_getR 29 dX11_of_26 rfl rfl F_Encores_113 sg_2 rfl (Nat.le_of_ble_eq_true rfl) rfl rfl ?_
      refine ok_iload_n 30 1 dX11_of_29 rfl rfl rfl ?_
      refine ok_iload_n 31 2 dX11_of_30 rfl rfl rfl ?_
      refine ok_callVi (np := 2) (M' := m_X9_at) (As := [.int a1, .int a2]) (st := []) 34 dX11_of_31 rfl rfl km_X9_at ki_X9_at kv_X9_at ml_Encores_142 (by decide) sg_3 rfl (Nat.le_of_ble_eq_true rfl) rfl rfl rfl (Nat.le_of_ble_eq_true rfl) (c_X9_at N (d + 3) 3 a1 a2 tg_3 m_8) ⟨Nat.le_refl _, Nat.le_refl _⟩ (Or.inl rfl) rfl (fun r_31 m_31 _ => ?_)
      exact ok_iret dX11_of_34 rfl
  · refine ok_iconst 15 (-1) dX11_of_14 rfl rfl ?_
    exact ok_iret dX11_of_15 rfl

theorem c_X11_of (N d : Nat) (a1 : Int32) (a2 : Int32)  (m : Mem) : CM (d + 4) m_X11_of SG SG [.ref 0, .int a1, .int a2] m (f_X11_of N a1 a2 m) :=
  CM.ofOk km_X11_of ⟨Nat.le_refl _, Nat.le_refl _⟩ (by simp [Value.category]) (Nat.le_of_ble_eq_true rfl) (ok_X11_of N d a1 a2 m)

def f_X11_deedOf (N : Nat) (a1 : Int32) (a2 : Int32) (m : Mem) : Ans :=
bd (f_X9_has N 5 a1 m) fun r_8 m_8 =>
if r_8 = 0 then (some ((-1), m_8))
else (if a2 = (5 : Int32) then (bd (f_X2_ofDeed N 256 a1 m_8) fun r_29 m_29 =>
some (r_29, m_29))
else (if a2 = (6 : Int32) then (bd (f_X2_ofDeed N 258 a1 m_8) fun r_47 m_47 =>
some (r_47, m_47))
else (bd (f_X9_at N 5 a1 a2 m_8) fun r_62 m_62 =>
some (r_62, m_62))))

set_option maxRecDepth 100000 in
set_option maxHeartbeats 4000000 in
theorem ok_X11_deedOf (N d : Nat) (a1 : Int32) (a2 : Int32)  (m : Mem) : Ok none SG (d + 4) m_X11_deedOf 0 [some (.ref 0), some (.int a1), some (.int a2)] [] SG m (f_X11_deedOf N a1 a2 m) := by
  unfold f_X11_deedOf
  refine ok_aload_n 1 0 dX11_deedOf_0 rfl rfl rfl ?_
  refine ok_getR 4 dX11_deedOf_1 rfl rfl F_Encores_16 sg_0 rfl (Nat.le_of_ble_eq_true rfl) rfl rfl ?_
  refine ok_getR 7 dX11_deedOf_4 rfl rfl F_Encores_131 sg_2 rfl (Nat.le_of_ble_eq_true rfl) rfl rfl ?_
  refine ok_iload_n 8 1 dX11_deedOf_7 rfl rfl rfl ?_
  refine ok_callVi (np := 1) (M' := m_X9_has) (As := [.int a1]) (st := []) 11 dX11_deedOf_8 rfl rfl km_X9_has ki_X9_has kv_X9_has ml_Encores_138 (by decide) sg_5 rfl (Nat.le_of_ble_eq_true rfl) rfl rfl rfl (Nat.le_of_ble_eq_true rfl) (c_X9_has N (d + 3) 5 a1 tg_5 m) ⟨Nat.le_refl _, Nat.le_refl _⟩ (Or.inl rfl) rfl (fun r_8 m_8 _ => ?_)
  refine ok_if_ne 16 14 dX11_deedOf_11 (by decide) rfl (fun _ => ?_) (fun _ => ?_)
  · refine ok_iload_n 17 2 dX11_deedOf_16 rfl rfl rfl ?_
    refine ok_iconst 18 5 dX11_deedOf_17 rfl rfl ?_
    refine ok_icmp_ne 33 21 dX11_deedOf_18 (by decide) rfl (fun _ => ?_) (fun _ => ?_)
    · refine ok_iload_n 34 2 dX11_deedOf_33 rfl rfl rfl ?_
      refine ok_bipush 36 6 dX11_deedOf_34 rfl rfl ?_
      refine ok_icmp_ne 53 39 dX11_deedOf_36 (by decide) rfl (fun _ => ?_) (fun _ => ?_)
      · refine ok_aload_n 54 0 dX11_deedOf_53 rfl rfl rfl ?_
        refine ok_getR 57 dX11_deedOf_54 rfl rfl F_Encores_16 sg_0 rfl (Nat.le_of_ble_eq_true rfl) rfl rfl ?_
        refine ok_getR 60 dX11_deedOf_57 rfl rfl F_Encores_131 sg_2 rfl (Nat.le_of_ble_eq_true rfl) rfl rfl ?_
        refine ok_iload_n 61 1 dX11_deedOf_60 rfl rfl rfl ?_
        refine ok_iload_n 62 2 dX11_deedOf_61 rfl rfl rfl ?_
        refine ok_callVi (np := 2) (M' := m_X9_at) (As := [.int a1, .int a2]) (st := []) 65 dX11_deedOf_62 rfl rfl km_X9_at ki_X9_at kv_X9_at ml_Encores_142 (by decide) sg_5 rfl (Nat.le_of_ble_eq_true rfl) rfl rfl rfl (Nat.le_of_ble_eq_true rfl) (c_X9_at N (d + 3) 5 a1 a2 tg_5 m_8) ⟨Nat.le_refl _, Nat.le_refl _⟩ (Or.inl rfl) rfl (fun r_62 m_62 _ => ?_)
        exact ok_iret dX11_deedOf_65 rfl
      · refine ok_aload_n 40 0 dX11_deedOf_39 rfl rfl rfl ?_
        refine ok_getR 43 dX11_deedOf_40 rfl rfl F_Encores_62 sg_0 rfl (Nat.le_of_ble_eq_true rfl) rfl rfl ?_
        refine ok_sipush 46 258 dX11_deedOf_43 rfl rfl ?_
        refine ok_iload_n 47 1 dX11_deedOf_46 rfl rfl rfl ?_
        refine ok_callVi (np := 2) (M' := m_X2_ofDeed) (As := [.int 258, .int a1]) (st := []) 50 dX11_deedOf_47 rfl rfl km_X2_ofDeed ki_X2_ofDeed kv_X2_ofDeed ml_Encores_200 (by decide) sg_110 rfl (Nat.le_of_ble_eq_true rfl) rfl rfl rfl (Nat.le_of_ble_eq_true rfl) (c_X2_ofDeed N (d + 0) 258 a1 m_8) ⟨Nat.le_refl _, Nat.le_refl _⟩ (Or.inl rfl) rfl (fun r_47 m_47 _ => ?_)
        refine ok_goto 65 dX11_deedOf_50 (by decide) ?_
        exact ok_iret dX11_deedOf_65 rfl
    · refine ok_aload_n 22 0 dX11_deedOf_21 rfl rfl rfl ?_
      refine ok_getR 25 dX11_deedOf_22 rfl rfl F_Encores_62 sg_0 rfl (Nat.le_of_ble_eq_true rfl) rfl rfl ?_
      refine ok_sipush 28 256 dX11_deedOf_25 rfl rfl ?_
      refine ok_iload_n 29 1 dX11_deedOf_28 rfl rfl rfl ?_
      refine ok_callVi (np := 2) (M' := m_X2_ofDeed) (As := [.int 256, .int a1]) (st := []) 32 dX11_deedOf_29 rfl rfl km_X2_ofDeed ki_X2_ofDeed kv_X2_ofDeed ml_Encores_200 (by decide) sg_110 rfl (Nat.le_of_ble_eq_true rfl) rfl rfl rfl (Nat.le_of_ble_eq_true rfl) (c_X2_ofDeed N (d + 0) 256 a1 m_8) ⟨Nat.le_refl _, Nat.le_refl _⟩ (Or.inl rfl) rfl (fun r_29 m_29 _ => ?_)
      exact ok_iret dX11_deedOf_32 rfl
  · refine ok_iconst 15 (-1) dX11_deedOf_14 rfl rfl ?_
    exact ok_iret dX11_deedOf_15 rfl

theorem c_X11_deedOf (N d : Nat) (a1 : Int32) (a2 : Int32)  (m : Mem) : CM (d + 4) m_X11_deedOf SG SG [.ref 0, .int a1, .int a2] m (f_X11_deedOf N a1 a2 m) :=
  CM.ofOk km_X11_deedOf ⟨Nat.le_refl _, Nat.le_refl _⟩ (by simp [Value.category]) (Nat.le_of_ble_eq_true rfl) (ok_X11_deedOf N d a1 a2 m)

def f_X11_statute (N : Nat) (a1 : Int32) (m : Mem) : Ans :=
if a1 = 0 then (bd (f_X1_handsDue N m) fun r_8 m_8 =>
some (r_8, m_8))
else (if a1 = (1 : Int32) then (bd (f_X1_mostAgains N m) fun r_21 m_21 =>
some (r_21, m_21))
else (if a1 = (2 : Int32) then (bd (f_X1_endMinute N m) fun r_34 m_34 =>
some (r_34, m_34))
else (some ((-1), m))))

set_option maxRecDepth 100000 in
set_option maxHeartbeats 4000000 in
theorem ok_X11_statute (N d : Nat) (a1 : Int32)  (m : Mem) : Ok none SG (d + 3) m_X11_statute 0 [some (.ref 0), some (.int a1)] [] SG m (f_X11_statute N a1 m) := by
  unfold f_X11_statute
  refine ok_iload_n 1 1 dX11_statute_0 rfl rfl rfl ?_
  refine ok_if_ne 12 4 dX11_statute_1 (by decide) rfl (fun _ => ?_) (fun _ => ?_)
  · refine ok_iload_n 13 1 dX11_statute_12 rfl rfl rfl ?_
    refine ok_iconst 14 1 dX11_statute_13 rfl rfl ?_
    refine ok_icmp_ne 25 17 dX11_statute_14 (by decide) rfl (fun _ => ?_) (fun _ => ?_)
    · refine ok_iload_n 26 1 dX11_statute_25 rfl rfl rfl ?_
      refine ok_iconst 27 2 dX11_statute_26 rfl rfl ?_
      refine ok_icmp_ne 40 30 dX11_statute_27 (by decide) rfl (fun _ => ?_) (fun _ => ?_)
      · refine ok_iconst 41 (-1) dX11_statute_40 rfl rfl ?_
        exact ok_iret dX11_statute_41 rfl
      · refine ok_aload_n 31 0 dX11_statute_30 rfl rfl rfl ?_
        refine ok_getR 34 dX11_statute_31 rfl rfl F_Encores_16 sg_0 rfl (Nat.le_of_ble_eq_true rfl) rfl rfl ?_
        refine ok_callVi (np := 0) (M' := m_X1_endMinute) (As := []) (st := []) 37 dX11_statute_34 rfl rfl km_X1_endMinute ki_X1_endMinute kv_X1_endMinute ml_Encores_209 (by decide) sg_2 rfl (Nat.le_of_ble_eq_true rfl) rfl rfl rfl (Nat.le_of_ble_eq_true rfl) (c_X1_endMinute N (d + 0) m) ⟨Nat.le_refl _, Nat.le_refl _⟩ (Or.inl rfl) rfl (fun r_34 m_34 _ => ?_)
        refine ok_goto 41 dX11_statute_37 (by decide) ?_
        exact ok_iret dX11_statute_41 rfl
    · refine ok_aload_n 18 0 dX11_statute_17 rfl rfl rfl ?_
      refine ok_getR 21 dX11_statute_18 rfl rfl F_Encores_16 sg_0 rfl (Nat.le_of_ble_eq_true rfl) rfl rfl ?_
      refine ok_callVi (np := 0) (M' := m_X1_mostAgains) (As := []) (st := []) 24 dX11_statute_21 rfl rfl km_X1_mostAgains ki_X1_mostAgains kv_X1_mostAgains ml_Encores_206 (by decide) sg_2 rfl (Nat.le_of_ble_eq_true rfl) rfl rfl rfl (Nat.le_of_ble_eq_true rfl) (c_X1_mostAgains N (d + 0) m) ⟨Nat.le_refl _, Nat.le_refl _⟩ (Or.inl rfl) rfl (fun r_21 m_21 _ => ?_)
      exact ok_iret dX11_statute_24 rfl
  · refine ok_aload_n 5 0 dX11_statute_4 rfl rfl rfl ?_
    refine ok_getR 8 dX11_statute_5 rfl rfl F_Encores_16 sg_0 rfl (Nat.le_of_ble_eq_true rfl) rfl rfl ?_
    refine ok_callVi (np := 0) (M' := m_X1_handsDue) (As := []) (st := []) 11 dX11_statute_8 rfl rfl km_X1_handsDue ki_X1_handsDue kv_X1_handsDue ml_Encores_203 (by decide) sg_2 rfl (Nat.le_of_ble_eq_true rfl) rfl rfl rfl (Nat.le_of_ble_eq_true rfl) (c_X1_handsDue N (d + 1) m) ⟨Nat.le_refl _, Nat.le_refl _⟩ (Or.inl rfl) rfl (fun r_8 m_8 _ => ?_)
    exact ok_iret dX11_statute_11 rfl

theorem c_X11_statute (N d : Nat) (a1 : Int32)  (m : Mem) : CM (d + 3) m_X11_statute SG SG [.ref 0, .int a1] m (f_X11_statute N a1 m) :=
  CM.ofOk km_X11_statute ⟨Nat.le_refl _, Nat.le_refl _⟩ (by simp [Value.category]) (Nat.le_of_ble_eq_true rfl) (ok_X11_statute N d a1 m)

def f_X11_book (N : Nat) (a1 : Int32) (a2 : Int32) (m : Mem) : Ans :=
bd (f_X9_at N 9 a1 a2 m) fun r_9 m_9 =>
some (r_9, m_9)

set_option maxRecDepth 100000 in
set_option maxHeartbeats 4000000 in
theorem ok_X11_book (N d : Nat) (a1 : Int32) (a2 : Int32)  (m : Mem) : Ok none SG (d + 1) m_X11_book 0 [some (.ref 0), some (.int a1), some (.int a2)] [] SG m (f_X11_book N a1 a2 m) := by
  unfold f_X11_book
  refine ok_aload_n 1 0 dX11_book_0 rfl rfl rfl ?_
  refine ok_getR 4 dX11_book_1 rfl rfl F_Encores_16 sg_0 rfl (Nat.le_of_ble_eq_true rfl) rfl rfl ?_
  refine ok_getR 7 dX11_book_4 rfl rfl F_Encores_212 sg_2 rfl (Nat.le_of_ble_eq_true rfl) rfl rfl ?_
  refine ok_iload_n 8 1 dX11_book_7 rfl rfl rfl ?_
  refine ok_iload_n 9 2 dX11_book_8 rfl rfl rfl ?_
  refine ok_callVi (np := 2) (M' := m_X9_at) (As := [.int a1, .int a2]) (st := []) 12 dX11_book_9 rfl rfl km_X9_at ki_X9_at kv_X9_at ml_Encores_142 (by decide) sg_9 rfl (Nat.le_of_ble_eq_true rfl) rfl rfl rfl (Nat.le_of_ble_eq_true rfl) (c_X9_at N (d + 0) 9 a1 a2 tg_9 m) ⟨Nat.le_refl _, Nat.le_refl _⟩ (Or.inl rfl) rfl (fun r_9 m_9 _ => ?_)
  exact ok_iret dX11_book_12 rfl

theorem c_X11_book (N d : Nat) (a1 : Int32) (a2 : Int32)  (m : Mem) : CM (d + 1) m_X11_book SG SG [.ref 0, .int a1, .int a2] m (f_X11_book N a1 a2 m) :=
  CM.ofOk km_X11_book ⟨Nat.le_refl _, Nat.le_refl _⟩ (by simp [Value.category]) (Nat.le_of_ble_eq_true rfl) (ok_X11_book N d a1 a2 m)

def f_X11_look_J22 (N : Nat) (a1 : Int32)    (m : Mem) : Ans :=
swt (Int32.toInt a1 - (0)) [(some (m 3 3, m)),
(some (m 5 3, m)),
(some ((-100000), m)),
(some ((-100000), m)),
(some ((-100000), m)),
(some ((-100000), m)),
(some ((-100000), m)),
(some ((-100000), m)),
(bd (f_X1_those N 3 m) fun r_131 m_131 =>
some (r_131, m_131)),
(some (m 9 3, m)),
(bd (f_X1_hour N 6 m) fun r_152 m_152 =>
some (r_152, m_152)),
(some (m 11 3, m)),
(some (m 15 3, m)),
(some (m 17 3, m)),
(some (m 19 3, m)),
(some (m 21 3, m)),
(some (m 48 2, m))] (some ((-100000), m))

def f_X11_look (N : Nat) (a1 : Int32) (m : Mem) : Ans :=
if a1 < (2 : Int32) then (f_X11_look_J22 N a1 m)
else (if (7 : Int32) < a1 then (f_X11_look_J22 N a1 m)
else (bd (f_X1_hour N (a1 - (2 : Int32)) m) fun r_18 m_18 =>
some (r_18, m_18)))

set_option maxRecDepth 100000 in
set_option maxHeartbeats 4000000 in
theorem ok_X11_look_J22 (N d : Nat) (a1 : Int32)     (m : Mem) : Ok none SG (d + 2) m_X11_look 22 [some (.ref 0), some (.int a1)] [] SG m (f_X11_look_J22 N a1 m) := by
  unfold f_X11_look_J22
  refine ok_iload_n 23 1 dX11_look_22 rfl rfl rfl ?_
  refine ok_tsw 219 [104, 115, 219, 219, 219, 219, 219, 219, 126, 135, 146, 156, 167, 178, 189, 200, 211] dX11_look_23 (by decide) (by decide) (by decide) rfl ?_ ?_
  · refine And.intro ?_ (And.intro ?_ (And.intro ?_ (And.intro ?_ (And.intro ?_ (And.intro ?_ (And.intro ?_ (And.intro ?_ (And.intro ?_ (And.intro ?_ (And.intro ?_ (And.intro ?_ (And.intro ?_ (And.intro ?_ (And.intro ?_ (And.intro ?_ (And.intro ?_ (trivial)))))))))))))))))
    · refine ok_aload_n 105 0 dX11_look_104 rfl rfl rfl ?_
      refine ok_getR 108 dX11_look_105 rfl rfl F_Encores_16 sg_0 rfl (Nat.le_of_ble_eq_true rfl) rfl rfl ?_
      refine ok_getR 111 dX11_look_108 rfl rfl F_Encores_113 sg_2 rfl (Nat.le_of_ble_eq_true rfl) rfl rfl ?_
      refine ok_getI 114 dX11_look_111 rfl rfl F_Encores_117 sg_3 rfl (Nat.le_of_ble_eq_true rfl) rfl ?_
      exact ok_iret dX11_look_114 rfl
    · refine ok_aload_n 116 0 dX11_look_115 rfl rfl rfl ?_
      refine ok_getR 119 dX11_look_116 rfl rfl F_Encores_16 sg_0 rfl (Nat.le_of_ble_eq_true rfl) rfl rfl ?_
      refine ok_getR 122 dX11_look_119 rfl rfl F_Encores_131 sg_2 rfl (Nat.le_of_ble_eq_true rfl) rfl rfl ?_
      refine ok_getI 125 dX11_look_122 rfl rfl F_Encores_117 sg_5 rfl (Nat.le_of_ble_eq_true rfl) rfl ?_
      exact ok_iret dX11_look_125 rfl
    · refine ok_ldc 221 (-100000) dX11_look_219 rfl rfl cn_Encores_235 ?_
      exact ok_iret dX11_look_221 rfl
    · refine ok_ldc 221 (-100000) dX11_look_219 rfl rfl cn_Encores_235 ?_
      exact ok_iret dX11_look_221 rfl
    · refine ok_ldc 221 (-100000) dX11_look_219 rfl rfl cn_Encores_235 ?_
      exact ok_iret dX11_look_221 rfl
    · refine ok_ldc 221 (-100000) dX11_look_219 rfl rfl cn_Encores_235 ?_
      exact ok_iret dX11_look_221 rfl
    · refine ok_ldc 221 (-100000) dX11_look_219 rfl rfl cn_Encores_235 ?_
      exact ok_iret dX11_look_221 rfl
    · refine ok_ldc 221 (-100000) dX11_look_219 rfl rfl cn_Encores_235 ?_
      exact ok_iret dX11_look_221 rfl
    · refine ok_aload_n 127 0 dX11_look_126 rfl rfl rfl ?_
      refine ok_getR 130 dX11_look_127 rfl rfl F_Encores_16 sg_0 rfl (Nat.le_of_ble_eq_true rfl) rfl rfl ?_
      refine ok_iconst 131 3 dX11_look_130 rfl rfl ?_
      refine ok_callVi (np := 1) (M' := m_X1_those) (As := [.int 3]) (st := []) 134 dX11_look_131 rfl rfl km_X1_those ki_X1_those kv_X1_those ml_Encores_215 (by decide) sg_2 rfl (Nat.le_of_ble_eq_true rfl) rfl rfl rfl (Nat.le_of_ble_eq_true rfl) (c_X1_those N (d + 0) 3 m) ⟨Nat.le_refl _, Nat.le_refl _⟩ (Or.inl rfl) rfl (fun r_131 m_131 _ => ?_)
      exact ok_iret dX11_look_134 rfl
    · refine ok_aload_n 136 0 dX11_look_135 rfl rfl rfl ?_
      refine ok_getR 139 dX11_look_136 rfl rfl F_Encores_16 sg_0 rfl (Nat.le_of_ble_eq_true rfl) rfl rfl ?_
      refine ok_getR 142 dX11_look_139 rfl rfl F_Encores_212 sg_2 rfl (Nat.le_of_ble_eq_true rfl) rfl rfl ?_
      refine ok_getI 145 dX11_look_142 rfl rfl F_Encores_117 sg_9 rfl (Nat.le_of_ble_eq_true rfl) rfl ?_
      exact ok_iret dX11_look_145 rfl
    · refine ok_aload_n 147 0 dX11_look_146 rfl rfl rfl ?_
      refine ok_getR 150 dX11_look_147 rfl rfl F_Encores_16 sg_0 rfl (Nat.le_of_ble_eq_true rfl) rfl rfl ?_
      refine ok_bipush 152 6 dX11_look_150 rfl rfl ?_
      refine ok_callVi (np := 1) (M' := m_X1_hour) (As := [.int 6]) (st := []) 155 dX11_look_152 rfl rfl km_X1_hour ki_X1_hour kv_X1_hour ml_Encores_98 (by decide) sg_2 rfl (Nat.le_of_ble_eq_true rfl) rfl rfl rfl (Nat.le_of_ble_eq_true rfl) (c_X1_hour N (d + 0) 6 m) ⟨Nat.le_refl _, Nat.le_refl _⟩ (Or.inl rfl) rfl (fun r_152 m_152 _ => ?_)
      exact ok_iret dX11_look_155 rfl
    · refine ok_aload_n 157 0 dX11_look_156 rfl rfl rfl ?_
      refine ok_getR 160 dX11_look_157 rfl rfl F_Encores_16 sg_0 rfl (Nat.le_of_ble_eq_true rfl) rfl rfl ?_
      refine ok_getR 163 dX11_look_160 rfl rfl F_Encores_218 sg_2 rfl (Nat.le_of_ble_eq_true rfl) rfl rfl ?_
      refine ok_getI 166 dX11_look_163 rfl rfl F_Encores_117 sg_11 rfl (Nat.le_of_ble_eq_true rfl) rfl ?_
      exact ok_iret dX11_look_166 rfl
    · refine ok_aload_n 168 0 dX11_look_167 rfl rfl rfl ?_
      refine ok_getR 171 dX11_look_168 rfl rfl F_Encores_16 sg_0 rfl (Nat.le_of_ble_eq_true rfl) rfl rfl ?_
      refine ok_getR 174 dX11_look_171 rfl rfl F_Encores_221 sg_2 rfl (Nat.le_of_ble_eq_true rfl) rfl rfl ?_
      refine ok_getI 177 dX11_look_174 rfl rfl F_Encores_117 sg_15 rfl (Nat.le_of_ble_eq_true rfl) rfl ?_
      exact ok_iret dX11_look_177 rfl
    · refine ok_aload_n 179 0 dX11_look_178 rfl rfl rfl ?_
      refine ok_getR 182 dX11_look_179 rfl rfl F_Encores_16 sg_0 rfl (Nat.le_of_ble_eq_true rfl) rfl rfl ?_
      refine ok_getR 185 dX11_look_182 rfl rfl F_Encores_224 sg_2 rfl (Nat.le_of_ble_eq_true rfl) rfl rfl ?_
      refine ok_getI 188 dX11_look_185 rfl rfl F_Encores_117 sg_17 rfl (Nat.le_of_ble_eq_true rfl) rfl ?_
      exact ok_iret dX11_look_188 rfl
    · refine ok_aload_n 190 0 dX11_look_189 rfl rfl rfl ?_
      refine ok_getR 193 dX11_look_190 rfl rfl F_Encores_16 sg_0 rfl (Nat.le_of_ble_eq_true rfl) rfl rfl ?_
      refine ok_getR 196 dX11_look_193 rfl rfl F_Encores_226 sg_2 rfl (Nat.le_of_ble_eq_true rfl) rfl rfl ?_
      refine ok_getI 199 dX11_look_196 rfl rfl F_Encores_117 sg_19 rfl (Nat.le_of_ble_eq_true rfl) rfl ?_
      exact ok_iret dX11_look_199 rfl
    · refine ok_aload_n 201 0 dX11_look_200 rfl rfl rfl ?_
      refine ok_getR 204 dX11_look_201 rfl rfl F_Encores_16 sg_0 rfl (Nat.le_of_ble_eq_true rfl) rfl rfl ?_
      refine ok_getR 207 dX11_look_204 rfl rfl F_Encores_229 sg_2 rfl (Nat.le_of_ble_eq_true rfl) rfl rfl ?_
      refine ok_getI 210 dX11_look_207 rfl rfl F_Encores_117 sg_21 rfl (Nat.le_of_ble_eq_true rfl) rfl ?_
      exact ok_iret dX11_look_210 rfl
    · refine ok_aload_n 212 0 dX11_look_211 rfl rfl rfl ?_
      refine ok_getR 215 dX11_look_212 rfl rfl F_Encores_30 sg_0 rfl (Nat.le_of_ble_eq_true rfl) rfl rfl ?_
      refine ok_getI 218 dX11_look_215 rfl rfl F_Encores_232 sg_48 rfl (Nat.le_of_ble_eq_true rfl) rfl ?_
      exact ok_iret dX11_look_218 rfl
  · refine ok_ldc 221 (-100000) dX11_look_219 rfl rfl cn_Encores_235 ?_
    exact ok_iret dX11_look_221 rfl

set_option maxRecDepth 100000 in
set_option maxHeartbeats 4000000 in
theorem ok_X11_look (N d : Nat) (a1 : Int32)  (m : Mem) : Ok none SG (d + 2) m_X11_look 0 [some (.ref 0), some (.int a1)] [] SG m (f_X11_look N a1 m) := by
  unfold f_X11_look
  refine ok_iload_n 1 1 dX11_look_0 rfl rfl rfl ?_
  refine ok_iconst 2 2 dX11_look_1 rfl rfl ?_
  refine ok_icmp_lt 22 5 dX11_look_2 (by decide) rfl (fun _ => ?_) (fun _ => ?_)
  · exact ok_less [some (.ref 0), some (.int a1)] (And.intro rfl (And.intro rfl (trivial))) (ok_X11_look_J22 N d a1   m)
  · refine ok_iload_n 6 1 dX11_look_5 rfl rfl rfl ?_
    refine ok_bipush 8 7 dX11_look_6 rfl rfl ?_
    refine ok_icmp_gt 22 11 dX11_look_8 (by decide) rfl (fun _ => ?_) (fun _ => ?_)
    · exact ok_less [some (.ref 0), some (.int a1)] (And.intro rfl (And.intro rfl (trivial))) (ok_X11_look_J22 N d a1   m)
    · refine ok_aload_n 12 0 dX11_look_11 rfl rfl rfl ?_
      refine ok_getR 15 dX11_look_12 rfl rfl F_Encores_16 sg_0 rfl (Nat.le_of_ble_eq_true rfl) rfl rfl ?_
      refine ok_iload_n 16 1 dX11_look_15 rfl rfl rfl ?_
      refine ok_iconst 17 2 dX11_look_16 rfl rfl ?_
      refine ok_isub 18 dX11_look_17 rfl ?_
      refine ok_callVi (np := 1) (M' := m_X1_hour) (As := [.int (a1 - (2 : Int32))]) (st := []) 21 dX11_look_18 rfl rfl km_X1_hour ki_X1_hour kv_X1_hour ml_Encores_98 (by decide) sg_2 rfl (Nat.le_of_ble_eq_true rfl) rfl rfl rfl (Nat.le_of_ble_eq_true rfl) (c_X1_hour N (d + 0) (a1 - (2 : Int32)) m) ⟨Nat.le_refl _, Nat.le_refl _⟩ (Or.inl rfl) rfl (fun r_18 m_18 _ => ?_)
      exact ok_iret dX11_look_21 rfl

theorem c_X11_look (N d : Nat) (a1 : Int32)  (m : Mem) : CM (d + 2) m_X11_look SG SG [.ref 0, .int a1] m (f_X11_look N a1 m) :=
  CM.ofOk km_X11_look ⟨Nat.le_refl _, Nat.le_refl _⟩ (by simp [Value.category]) (Nat.le_of_ble_eq_true rfl) (ok_X11_look N d a1 m)

def f_X11_goes_J68 (N : Nat) (a1 : Int32)   (s2_68 : Int32) (t0_68 : Int32) (m : Mem) : Ans :=
bd (f_X3_keep N 92 m) fun _ m_77 =>
bnd (mset m_77 113 4 1) fun m_85 =>
bd (f_X8_spendEvening N m_85) fun r_92 m_92 =>
bnd (mset m_92 113 4 0) fun m_101 =>
if s2_68 = 0 then (if a1 = 0 then (bd (f_X1_hour N 0 m_101) fun r_141 m_141 =>
bd (f_X3_back N 92 m_141) fun _ m_154 =>
some (r_141, m_154))
else (bd (f_X1_hour N 2 m_101) fun r_141 m_141 =>
bd (f_X3_back N 92 m_141) fun _ m_154 =>
some (r_141, m_154)))
else (bd (f_X9_at N 5 (a1 - (10 : Int32)) 4 m_101) fun r_120 m_120 =>
bnd (r_120 - t0_68) fun a4_144 =>
bd (f_X3_back N 92 m_120) fun _ m_154 =>
some (a4_144, m_154))

def f_X11_goes_J45 (N : Nat) (a1 : Int32)   (s2_45 : Int32) (m : Mem) : Ans :=
if s2_45 = 0 then (f_X11_goes_J68 N a1 s2_45 0 m)
else (bd (f_X9_at N 5 (a1 - (10 : Int32)) 4 m) fun r_61 m_61 =>
f_X11_goes_J68 N a1 s2_45 r_61 m_61)

def f_X11_goes_J28 (N : Nat) (a1 : Int32)   (t0_28 : Int32) (m : Mem) : Ans :=
if a1 = 0 then (f_X11_goes_J45 N a1 t0_28 m)
else (if a1 = (1 : Int32) then (f_X11_goes_J45 N a1 t0_28 m)
else (if t0_28 = 0 then (some ((-100000), m))
else (f_X11_goes_J45 N a1 t0_28 m)))

def f_X11_goes_J27 (N : Nat) (a1 : Int32)    (m : Mem) : Ans :=
f_X11_goes_J28 N a1 0 m

def f_X11_goes (N : Nat) (a1 : Int32) (m : Mem) : Ans :=
if a1 < (10 : Int32) then (f_X11_goes_J27 N a1 m)
else (bd (f_X9_has N 5 (a1 - (10 : Int32)) m) fun r_17 m_17 =>
if r_17 = 0 then (f_X11_goes_J27 N a1 m_17)
else (f_X11_goes_J28 N a1 1 m_17))

set_option maxRecDepth 100000 in
set_option maxHeartbeats 4000000 in
theorem ok_X11_goes_J68 (N d : Nat) (a1 : Int32)    (s2_68 : Int32) (t0_68 : Int32) (m : Mem) : Ok none SG (d + 7) m_X11_goes 68 [some (.ref 0), some (.int a1), some (.int s2_68), none, none] [.int t0_68] SG m (f_X11_goes_J68 N a1 s2_68 t0_68 m) := by
  unfold f_X11_goes_J68
  refine ok_istore_n 69 3 [some (.ref 0), some (.int a1), some (.int s2_68), some (.int t0_68), none] dX11_goes_68 rfl rfl (by decide) rfl ?_
  refine ok_aload_n 70 0 dX11_goes_69 rfl rfl rfl ?_
  refine ok_getR 73 dX11_goes_70 rfl rfl F_Encores_37 sg_0 rfl (Nat.le_of_ble_eq_true rfl) rfl rfl ?_
  refine ok_aload_n 74 0 dX11_goes_73 rfl rfl rfl ?_
  refine ok_getR 77 dX11_goes_74 rfl rfl F_Encores_16 sg_0 rfl (Nat.le_of_ble_eq_true rfl) rfl rfl ?_
  refine ok_callVv (np := 1) (M' := m_X3_keep) (As := [.ref 2]) (st := []) 80 dX11_goes_77 rfl rfl km_X3_keep ki_X3_keep kv_X3_keep ml_Encores_236 (by decide) sg_92 rfl (Nat.le_of_ble_eq_true rfl) rfl rfl rfl (Nat.le_of_ble_eq_true rfl) (c_X3_keep N (d + 4) 92 tg_92 m) ⟨Nat.le_refl _, Nat.le_refl _⟩ (Or.inl rfl) rfl (fun _ m_77 _ => ?_)
  refine ok_aload_n 81 0 dX11_goes_80 rfl rfl rfl ?_
  refine ok_getR 84 dX11_goes_81 rfl rfl F_Encores_71 sg_0 rfl (Nat.le_of_ble_eq_true rfl) rfl rfl ?_
  refine ok_iconst 85 1 dX11_goes_84 rfl rfl ?_
  refine ok_putZc 88 dX11_goes_85 rfl rfl F_Encores_237 sg_113 rfl (Nat.le_of_ble_eq_true rfl) rfl rfl pZ_8_4 rfl ?_
  refine ok_bndM (fun m_85 => ?_)
  refine ok_aload_n 89 0 dX11_goes_88 rfl rfl rfl ?_
  refine ok_getR 92 dX11_goes_89 rfl rfl F_Encores_71 sg_0 rfl (Nat.le_of_ble_eq_true rfl) rfl rfl ?_
  refine ok_callVi (np := 0) (M' := m_X8_spendEvening) (As := []) (st := []) 95 dX11_goes_92 rfl rfl km_X8_spendEvening ki_X8_spendEvening kv_X8_spendEvening ml_Encores_164 (by decide) sg_113 rfl (Nat.le_of_ble_eq_true rfl) rfl rfl rfl (Nat.le_of_ble_eq_true rfl) (c_X8_spendEvening N (d + 0) m_85) ⟨Nat.le_refl _, Nat.le_refl _⟩ (Or.inl rfl) rfl (fun r_92 m_92 _ => ?_)
  refine ok_pop 96 dX11_goes_95 rfl rfl ?_
  refine ok_aload_n 97 0 dX11_goes_96 rfl rfl rfl ?_
  refine ok_getR 100 dX11_goes_97 rfl rfl F_Encores_71 sg_0 rfl (Nat.le_of_ble_eq_true rfl) rfl rfl ?_
  refine ok_iconst 101 0 dX11_goes_100 rfl rfl ?_
  refine ok_putZc 104 dX11_goes_101 rfl rfl F_Encores_237 sg_113 rfl (Nat.le_of_ble_eq_true rfl) rfl rfl pZ_8_4 rfl ?_
  refine ok_bndM (fun m_101 => ?_)
  refine ok_iload_n 105 2 dX11_goes_104 rfl rfl rfl ?_
  refine ok_if_eq 128 108 dX11_goes_105 (by decide) rfl (fun _ => ?_) (fun _ => ?_)
  · refine ok_aload_n 129 0 dX11_goes_128 rfl rfl rfl ?_
    refine ok_getR 132 dX11_goes_129 rfl rfl F_Encores_16 sg_0 rfl (Nat.le_of_ble_eq_true rfl) rfl rfl ?_
    refine ok_iload_n 133 1 dX11_goes_132 rfl rfl rfl ?_
    refine ok_if_ne 140 136 dX11_goes_133 (by decide) rfl (fun _ => ?_) (fun _ => ?_)
    · refine ok_iconst 141 2 dX11_goes_140 rfl rfl ?_
      refine ok_callVi (np := 1) (M' := m_X1_hour) (As := [.int 2]) (st := []) 144 dX11_goes_141 rfl rfl km_X1_hour ki_X1_hour kv_X1_hour ml_Encores_98 (by decide) sg_2 rfl (Nat.le_of_ble_eq_true rfl) rfl rfl rfl (Nat.le_of_ble_eq_true rfl) (c_X1_hour N (d + 5) 2 m_101) ⟨Nat.le_refl _, Nat.le_refl _⟩ (Or.inl rfl) rfl (fun r_141 m_141 _ => ?_)
      refine ok_istore 146 4 [some (.ref 0), some (.int a1), some (.int s2_68), some (.int t0_68), some (.int r_141)] dX11_goes_144 rfl (by decide) rfl ?_
      refine ok_aload_n 147 0 dX11_goes_146 rfl rfl rfl ?_
      refine ok_getR 150 dX11_goes_147 rfl rfl F_Encores_37 sg_0 rfl (Nat.le_of_ble_eq_true rfl) rfl rfl ?_
      refine ok_aload_n 151 0 dX11_goes_150 rfl rfl rfl ?_
      refine ok_getR 154 dX11_goes_151 rfl rfl F_Encores_16 sg_0 rfl (Nat.le_of_ble_eq_true rfl) rfl rfl ?_
      refine ok_callVv (np := 1) (M' := m_X3_back) (As := [.ref 2]) (st := []) 157 dX11_goes_154 rfl rfl km_X3_back ki_X3_back kv_X3_back ml_Encores_240 (by decide) sg_92 rfl (Nat.le_of_ble_eq_true rfl) rfl rfl rfl (Nat.le_of_ble_eq_true rfl) (c_X3_back N (d + 4) 92 tg_92 m_141) ⟨Nat.le_refl _, Nat.le_refl _⟩ (Or.inl rfl) rfl (fun _ m_154 _ => ?_)
      refine ok_iload 159 4 dX11_goes_157 rfl rfl ?_
      exact ok_iret dX11_goes_159 rfl
    · refine ok_iconst 137 0 dX11_goes_136 rfl rfl ?_
      refine ok_goto 141 dX11_goes_137 (by decide) ?_
      refine ok_callVi (np := 1) (M' := m_X1_hour) (As := [.int 0]) (st := []) 144 dX11_goes_141 rfl rfl km_X1_hour ki_X1_hour kv_X1_hour ml_Encores_98 (by decide) sg_2 rfl (Nat.le_of_ble_eq_true rfl) rfl rfl rfl (Nat.le_of_ble_eq_true rfl) (c_X1_hour N (d + 5) 0 m_101) ⟨Nat.le_refl _, Nat.le_refl _⟩ (Or.inl rfl) rfl (fun r_141 m_141 _ => ?_)
      refine ok_istore 146 4 [some (.ref 0), some (.int a1), some (.int s2_68), some (.int t0_68), some (.int r_141)] dX11_goes_144 rfl (by decide) rfl ?_
      refine ok_aload_n 147 0 dX11_goes_146 rfl rfl rfl ?_
      refine ok_getR 150 dX11_goes_147 rfl rfl F_Encores_37 sg_0 rfl (Nat.le_of_ble_eq_true rfl) rfl rfl ?_
      refine ok_aload_n 151 0 dX11_goes_150 rfl rfl rfl ?_
      refine ok_getR 154 dX11_goes_151 rfl rfl F_Encores_16 sg_0 rfl (Nat.le_of_ble_eq_true rfl) rfl rfl ?_
      refine ok_callVv (np := 1) (M' := m_X3_back) (As := [.ref 2]) (st := []) 157 dX11_goes_154 rfl rfl km_X3_back ki_X3_back kv_X3_back ml_Encores_240 (by decide) sg_92 rfl (Nat.le_of_ble_eq_true rfl) rfl rfl rfl (Nat.le_of_ble_eq_true rfl) (c_X3_back N (d + 4) 92 tg_92 m_141) ⟨Nat.le_refl _, Nat.le_refl _⟩ (Or.inl rfl) rfl (fun _ m_154 _ => ?_)
      refine ok_iload 159 4 dX11_goes_157 rfl rfl ?_
      exact ok_iret dX11_goes_159 rfl
  · refine ok_aload_n 109 0 dX11_goes_108 rfl rfl rfl ?_
    refine ok_getR 112 dX11_goes_109 rfl rfl F_Encores_16 sg_0 rfl (Nat.le_of_ble_eq_true rfl) rfl rfl ?_
    refine ok_getR 115 dX11_goes_112 rfl rfl F_Encores_131 sg_2 rfl (Nat.le_of_ble_eq_true rfl) rfl rfl ?_
    refine ok_iload_n 116 1 dX11_goes_115 rfl rfl rfl ?_
    refine ok_bipush 118 10 dX11_goes_116 rfl rfl ?_
    refine ok_isub 119 dX11_goes_118 rfl ?_
    refine ok_iconst 120 4 dX11_goes_119 rfl rfl ?_
    refine ok_callVi (np := 2) (M' := m_X9_at) (As := [.int (a1 - (10 : Int32)), .int 4]) (st := []) 123 dX11_goes_120 rfl rfl km_X9_at ki_X9_at kv_X9_at ml_Encores_142 (by decide) sg_5 rfl (Nat.le_of_ble_eq_true rfl) rfl rfl rfl (Nat.le_of_ble_eq_true rfl) (c_X9_at N (d + 6) 5 (a1 - (10 : Int32)) 4 tg_5 m_101) ⟨Nat.le_refl _, Nat.le_refl _⟩ (Or.inl rfl) rfl (fun r_120 m_120 _ => ?_)
    refine ok_iload_n 124 3 dX11_goes_123 rfl rfl rfl ?_
    refine ok_isub 125 dX11_goes_124 rfl ?_
    refine ok_goto 144 dX11_goes_125 (by decide) ?_
    refine ok_bndI (fun a4_144 => ?_)
    refine ok_istore 146 4 [some (.ref 0), some (.int a1), some (.int s2_68), some (.int t0_68), some (.int a4_144)] dX11_goes_144 rfl (by decide) rfl ?_
    refine ok_aload_n 147 0 dX11_goes_146 rfl rfl rfl ?_
    refine ok_getR 150 dX11_goes_147 rfl rfl F_Encores_37 sg_0 rfl (Nat.le_of_ble_eq_true rfl) rfl rfl ?_
    refine ok_aload_n 151 0 dX11_goes_150 rfl rfl rfl ?_
    refine ok_getR 154 dX11_goes_151 rfl rfl F_Encores_16 sg_0 rfl (Nat.le_of_ble_eq_true rfl) rfl rfl ?_
    refine ok_callVv (np := 1) (M' := m_X3_back) (As := [.ref 2]) (st := []) 157 dX11_goes_154 rfl rfl km_X3_back ki_X3_back kv_X3_back ml_Encores_240 (by decide) sg_92 rfl (Nat.le_of_ble_eq_true rfl) rfl rfl rfl (Nat.le_of_ble_eq_true rfl) (c_X3_back N (d + 4) 92 tg_92 m_120) ⟨Nat.le_refl _, Nat.le_refl _⟩ (Or.inl rfl) rfl (fun _ m_154 _ => ?_)
    refine ok_iload 159 4 dX11_goes_157 rfl rfl ?_
    exact ok_iret dX11_goes_159 rfl

set_option maxRecDepth 100000 in
set_option maxHeartbeats 4000000 in
theorem ok_X11_goes_J45 (N d : Nat) (a1 : Int32)    (s2_45 : Int32) (m : Mem) : Ok none SG (d + 7) m_X11_goes 45 [some (.ref 0), some (.int a1), some (.int s2_45), none, none] [] SG m (f_X11_goes_J45 N a1 s2_45 m) := by
  unfold f_X11_goes_J45
  refine ok_iload_n 46 2 dX11_goes_45 rfl rfl rfl ?_
  refine ok_if_eq 67 49 dX11_goes_46 (by decide) rfl (fun _ => ?_) (fun _ => ?_)
  · refine ok_iconst 68 0 dX11_goes_67 rfl rfl ?_
    exact ok_less [some (.ref 0), some (.int a1), some (.int s2_45), none, none] (And.intro rfl (And.intro rfl (And.intro rfl (trivial)))) (ok_X11_goes_J68 N d a1   s2_45 0 m)
  · refine ok_aload_n 50 0 dX11_goes_49 rfl rfl rfl ?_
    refine ok_getR 53 dX11_goes_50 rfl rfl F_Encores_16 sg_0 rfl (Nat.le_of_ble_eq_true rfl) rfl rfl ?_
    refine ok_getR 56 dX11_goes_53 rfl rfl F_Encores_131 sg_2 rfl (Nat.le_of_ble_eq_true rfl) rfl rfl ?_
    refine ok_iload_n 57 1 dX11_goes_56 rfl rfl rfl ?_
    refine ok_bipush 59 10 dX11_goes_57 rfl rfl ?_
    refine ok_isub 60 dX11_goes_59 rfl ?_
    refine ok_iconst 61 4 dX11_goes_60 rfl rfl ?_
    refine ok_callVi (np := 2) (M' := m_X9_at) (As := [.int (a1 - (10 : Int32)), .int 4]) (st := []) 64 dX11_goes_61 rfl rfl km_X9_at ki_X9_at kv_X9_at ml_Encores_142 (by decide) sg_5 rfl (Nat.le_of_ble_eq_true rfl) rfl rfl rfl (Nat.le_of_ble_eq_true rfl) (c_X9_at N (d + 6) 5 (a1 - (10 : Int32)) 4 tg_5 m) ⟨Nat.le_refl _, Nat.le_refl _⟩ (Or.inl rfl) rfl (fun r_61 m_61 _ => ?_)
    refine ok_goto 68 dX11_goes_64 (by decide) ?_
    exact ok_less [some (.ref 0), some (.int a1), some (.int s2_45), none, none] (And.intro rfl (And.intro rfl (And.intro rfl (trivial)))) (ok_X11_goes_J68 N d a1   s2_45 r_61 m_61)

set_option maxRecDepth 100000 in
set_option maxHeartbeats 4000000 in
theorem ok_X11_goes_J28 (N d : Nat) (a1 : Int32)    (t0_28 : Int32) (m : Mem) : Ok none SG (d + 7) m_X11_goes 28 [some (.ref 0), some (.int a1), none, none, none] [.int t0_28] SG m (f_X11_goes_J28 N a1 t0_28 m) := by
  unfold f_X11_goes_J28
  refine ok_istore_n 29 2 [some (.ref 0), some (.int a1), some (.int t0_28), none, none] dX11_goes_28 rfl rfl (by decide) rfl ?_
  refine ok_iload_n 30 1 dX11_goes_29 rfl rfl rfl ?_
  refine ok_if_eq 45 33 dX11_goes_30 (by decide) rfl (fun _ => ?_) (fun _ => ?_)
  · exact ok_less [some (.ref 0), some (.int a1), some (.int t0_28), none, none] (And.intro rfl (And.intro rfl (And.intro rfl (trivial)))) (ok_X11_goes_J45 N d a1   t0_28 m)
  · refine ok_iload_n 34 1 dX11_goes_33 rfl rfl rfl ?_
    refine ok_iconst 35 1 dX11_goes_34 rfl rfl ?_
    refine ok_icmp_eq 45 38 dX11_goes_35 (by decide) rfl (fun _ => ?_) (fun _ => ?_)
    · exact ok_less [some (.ref 0), some (.int a1), some (.int t0_28), none, none] (And.intro rfl (And.intro rfl (And.intro rfl (trivial)))) (ok_X11_goes_J45 N d a1   t0_28 m)
    · refine ok_iload_n 39 2 dX11_goes_38 rfl rfl rfl ?_
      refine ok_if_ne 45 42 dX11_goes_39 (by decide) rfl (fun _ => ?_) (fun _ => ?_)
      · exact ok_less [some (.ref 0), some (.int a1), some (.int t0_28), none, none] (And.intro rfl (And.intro rfl (And.intro rfl (trivial)))) (ok_X11_goes_J45 N d a1   t0_28 m)
      · refine ok_ldc 44 (-100000) dX11_goes_42 rfl rfl cn_Encores_235 ?_
        exact ok_iret dX11_goes_44 rfl

set_option maxRecDepth 100000 in
set_option maxHeartbeats 4000000 in
theorem ok_X11_goes_J27 (N d : Nat) (a1 : Int32)     (m : Mem) : Ok none SG (d + 7) m_X11_goes 27 [some (.ref 0), some (.int a1), none, none, none] [] SG m (f_X11_goes_J27 N a1 m) := by
  unfold f_X11_goes_J27
  refine ok_iconst 28 0 dX11_goes_27 rfl rfl ?_
  exact ok_less [some (.ref 0), some (.int a1), none, none, none] (And.intro rfl (And.intro rfl (trivial))) (ok_X11_goes_J28 N d a1   0 m)

set_option maxRecDepth 100000 in
set_option maxHeartbeats 4000000 in
theorem ok_X11_goes (N d : Nat) (a1 : Int32)  (m : Mem) : Ok none SG (d + 7) m_X11_goes 0 [some (.ref 0), some (.int a1), none, none, none] [] SG m (f_X11_goes N a1 m) := by
  unfold f_X11_goes
  refine ok_iload_n 1 1 dX11_goes_0 rfl rfl rfl ?_
  refine ok_bipush 3 10 dX11_goes_1 rfl rfl ?_
  refine ok_icmp_lt 27 6 dX11_goes_3 (by decide) rfl (fun _ => ?_) (fun _ => ?_)
  · exact ok_less [some (.ref 0), some (.int a1), none, none, none] (And.intro rfl (And.intro rfl (trivial))) (ok_X11_goes_J27 N d a1   m)
  · refine ok_aload_n 7 0 dX11_goes_6 rfl rfl rfl ?_
    refine ok_getR 10 dX11_goes_7 rfl rfl F_Encores_16 sg_0 rfl (Nat.le_of_ble_eq_true rfl) rfl rfl ?_
    refine ok_getR 13 dX11_goes_10 rfl rfl F_Encores_131 sg_2 rfl (Nat.le_of_ble_eq_true rfl) rfl rfl ?_
    refine ok_iload_n 14 1 dX11_goes_13 rfl rfl rfl ?_
    refine ok_bipush 16 10 dX11_goes_14 rfl rfl ?_
    refine ok_isub 17 dX11_goes_16 rfl ?_
    refine ok_callVi (np := 1) (M' := m_X9_has) (As := [.int (a1 - (10 : Int32))]) (st := []) 20 dX11_goes_17 rfl rfl km_X9_has ki_X9_has kv_X9_has ml_Encores_138 (by decide) sg_5 rfl (Nat.le_of_ble_eq_true rfl) rfl rfl rfl (Nat.le_of_ble_eq_true rfl) (c_X9_has N (d + 6) 5 (a1 - (10 : Int32)) tg_5 m) ⟨Nat.le_refl _, Nat.le_refl _⟩ (Or.inl rfl) rfl (fun r_17 m_17 _ => ?_)
    refine ok_if_eq 27 23 dX11_goes_20 (by decide) rfl (fun _ => ?_) (fun _ => ?_)
    · exact ok_less [some (.ref 0), some (.int a1), none, none, none] (And.intro rfl (And.intro rfl (trivial))) (ok_X11_goes_J27 N d a1   m_17)
    · refine ok_iconst 24 1 dX11_goes_23 rfl rfl ?_
      refine ok_goto 28 dX11_goes_24 (by decide) ?_
      exact ok_less [some (.ref 0), some (.int a1), none, none, none] (And.intro rfl (And.intro rfl (trivial))) (ok_X11_goes_J28 N d a1   1 m_17)

theorem c_X11_goes (N d : Nat) (a1 : Int32)  (m : Mem) : CM (d + 7) m_X11_goes SG SG [.ref 0, .int a1] m (f_X11_goes N a1 m) :=
  CM.ofOk km_X11_goes ⟨Nat.le_refl _, Nat.le_refl _⟩ (by simp [Value.category]) (Nat.le_of_ble_eq_true rfl) (ok_X11_goes N d a1 m)

def f_X11_settle (N : Nat) (a1 : Int32) (m : Mem) : Ans :=
bd (f_X3_keep N 92 m) fun _ m_8 =>
bnd (mset m_8 113 4 1) fun m_16 =>
bd (f_X8_begin N a1 m_16) fun _ m_24 =>
bd (f_X8_applaud N a1 m_24) fun _ m_32 =>
bd (f_X8_handsAt N a1 m_32) fun r_40 m_40 =>
bnd (mset m_40 113 4 0) fun m_49 =>
bd (f_X3_back N 92 m_49) fun _ m_60 =>
some (r_40, m_60)

set_option maxRecDepth 100000 in
set_option maxHeartbeats 4000000 in
theorem ok_X11_settle (N d : Nat) (a1 : Int32)  (m : Mem) : Ok none SG (d + 5) m_X11_settle 0 [some (.ref 0), some (.int a1), none] [] SG m (f_X11_settle N a1 m) := by
  unfold f_X11_settle
  refine ok_aload_n 1 0 dX11_settle_0 rfl rfl rfl ?_
  refine ok_getR 4 dX11_settle_1 rfl rfl F_Encores_37 sg_0 rfl (Nat.le_of_ble_eq_true rfl) rfl rfl ?_
  refine ok_aload_n 5 0 dX11_settle_4 rfl rfl rfl ?_
  refine ok_getR 8 dX11_settle_5 rfl rfl F_Encores_16 sg_0 rfl (Nat.le_of_ble_eq_true rfl) rfl rfl ?_
  refine ok_callVv (np := 1) (M' := m_X3_keep) (As := [.ref 2]) (st := []) 11 dX11_settle_8 rfl rfl km_X3_keep ki_X3_keep kv_X3_keep ml_Encores_236 (by decide) sg_92 rfl (Nat.le_of_ble_eq_true rfl) rfl rfl rfl (Nat.le_of_ble_eq_true rfl) (c_X3_keep N (d + 2) 92 tg_92 m) ⟨Nat.le_refl _, Nat.le_refl _⟩ (Or.inl rfl) rfl (fun _ m_8 _ => ?_)
  refine ok_aload_n 12 0 dX11_settle_11 rfl rfl rfl ?_
  refine ok_getR 15 dX11_settle_12 rfl rfl F_Encores_71 sg_0 rfl (Nat.le_of_ble_eq_true rfl) rfl rfl ?_
  refine ok_iconst 16 1 dX11_settle_15 rfl rfl ?_
  refine ok_putZc 19 dX11_settle_16 rfl rfl F_Encores_237 sg_113 rfl (Nat.le_of_ble_eq_true rfl) rfl rfl pZ_8_4 rfl ?_
  refine ok_bndM (fun m_16 => ?_)
  refine ok_aload_n 20 0 dX11_settle_19 rfl rfl rfl ?_
  refine ok_getR 23 dX11_settle_20 rfl rfl F_Encores_71 sg_0 rfl (Nat.le_of_ble_eq_true rfl) rfl rfl ?_
  refine ok_iload_n 24 1 dX11_settle_23 rfl rfl rfl ?_
  refine ok_callVv (np := 1) (M' := m_X8_begin) (As := [.int a1]) (st := []) 27 dX11_settle_24 rfl rfl km_X8_begin ki_X8_begin kv_X8_begin ml_Encores_252 (by decide) sg_113 rfl (Nat.le_of_ble_eq_true rfl) rfl rfl rfl (Nat.le_of_ble_eq_true rfl) (c_X8_begin N (d + 0) a1 m_16) ⟨Nat.le_refl _, Nat.le_refl _⟩ (Or.inl rfl) rfl (fun _ m_24 _ => ?_)
  refine ok_aload_n 28 0 dX11_settle_27 rfl rfl rfl ?_
  refine ok_getR 31 dX11_settle_28 rfl rfl F_Encores_71 sg_0 rfl (Nat.le_of_ble_eq_true rfl) rfl rfl ?_
  refine ok_iload_n 32 1 dX11_settle_31 rfl rfl rfl ?_
  refine ok_callVv (np := 1) (M' := m_X8_applaud) (As := [.int a1]) (st := []) 35 dX11_settle_32 rfl rfl km_X8_applaud ki_X8_applaud kv_X8_applaud ml_Encores_255 (by decide) sg_113 rfl (Nat.le_of_ble_eq_true rfl) rfl rfl rfl (Nat.le_of_ble_eq_true rfl) (c_X8_applaud N (d + 0) a1 m_24) ⟨Nat.le_refl _, Nat.le_refl _⟩ (Or.inl rfl) rfl (fun _ m_32 _ => ?_)
  refine ok_aload_n 36 0 dX11_settle_35 rfl rfl rfl ?_
  refine ok_getR 39 dX11_settle_36 rfl rfl F_Encores_71 sg_0 rfl (Nat.le_of_ble_eq_true rfl) rfl rfl ?_
  refine ok_iload_n 40 1 dX11_settle_39 rfl rfl rfl ?_
  refine ok_callVi (np := 1) (M' := m_X8_handsAt) (As := [.int a1]) (st := []) 43 dX11_settle_40 rfl rfl km_X8_handsAt ki_X8_handsAt kv_X8_handsAt ml_Encores_258 (by decide) sg_113 rfl (Nat.le_of_ble_eq_true rfl) rfl rfl rfl (Nat.le_of_ble_eq_true rfl) (c_X8_handsAt N (d + 0) a1 m_32) ⟨Nat.le_refl _, Nat.le_refl _⟩ (Or.inl rfl) rfl (fun r_40 m_40 _ => ?_)
  refine ok_istore_n 44 2 [some (.ref 0), some (.int a1), some (.int r_40)] dX11_settle_43 rfl rfl (by decide) rfl ?_
  refine ok_aload_n 45 0 dX11_settle_44 rfl rfl rfl ?_
  refine ok_getR 48 dX11_settle_45 rfl rfl F_Encores_71 sg_0 rfl (Nat.le_of_ble_eq_true rfl) rfl rfl ?_
  refine ok_iconst 49 0 dX11_settle_48 rfl rfl ?_
  refine ok_putZc 52 dX11_settle_49 rfl rfl F_Encores_237 sg_113 rfl (Nat.le_of_ble_eq_true rfl) rfl rfl pZ_8_4 rfl ?_
  refine ok_bndM (fun m_49 => ?_)
  refine ok_aload_n 53 0 dX11_settle_52 rfl rfl rfl ?_
  refine ok_getR 56 dX11_settle_53 rfl rfl F_Encores_37 sg_0 rfl (Nat.le_of_ble_eq_true rfl) rfl rfl ?_
  refine ok_aload_n 57 0 dX11_settle_56 rfl rfl rfl ?_
  refine ok_getR 60 dX11_settle_57 rfl rfl F_Encores_16 sg_0 rfl (Nat.le_of_ble_eq_true rfl) rfl rfl ?_
  refine ok_callVv (np := 1) (M' := m_X3_back) (As := [.ref 2]) (st := []) 63 dX11_settle_60 rfl rfl km_X3_back ki_X3_back kv_X3_back ml_Encores_240 (by decide) sg_92 rfl (Nat.le_of_ble_eq_true rfl) rfl rfl rfl (Nat.le_of_ble_eq_true rfl) (c_X3_back N (d + 2) 92 tg_92 m_49) ⟨Nat.le_refl _, Nat.le_refl _⟩ (Or.inl rfl) rfl (fun _ m_60 _ => ?_)
  refine ok_iload_n 64 2 dX11_settle_63 rfl rfl rfl ?_
  exact ok_iret dX11_settle_64 rfl

theorem c_X11_settle (N d : Nat) (a1 : Int32)  (m : Mem) : CM (d + 5) m_X11_settle SG SG [.ref 0, .int a1] m (f_X11_settle N a1 m) :=
  CM.ofOk km_X11_settle ⟨Nat.le_refl _, Nat.le_refl _⟩ (by simp [Value.category]) (Nat.le_of_ble_eq_true rfl) (ok_X11_settle N d a1 m)

def f_X11_settles (N : Nat) (a1 : Int32) (a2 : Int32) (m : Mem) : Ans :=
bd (f_X9_has N 5 a1 m) fun r_8 m_8 =>
if r_8 = 0 then (some ((-1), m_8))
else (bd (f_X11_within N a2 0 2 m_8) fun r_17 m_17 =>
if r_17 = 0 then (some ((-1), m_17))
else (bd (f_X11_settle N a1 m_17) fun r_27 m_27 =>
if a2 = (2 : Int32) then (some (r_27, m_27))
else (if a2 = 0 then (some (m_27 113 5, m_27))
else (some (m_27 113 6, m_27)))))

set_option maxRecDepth 100000 in
set_option maxHeartbeats 4000000 in
theorem ok_X11_settles (N d : Nat) (a1 : Int32) (a2 : Int32)  (m : Mem) : Ok none SG (d + 6) m_X11_settles 0 [some (.ref 0), some (.int a1), some (.int a2), none] [] SG m (f_X11_settles N a1 a2 m) := by
  unfold f_X11_settles
  refine ok_aload_n 1 0 dX11_settles_0 rfl rfl rfl ?_
  refine ok_getR 4 dX11_settles_1 rfl rfl F_Encores_16 sg_0 rfl (Nat.le_of_ble_eq_true rfl) rfl rfl ?_
  refine ok_getR 7 dX11_settles_4 rfl rfl F_Encores_131 sg_2 rfl (Nat.le_of_ble_eq_true rfl) rfl rfl ?_
  refine ok_iload_n 8 1 dX11_settles_7 rfl rfl rfl ?_
  refine ok_callVi (np := 1) (M' := m_X9_has) (As := [.int a1]) (st := []) 11 dX11_settles_8 rfl rfl km_X9_has ki_X9_has kv_X9_has ml_Encores_138 (by decide) sg_5 rfl (Nat.le_of_ble_eq_true rfl) rfl rfl rfl (Nat.le_of_ble_eq_true rfl) (c_X9_has N (d + 5) 5 a1 tg_5 m) ⟨Nat.le_refl _, Nat.le_refl _⟩ (Or.inl rfl) rfl (fun r_8 m_8 _ => ?_)
  refine ok_if_eq 23 14 dX11_settles_11 (by decide) rfl (fun _ => ?_) (fun _ => ?_)
  · refine ok_iconst 24 (-1) dX11_settles_23 rfl rfl ?_
    exact ok_iret dX11_settles_24 rfl
  · refine ok_iload_n 15 2 dX11_settles_14 rfl rfl rfl ?_
    refine ok_iconst 16 0 dX11_settles_15 rfl rfl ?_
    refine ok_iconst 17 2 dX11_settles_16 rfl rfl ?_
    refine ok_callSi (np := 3) (M' := m_X11_within) (As := [.int a2, .int 0, .int 2]) (st := []) 20 dX11_settles_17 rfl rfl km_X11_within ks_X11_within ml_Encores_109 (by decide) rfl rfl (Nat.le_of_ble_eq_true rfl) (c_X11_within N (d + 5) a2 0 2 m_8) ⟨Nat.le_refl _, Nat.le_refl _⟩ (Or.inl rfl) rfl (fun r_17 m_17 _ => ?_)
    refine ok_if_ne 25 23 dX11_settles_20 (by decide) rfl (fun _ => ?_) (fun _ => ?_)
    · refine ok_aload_n 26 0 dX11_settles_25 rfl rfl rfl ?_
      refine ok_iload_n 27 1 dX11_settles_26 rfl rfl rfl ?_
      refine ok_callVi (np := 1) (M' := m_X11_settle) (As := [.int a1]) (st := []) 30 dX11_settles_27 rfl rfl km_X11_settle ki_X11_settle kv_X11_settle ml_Encores_243 (by decide) sg_0 rfl (Nat.le_of_ble_eq_true rfl) rfl rfl rfl (Nat.le_of_ble_eq_true rfl) (c_X11_settle N (d + 0) a1 m_17) ⟨Nat.le_refl _, Nat.le_refl _⟩ (Or.inl rfl) rfl (fun r_27 m_27 _ => ?_)
      refine ok_istore_n 31 3 [some (.ref 0), some (.int a1), some (.int a2), some (.int r_27)] dX11_settles_30 rfl rfl (by decide) rfl ?_
      refine ok_iload_n 32 2 dX11_settles_31 rfl rfl rfl ?_
      refine ok_iconst 33 2 dX11_settles_32 rfl rfl ?_
      refine ok_icmp_ne 38 36 dX11_settles_33 (by decide) rfl (fun _ => ?_) (fun _ => ?_)
      · refine ok_iload_n 39 2 dX11_settles_38 rfl rfl rfl ?_
        refine ok_if_ne 52 42 dX11_settles_39 (by decide) rfl (fun _ => ?_) (fun _ => ?_)
        · refine ok_aload_n 53 0 dX11_settles_52 rfl rfl rfl ?_
          refine ok_getR 56 dX11_settles_53 rfl rfl F_Encores_71 sg_0 rfl (Nat.le_of_ble_eq_true rfl) rfl rfl ?_
          refine ok_getI 59 dX11_settles_56 rfl rfl F_Encores_249 sg_113 rfl (Nat.le_of_ble_eq_true rfl) rfl ?_
          exact ok_iret dX11_settles_59 rfl
        · refine ok_aload_n 43 0 dX11_settles_42 rfl rfl rfl ?_
          refine ok_getR 46 dX11_settles_43 rfl rfl F_Encores_71 sg_0 rfl (Nat.le_of_ble_eq_true rfl) rfl rfl ?_
          refine ok_getI 49 dX11_settles_46 rfl rfl F_Encores_246 sg_113 rfl (Nat.le_of_ble_eq_true rfl) rfl ?_
          refine ok_goto 59 dX11_settles_49 (by decide) ?_
          exact ok_iret dX11_settles_59 rfl
      · refine ok_iload_n 37 3 dX11_settles_36 rfl rfl rfl ?_
        exact ok_iret dX11_settles_37 rfl
    · refine ok_iconst 24 (-1) dX11_settles_23 rfl rfl ?_
      exact ok_iret dX11_settles_24 rfl

theorem c_X11_settles (N d : Nat) (a1 : Int32) (a2 : Int32)  (m : Mem) : CM (d + 6) m_X11_settles SG SG [.ref 0, .int a1, .int a2] m (f_X11_settles N a1 a2 m) :=
  CM.ofOk km_X11_settles ⟨Nat.le_refl _, Nat.le_refl _⟩ (by simp [Value.category]) (Nat.le_of_ble_eq_true rfl) (ok_X11_settles N d a1 a2 m)

def f_X11_fewestAway (N : Nat) (a1 : Int32) (a2 : Int32) (m : Mem) : Ans :=
bd (f_X3_keep N 92 m) fun _ m_8 =>
bd (f_X0_prepare N a1 a2 m_8) fun _ m_17 =>
bd (f_X3_back N 92 m_17) fun _ m_28 =>
bd (f_X0_away N a2 m_28) fun r_36 m_36 =>
some (r_36, m_36)

set_option maxRecDepth 100000 in
set_option maxHeartbeats 4000000 in
theorem ok_X11_fewestAway (N d : Nat) (a1 : Int32) (a2 : Int32)  (m : Mem) : Ok none SG (d + 6) m_X11_fewestAway 0 [some (.ref 0), some (.int a1), some (.int a2)] [] SG m (f_X11_fewestAway N a1 a2 m) := by
  unfold f_X11_fewestAway
  refine ok_aload_n 1 0 dX11_fewestAway_0 rfl rfl rfl ?_
  refine ok_getR 4 dX11_fewestAway_1 rfl rfl F_Encores_37 sg_0 rfl (Nat.le_of_ble_eq_true rfl) rfl rfl ?_
  refine ok_aload_n 5 0 dX11_fewestAway_4 rfl rfl rfl ?_
  refine ok_getR 8 dX11_fewestAway_5 rfl rfl F_Encores_16 sg_0 rfl (Nat.le_of_ble_eq_true rfl) rfl rfl ?_
  refine ok_callVv (np := 1) (M' := m_X3_keep) (As := [.ref 2]) (st := []) 11 dX11_fewestAway_8 rfl rfl km_X3_keep ki_X3_keep kv_X3_keep ml_Encores_236 (by decide) sg_92 rfl (Nat.le_of_ble_eq_true rfl) rfl rfl rfl (Nat.le_of_ble_eq_true rfl) (c_X3_keep N (d + 3) 92 tg_92 m) ⟨Nat.le_refl _, Nat.le_refl _⟩ (Or.inl rfl) rfl (fun _ m_8 _ => ?_)
  refine ok_aload_n 12 0 dX11_fewestAway_11 rfl rfl rfl ?_
  refine ok_getR 15 dX11_fewestAway_12 rfl rfl F_Encores_80 sg_0 rfl (Nat.le_of_ble_eq_true rfl) rfl rfl ?_
  refine ok_iload_n 16 1 dX11_fewestAway_15 rfl rfl rfl ?_
  refine ok_iload_n 17 2 dX11_fewestAway_16 rfl rfl rfl ?_
  refine ok_callVv (np := 2) (M' := m_X0_prepare) (As := [.int a1, .int a2]) (st := []) 20 dX11_fewestAway_17 rfl rfl km_X0_prepare ki_X0_prepare kv_X0_prepare ml_Encores_267 (by decide) sg_116 rfl (Nat.le_of_ble_eq_true rfl) rfl rfl rfl (Nat.le_of_ble_eq_true rfl) (c_X0_prepare N (d + 0) a1 a2 m_8) ⟨Nat.le_refl _, Nat.le_refl _⟩ (Or.inl rfl) rfl (fun _ m_17 _ => ?_)
  refine ok_aload_n 21 0 dX11_fewestAway_20 rfl rfl rfl ?_
  refine ok_getR 24 dX11_fewestAway_21 rfl rfl F_Encores_37 sg_0 rfl (Nat.le_of_ble_eq_true rfl) rfl rfl ?_
  refine ok_aload_n 25 0 dX11_fewestAway_24 rfl rfl rfl ?_
  refine ok_getR 28 dX11_fewestAway_25 rfl rfl F_Encores_16 sg_0 rfl (Nat.le_of_ble_eq_true rfl) rfl rfl ?_
  refine ok_callVv (np := 1) (M' := m_X3_back) (As := [.ref 2]) (st := []) 31 dX11_fewestAway_28 rfl rfl km_X3_back ki_X3_back kv_X3_back ml_Encores_240 (by decide) sg_92 rfl (Nat.le_of_ble_eq_true rfl) rfl rfl rfl (Nat.le_of_ble_eq_true rfl) (c_X3_back N (d + 3) 92 tg_92 m_17) ⟨Nat.le_refl _, Nat.le_refl _⟩ (Or.inl rfl) rfl (fun _ m_28 _ => ?_)
  refine ok_aload_n 32 0 dX11_fewestAway_31 rfl rfl rfl ?_
  refine ok_getR 35 dX11_fewestAway_32 rfl rfl F_Encores_80 sg_0 rfl (Nat.le_of_ble_eq_true rfl) rfl rfl ?_
  refine ok_iload_n 36 2 dX11_fewestAway_35 rfl rfl rfl ?_
  refine ok_callVi (np := 1) (M' := m_X0_away) (As := [.int a2]) (st := []) 39 dX11_fewestAway_36 rfl rfl km_X0_away ki_X0_away kv_X0_away ml_Encores_270 (by decide) sg_116 rfl (Nat.le_of_ble_eq_true rfl) rfl rfl rfl (Nat.le_of_ble_eq_true rfl) (c_X0_away N (d + 2) a2 m_28) ⟨Nat.le_refl _, Nat.le_refl _⟩ (Or.inl rfl) rfl (fun r_36 m_36 _ => ?_)
  exact ok_iret dX11_fewestAway_39 rfl

theorem c_X11_fewestAway (N d : Nat) (a1 : Int32) (a2 : Int32)  (m : Mem) : CM (d + 6) m_X11_fewestAway SG SG [.ref 0, .int a1, .int a2] m (f_X11_fewestAway N a1 a2 m) :=
  CM.ofOk km_X11_fewestAway ⟨Nat.le_refl _, Nat.le_refl _⟩ (by simp [Value.category]) (Nat.le_of_ble_eq_true rfl) (ok_X11_fewestAway N d a1 a2 m)

def f_X11_numberOrSet (N : Nat) (a0 : Int32) (a1 : Int32) (m : Mem) : Ans :=
if a0 = (-1 : Int32) then (some (a0, m))
else (if a1 = (1 : Int32) then (some (a0, m))
else (bd (f_J6_bitCount_0f7a4 N a0 m) fun r_15 m_15 =>
some (r_15, m_15)))

set_option maxRecDepth 100000 in
set_option maxHeartbeats 4000000 in
theorem ok_X11_numberOrSet (N d : Nat) (a0 : Int32) (a1 : Int32)  (m : Mem) : Ok none SG (d + 1) m_X11_numberOrSet 0 [some (.int a0), some (.int a1)] [] SG m (f_X11_numberOrSet N a0 a1 m) := by
  unfold f_X11_numberOrSet
  refine ok_iload_n 1 0 dX11_numberOrSet_0 rfl rfl rfl ?_
  refine ok_iconst 2 (-1) dX11_numberOrSet_1 rfl rfl ?_
  refine ok_icmp_eq 10 5 dX11_numberOrSet_2 (by decide) rfl (fun _ => ?_) (fun _ => ?_)
  · refine ok_iload_n 11 0 dX11_numberOrSet_10 rfl rfl rfl ?_
    refine ok_goto 18 dX11_numberOrSet_11 (by decide) ?_
    exact ok_iret dX11_numberOrSet_18 rfl
  · refine ok_iload_n 6 1 dX11_numberOrSet_5 rfl rfl rfl ?_
    refine ok_iconst 7 1 dX11_numberOrSet_6 rfl rfl ?_
    refine ok_icmp_ne 14 10 dX11_numberOrSet_7 (by decide) rfl (fun _ => ?_) (fun _ => ?_)
    · refine ok_iload_n 15 0 dX11_numberOrSet_14 rfl rfl rfl ?_
      refine ok_callSi (np := 1) (M' := m_J6_bitCount_0f7a4) (As := [.int a0]) (st := []) 18 dX11_numberOrSet_15 rfl rfl km_J6_bitCount_0f7a4 ks_J6_bitCount_0f7a4 ml_Encores_273 (by decide) rfl rfl (Nat.le_of_ble_eq_true rfl) (c_J6_bitCount_0f7a4 N (d + 0) a0 m) ⟨Nat.le_refl _, Nat.le_refl _⟩ (Or.inl rfl) rfl (fun r_15 m_15 _ => ?_)
      exact ok_iret dX11_numberOrSet_18 rfl
    · refine ok_iload_n 11 0 dX11_numberOrSet_10 rfl rfl rfl ?_
      refine ok_goto 18 dX11_numberOrSet_11 (by decide) ?_
      exact ok_iret dX11_numberOrSet_18 rfl

theorem c_X11_numberOrSet (N d : Nat) (a0 : Int32) (a1 : Int32)  (m : Mem) : CM (d + 1) m_X11_numberOrSet SG SG [.int a0, .int a1] m (f_X11_numberOrSet N a0 a1 m) :=
  CM.ofOk km_X11_numberOrSet ⟨Nat.le_refl _, Nat.le_refl _⟩ (by simp [Value.category]) (Nat.le_of_ble_eq_true rfl) (ok_X11_numberOrSet N d a0 a1 m)

def f_X11_makes (N : Nat) (a1 : Int32) (a2 : Int32) (a3 : Int32) (m : Mem) : Ans :=
bd (f_X9_has N 5 a1 m) fun r_8 m_8 =>
if r_8 = 0 then (some ((-1), m_8))
else (bd (f_X11_within N a2 1 5 m_8) fun r_17 m_17 =>
if r_17 = 0 then (some ((-1), m_17))
else (bd (f_X11_within N a3 0 1 m_17) fun r_26 m_26 =>
if r_26 = 0 then (some ((-1), m_26))
else (bd (f_X11_fewestAway N a1 a2 m_26) fun r_37 m_37 =>
bd (f_X11_numberOrSet N r_37 a3 m_37) fun r_41 m_41 =>
some (r_41, m_41))))

set_option maxRecDepth 100000 in
set_option maxHeartbeats 4000000 in
theorem ok_X11_makes (N d : Nat) (a1 : Int32) (a2 : Int32) (a3 : Int32)  (m : Mem) : Ok none SG (d + 7) m_X11_makes 0 [some (.ref 0), some (.int a1), some (.int a2), some (.int a3)] [] SG m (f_X11_makes N a1 a2 a3 m) := by
  unfold f_X11_makes
  refine ok_aload_n 1 0 dX11_makes_0 rfl rfl rfl ?_
  refine ok_getR 4 dX11_makes_1 rfl rfl F_Encores_16 sg_0 rfl (Nat.le_of_ble_eq_true rfl) rfl rfl ?_
  refine ok_getR 7 dX11_makes_4 rfl rfl F_Encores_131 sg_2 rfl (Nat.le_of_ble_eq_true rfl) rfl rfl ?_
  refine ok_iload_n 8 1 dX11_makes_7 rfl rfl rfl ?_
  refine ok_callVi (np := 1) (M' := m_X9_has) (As := [.int a1]) (st := []) 11 dX11_makes_8 rfl rfl km_X9_has ki_X9_has kv_X9_has ml_Encores_138 (by decide) sg_5 rfl (Nat.le_of_ble_eq_true rfl) rfl rfl rfl (Nat.le_of_ble_eq_true rfl) (c_X9_has N (d + 6) 5 a1 tg_5 m) ⟨Nat.le_refl _, Nat.le_refl _⟩ (Or.inl rfl) rfl (fun r_8 m_8 _ => ?_)
  refine ok_if_eq 32 14 dX11_makes_11 (by decide) rfl (fun _ => ?_) (fun _ => ?_)
  · refine ok_iconst 33 (-1) dX11_makes_32 rfl rfl ?_
    exact ok_iret dX11_makes_33 rfl
  · refine ok_iload_n 15 2 dX11_makes_14 rfl rfl rfl ?_
    refine ok_iconst 16 1 dX11_makes_15 rfl rfl ?_
    refine ok_iconst 17 5 dX11_makes_16 rfl rfl ?_
    refine ok_callSi (np := 3) (M' := m_X11_within) (As := [.int a2, .int 1, .int 5]) (st := []) 20 dX11_makes_17 rfl rfl km_X11_within ks_X11_within ml_Encores_109 (by decide) rfl rfl (Nat.le_of_ble_eq_true rfl) (c_X11_within N (d + 6) a2 1 5 m_8) ⟨Nat.le_refl _, Nat.le_refl _⟩ (Or.inl rfl) rfl (fun r_17 m_17 _ => ?_)
    refine ok_if_eq 32 23 dX11_makes_20 (by decide) rfl (fun _ => ?_) (fun _ => ?_)
    · refine ok_iconst 33 (-1) dX11_makes_32 rfl rfl ?_
      exact ok_iret dX11_makes_33 rfl
    · refine ok_iload_n 24 3 dX11_makes_23 rfl rfl rfl ?_
      refine ok_iconst 25 0 dX11_makes_24 rfl rfl ?_
      refine ok_iconst 26 1 dX11_makes_25 rfl rfl ?_
      refine ok_callSi (np := 3) (M' := m_X11_within) (As := [.int a3, .int 0, .int 1]) (st := []) 29 dX11_makes_26 rfl rfl km_X11_within ks_X11_within ml_Encores_109 (by decide) rfl rfl (Nat.le_of_ble_eq_true rfl) (c_X11_within N (d + 6) a3 0 1 m_17) ⟨Nat.le_refl _, Nat.le_refl _⟩ (Or.inl rfl) rfl (fun r_26 m_26 _ => ?_)
      refine ok_if_ne 34 32 dX11_makes_29 (by decide) rfl (fun _ => ?_) (fun _ => ?_)
      · refine ok_aload_n 35 0 dX11_makes_34 rfl rfl rfl ?_
        refine ok_iload_n 36 1 dX11_makes_35 rfl rfl rfl ?_
        refine ok_iload_n 37 2 dX11_makes_36 rfl rfl rfl ?_
        refine ok_callVi (np := 2) (M' := m_X11_fewestAway) (As := [.int a1, .int a2]) (st := []) 40 dX11_makes_37 rfl rfl km_X11_fewestAway ki_X11_fewestAway kv_X11_fewestAway ml_Encores_261 (by decide) sg_0 rfl (Nat.le_of_ble_eq_true rfl) rfl rfl rfl (Nat.le_of_ble_eq_true rfl) (c_X11_fewestAway N (d + 0) a1 a2 m_26) ⟨Nat.le_refl _, Nat.le_refl _⟩ (Or.inl rfl) rfl (fun r_37 m_37 _ => ?_)
        refine ok_iload_n 41 3 dX11_makes_40 rfl rfl rfl ?_
        refine ok_callSi (np := 2) (M' := m_X11_numberOrSet) (As := [.int r_37, .int a3]) (st := []) 44 dX11_makes_41 rfl rfl km_X11_numberOrSet ks_X11_numberOrSet ml_Encores_264 (by decide) rfl rfl (Nat.le_of_ble_eq_true rfl) (c_X11_numberOrSet N (d + 5) r_37 a3 m_37) ⟨Nat.le_refl _, Nat.le_refl _⟩ (Or.inl rfl) rfl (fun r_41 m_41 _ => ?_)
        exact ok_iret dX11_makes_44 rfl
      · refine ok_iconst 33 (-1) dX11_makes_32 rfl rfl ?_
        exact ok_iret dX11_makes_33 rfl

theorem c_X11_makes (N d : Nat) (a1 : Int32) (a2 : Int32) (a3 : Int32)  (m : Mem) : CM (d + 7) m_X11_makes SG SG [.ref 0, .int a1, .int a2, .int a3] m (f_X11_makes N a1 a2 a3 m) :=
  CM.ofOk km_X11_makes ⟨Nat.le_refl _, Nat.le_refl _⟩ (by simp [Value.category]) (Nat.le_of_ble_eq_true rfl) (ok_X11_makes N d a1 a2 a3 m)

def f_X11_brakes (N : Nat) (a1 : Int32) (a2 : Int32) (m : Mem) : Ans :=
bd (f_X9_has N 5 a1 m) fun r_8 m_8 =>
if r_8 = 0 then (some ((-1), m_8))
else (bd (f_X11_within N a2 0 1 m_8) fun r_17 m_17 =>
if r_17 = 0 then (some ((-1), m_17))
else (bd (f_X11_fewestAway N a1 1 m_17) fun r_28 m_28 =>
bd (f_X11_numberOrSet N r_28 a2 m_28) fun r_32 m_32 =>
some (r_32, m_32)))

set_option maxRecDepth 100000 in
set_option maxHeartbeats 4000000 in
theorem ok_X11_brakes (N d : Nat) (a1 : Int32) (a2 : Int32)  (m : Mem) : Ok none SG (d + 7) m_X11_brakes 0 [some (.ref 0), some (.int a1), some (.int a2)] [] SG m (f_X11_brakes N a1 a2 m) := by
  unfold f_X11_brakes
  refine ok_aload_n 1 0 dX11_brakes_0 rfl rfl rfl ?_
  refine ok_getR 4 dX11_brakes_1 rfl rfl F_Encores_16 sg_0 rfl (Nat.le_of_ble_eq_true rfl) rfl rfl ?_
  refine ok_getR 7 dX11_brakes_4 rfl rfl F_Encores_131 sg_2 rfl (Nat.le_of_ble_eq_true rfl) rfl rfl ?_
  refine ok_iload_n 8 1 dX11_brakes_7 rfl rfl rfl ?_
  refine ok_callVi (np := 1) (M' := m_X9_has) (As := [.int a1]) (st := []) 11 dX11_brakes_8 rfl rfl km_X9_has ki_X9_has kv_X9_has ml_Encores_138 (by decide) sg_5 rfl (Nat.le_of_ble_eq_true rfl) rfl rfl rfl (Nat.le_of_ble_eq_true rfl) (c_X9_has N (d + 6) 5 a1 tg_5 m) ⟨Nat.le_refl _, Nat.le_refl _⟩ (Or.inl rfl) rfl (fun r_8 m_8 _ => ?_)
  refine ok_if_eq 23 14 dX11_brakes_11 (by decide) rfl (fun _ => ?_) (fun _ => ?_)
  · refine ok_iconst 24 (-1) dX11_brakes_23 rfl rfl ?_
    exact ok_iret dX11_brakes_24 rfl
  · refine ok_iload_n 15 2 dX11_brakes_14 rfl rfl rfl ?_
    refine ok_iconst 16 0 dX11_brakes_15 rfl rfl ?_
    refine ok_iconst 17 1 dX11_brakes_16 rfl rfl ?_
    refine ok_callSi (np := 3) (M' := m_X11_within) (As := [.int a2, .int 0, .int 1]) (st := []) 20 dX11_brakes_17 rfl rfl km_X11_within ks_X11_within ml_Encores_109 (by decide) rfl rfl (Nat.le_of_ble_eq_true rfl) (c_X11_within N (d + 6) a2 0 1 m_8) ⟨Nat.le_refl _, Nat.le_refl _⟩ (Or.inl rfl) rfl (fun r_17 m_17 _ => ?_)
    refine ok_if_ne 25 23 dX11_brakes_20 (by decide) rfl (fun _ => ?_) (fun _ => ?_)
    · refine ok_aload_n 26 0 dX11_brakes_25 rfl rfl rfl ?_
      refine ok_iload_n 27 1 dX11_brakes_26 rfl rfl rfl ?_
      refine ok_iconst 28 1 dX11_brakes_27 rfl rfl ?_
      refine ok_callVi (np := 2) (M' := m_X11_fewestAway) (As := [.int a1, .int 1]) (st := []) 31 dX11_brakes_28 rfl rfl km_X11_fewestAway ki_X11_fewestAway kv_X11_fewestAway ml_Encores_261 (by decide) sg_0 rfl (Nat.le_of_ble_eq_true rfl) rfl rfl rfl (Nat.le_of_ble_eq_true rfl) (c_X11_fewestAway N (d + 0) a1 1 m_17) ⟨Nat.le_refl _, Nat.le_refl _⟩ (Or.inl rfl) rfl (fun r_28 m_28 _ => ?_)
      refine ok_iload_n 32 2 dX11_brakes_31 rfl rfl rfl ?_
      refine ok_callSi (np := 2) (M' := m_X11_numberOrSet) (As := [.int r_28, .int a2]) (st := []) 35 dX11_brakes_32 rfl rfl km_X11_numberOrSet ks_X11_numberOrSet ml_Encores_264 (by decide) rfl rfl (Nat.le_of_ble_eq_true rfl) (c_X11_numberOrSet N (d + 5) r_28 a2 m_28) ⟨Nat.le_refl _, Nat.le_refl _⟩ (Or.inl rfl) rfl (fun r_32 m_32 _ => ?_)
      exact ok_iret dX11_brakes_35 rfl
    · refine ok_iconst 24 (-1) dX11_brakes_23 rfl rfl ?_
      exact ok_iret dX11_brakes_24 rfl

theorem c_X11_brakes (N d : Nat) (a1 : Int32) (a2 : Int32)  (m : Mem) : CM (d + 7) m_X11_brakes SG SG [.ref 0, .int a1, .int a2] m (f_X11_brakes N a1 a2 m) :=
  CM.ofOk km_X11_brakes ⟨Nat.le_refl _, Nat.le_refl _⟩ (by simp [Value.category]) (Nat.le_of_ble_eq_true rfl) (ok_X11_brakes N d a1 a2 m)

def f_X11_gain_L26 (N : Nat) (a1 : Int32)   (X : Int32 → Int32 → Mem → Ans) (s2_26 : Int32) (s3_26 : Int32) (m : Mem) : Ans :=
if (m 3 3) ≤ s3_26 then (some (s2_26, m))
else (bd (f_X11_isIn N s3_26 (m 113 5) m) fun r_48 m_48 =>
if r_48 = 0 then (X s2_26 (s3_26 + 1) m_48)
else (bd (f_X9_at N 3 s3_26 6 m_48) fun r_65 m_65 =>
bd (f_J6_bitCount_0f7a4 N (r_65 &&& ((m_65 113 5) ^^^ (-1 : Int32))) m_65) fun r_78 m_78 =>
bnd (s2_26 + r_78) fun a2_82 =>
X a2_82 (s3_26 + 1) m_78))

def f_X11_gain (N : Nat) (a1 : Int32) (m : Mem) : Ans :=
bd (f_X9_has N 5 a1 m) fun r_8 m_8 =>
if r_8 = 0 then (some ((-1), m_8))
else (bd (f_X11_settle N a1 m_8) fun r_18 m_18 =>
it2 (f_X11_gain_L26 N a1 ) N 0 0 m_18)

set_option maxRecDepth 100000 in
set_option maxHeartbeats 4000000 in
theorem ok_X11_gain_L26 (N d : Nat) (a1 : Int32)    : ∀ (n : Nat) (s2_26 : Int32) (s3_26 : Int32) (m : Mem), Ok none SG (d + 6) m_X11_gain 26 [some (.ref 0), none, some (.int s2_26), some (.int s3_26)] [] SG m (it2 (f_X11_gain_L26 N a1) n s2_26 s3_26 m) :=
  ok_it2 (fun s2_26 s3_26 => [some (.ref 0), none, some (.int s2_26), some (.int s3_26)]) (fun X hX s2_26 s3_26 m => by
    try unfold f_X11_gain_L26
    refine ok_iload_n 27 3 dX11_gain_26 rfl rfl rfl ?_
    refine ok_aload_n 28 0 dX11_gain_27 rfl rfl rfl ?_
    refine ok_getR 31 dX11_gain_28 rfl rfl F_Encores_16 sg_0 rfl (Nat.le_of_ble_eq_true rfl) rfl rfl ?_
    refine ok_getR 34 dX11_gain_31 rfl rfl F_Encores_113 sg_2 rfl (Nat.le_of_ble_eq_true rfl) rfl rfl ?_
    refine ok_getI 37 dX11_gain_34 rfl rfl F_Encores_117 sg_3 rfl (Nat.le_of_ble_eq_true rfl) rfl ?_
    refine ok_icmp_ge 89 40 dX11_gain_37 (by decide) rfl (fun _ => ?_) (fun _ => ?_)
    · refine ok_iload_n 90 2 dX11_gain_89 rfl rfl rfl ?_
      exact ok_iret dX11_gain_90 rfl
    · refine ok_iload_n 41 3 dX11_gain_40 rfl rfl rfl ?_
      refine ok_aload_n 42 0 dX11_gain_41 rfl rfl rfl ?_
      refine ok_getR 45 dX11_gain_42 rfl rfl F_Encores_71 sg_0 rfl (Nat.le_of_ble_eq_true rfl) rfl rfl ?_
      refine ok_getI 48 dX11_gain_45 rfl rfl F_Encores_246 sg_113 rfl (Nat.le_of_ble_eq_true rfl) rfl ?_
      refine ok_callSi (np := 2) (M' := m_X11_isIn) (As := [.int s3_26, .int (m 113 5)]) (st := []) 51 dX11_gain_48 rfl rfl km_X11_isIn ks_X11_isIn ml_Encores_278 (by decide) rfl rfl (Nat.le_of_ble_eq_true rfl) (c_X11_isIn N (d + 5) s3_26 (m 113 5) m) ⟨Nat.le_refl _, Nat.le_refl _⟩ (Or.inl rfl) rfl (fun r_48 m_48 _ => ?_)
      refine ok_if_eq 83 54 dX11_gain_51 (by decide) rfl (fun _ => ?_) (fun _ => ?_)
      · refine ok_iinc 86 3 1 [some (.ref 0), none, some (.int s2_26), some (.int (s3_26 + 1))] dX11_gain_83 rfl rfl rfl (by decide) rfl ?_
        refine ok_goto 26 dX11_gain_86 (by decide) ?_
        exact ok_less [some (.ref 0), none, some (.int s2_26), some (.int (s3_26 + 1))] (And.intro rfl (And.intro rfl (And.intro rfl (trivial)))) (hX s2_26 (s3_26 + 1) m_48)
      · refine ok_iload_n 55 2 dX11_gain_54 rfl rfl rfl ?_
        refine ok_aload_n 56 0 dX11_gain_55 rfl rfl rfl ?_
        refine ok_getR 59 dX11_gain_56 rfl rfl F_Encores_16 sg_0 rfl (Nat.le_of_ble_eq_true rfl) rfl rfl ?_
        refine ok_getR 62 dX11_gain_59 rfl rfl F_Encores_113 sg_2 rfl (Nat.le_of_ble_eq_true rfl) rfl rfl ?_
        refine ok_iload_n 63 3 dX11_gain_62 rfl rfl rfl ?_
        refine ok_bipush 65 6 dX11_gain_63 rfl rfl ?_
        refine ok_callVi (np := 2) (M' := m_X9_at) (As := [.int s3_26, .int 6]) (st := [.int s2_26]) 68 dX11_gain_65 rfl rfl km_X9_at ki_X9_at kv_X9_at ml_Encores_142 (by decide) sg_3 rfl (Nat.le_of_ble_eq_true rfl) rfl rfl rfl (Nat.le_of_ble_eq_true rfl) (c_X9_at N (d + 5) 3 s3_26 6 tg_3 m_48) ⟨Nat.le_refl _, Nat.le_refl _⟩ (Or.inl rfl) rfl (fun r_65 m_65 _ => ?_)
        refine ok_aload_n 69 0 dX11_gain_68 rfl rfl rfl ?_
        refine ok_getR 72 dX11_gain_69 rfl rfl F_Encores_71 sg_0 rfl (Nat.le_of_ble_eq_true rfl) rfl rfl ?_
        refine ok_getI 75 dX11_gain_72 rfl rfl F_Encores_246 sg_113 rfl (Nat.le_of_ble_eq_true rfl) rfl ?_
        refine ok_iconst 76 (-1) dX11_gain_75 rfl rfl ?_
        refine ok_ixor 77 dX11_gain_76 rfl ?_
        refine ok_iand 78 dX11_gain_77 rfl ?_
        refine ok_callSi (np := 1) (M' := m_J6_bitCount_0f7a4) (As := [.int (r_65 &&& ((m_65 113 5) ^^^ (-1 : Int32)))]) (st := [.int s2_26]) 81 dX11_gain_78 rfl rfl km_J6_bitCount_0f7a4 ks_J6_bitCount_0f7a4 ml_Encores_273 (by decide) rfl rfl (Nat.le_of_ble_eq_true rfl) (c_J6_bitCount_0f7a4 N (d + 5) (r_65 &&& ((m_65 113 5) ^^^ (-1 : Int32))) m_65) ⟨Nat.le_refl _, Nat.le_refl _⟩ (Or.inl rfl) rfl (fun r_78 m_78 _ => ?_)
        refine ok_iadd 82 dX11_gain_81 rfl ?_
        refine ok_bndI (fun a2_82 => ?_)
        refine ok_istore_n 83 2 [some (.ref 0), none, some (.int a2_82), some (.int s3_26)] dX11_gain_82 rfl rfl (by decide) rfl ?_
        refine ok_iinc 86 3 1 [some (.ref 0), none, some (.int a2_82), some (.int (s3_26 + 1))] dX11_gain_83 rfl rfl rfl (by decide) rfl ?_
        refine ok_goto 26 dX11_gain_86 (by decide) ?_
        exact ok_less [some (.ref 0), none, some (.int a2_82), some (.int (s3_26 + 1))] (And.intro rfl (And.intro rfl (And.intro rfl (trivial)))) (hX a2_82 (s3_26 + 1) m_78))

set_option maxRecDepth 100000 in
set_option maxHeartbeats 4000000 in
theorem ok_X11_gain (N d : Nat) (a1 : Int32)  (m : Mem) : Ok none SG (d + 6) m_X11_gain 0 [some (.ref 0), some (.int a1), none, none] [] SG m (f_X11_gain N a1 m) := by
  unfold f_X11_gain
  refine ok_aload_n 1 0 dX11_gain_0 rfl rfl rfl ?_
  refine ok_getR 4 dX11_gain_1 rfl rfl F_Encores_16 sg_0 rfl (Nat.le_of_ble_eq_true rfl) rfl rfl ?_
  refine ok_getR 7 dX11_gain_4 rfl rfl F_Encores_131 sg_2 rfl (Nat.le_of_ble_eq_true rfl) rfl rfl ?_
  refine ok_iload_n 8 1 dX11_gain_7 rfl rfl rfl ?_
  refine ok_callVi (np := 1) (M' := m_X9_has) (As := [.int a1]) (st := []) 11 dX11_gain_8 rfl rfl km_X9_has ki_X9_has kv_X9_has ml_Encores_138 (by decide) sg_5 rfl (Nat.le_of_ble_eq_true rfl) rfl rfl rfl (Nat.le_of_ble_eq_true rfl) (c_X9_has N (d + 5) 5 a1 tg_5 m) ⟨Nat.le_refl _, Nat.le_refl _⟩ (Or.inl rfl) rfl (fun r_8 m_8 _ => ?_)
  refine ok_if_ne 16 14 dX11_gain_11 (by decide) rfl (fun _ => ?_) (fun _ => ?_)
  · refine ok_aload_n 17 0 dX11_gain_16 rfl rfl rfl ?_
    refine ok_iload_n 18 1 dX11_gain_17 rfl rfl rfl ?_
    refine ok_callVi (np := 1) (M' := m_X11_settle) (As := [.int a1]) (st := []) 21 dX11_gain_18 rfl rfl km_X11_settle ki_X11_settle kv_X11_settle ml_Encores_243 (by decide) sg_0 rfl (Nat.le_of_ble_eq_true rfl) rfl rfl rfl (Nat.le_of_ble_eq_true rfl) (c_X11_settle N (d + 0) a1 m_8) ⟨Nat.le_refl _, Nat.le_refl _⟩ (Or.inl rfl) rfl (fun r_18 m_18 _ => ?_)
    refine ok_pop 22 dX11_gain_21 rfl rfl ?_
    refine ok_iconst 23 0 dX11_gain_22 rfl rfl ?_
    refine ok_istore_n 24 2 [some (.ref 0), some (.int a1), some (.int 0), none] dX11_gain_23 rfl rfl (by decide) rfl ?_
    refine ok_iconst 25 0 dX11_gain_24 rfl rfl ?_
    refine ok_istore_n 26 3 [some (.ref 0), some (.int a1), some (.int 0), some (.int 0)] dX11_gain_25 rfl rfl (by decide) rfl ?_
    refine ok_less [some (.ref 0), none, some (.int 0), some (.int 0)] (And.intro rfl (And.intro rfl (And.intro rfl (trivial)))) ?_
    exact ok_X11_gain_L26 N d a1    N 0 0 m_18
  · refine ok_iconst 15 (-1) dX11_gain_14 rfl rfl ?_
    exact ok_iret dX11_gain_15 rfl

theorem c_X11_gain (N d : Nat) (a1 : Int32)  (m : Mem) : CM (d + 6) m_X11_gain SG SG [.ref 0, .int a1] m (f_X11_gain N a1 m) :=
  CM.ofOk km_X11_gain ⟨Nat.le_refl _, Nat.le_refl _⟩ (by simp [Value.category]) (Nat.le_of_ble_eq_true rfl) (ok_X11_gain N d a1 m)

def f_X11_calm_L75 (N : Nat) (a1 : Int32)   (X : Int32 → Int32 → Int32 → Int32 → Mem → Ans) (s2_75 : Int32) (s3_75 : Int32) (s4_75 : Int32) (s5_75 : Int32) (m : Mem) : Ans :=
if (m 3 3) ≤ s5_75 then (if a1 = 0 then (some (s2_75, m))
else (some (s4_75, m)))
else (bd (f_X9_at N 3 s5_75 3 m) fun r_100 m_100 =>
if r_100 = (1 : Int32) then (bd (f_X9_at N 3 s5_75 2 m_100) fun r_117 m_117 =>
bnd (s4_75 + r_117) fun a4_127 =>
if r_117 ≤ s3_75 then (X s2_75 s3_75 a4_127 (s5_75 + 1) m_117)
else (X s5_75 r_117 a4_127 (s5_75 + 1) m_117))
else (X s2_75 s3_75 s4_75 (s5_75 + 1) m_100))

def f_X11_calm_J65 (N : Nat) (a1 : Int32)    (m : Mem) : Ans :=
it4 (f_X11_calm_L75 N a1 ) N (-1) (-1) 0 0 m

def f_X11_calm_J54 (N : Nat) (a1 : Int32)    (m : Mem) : Ans :=
if a1 = 0 then (f_X11_calm_J65 N a1 m)
else (if a1 = (1 : Int32) then (f_X11_calm_J65 N a1 m)
else (some ((-1), m)))

def f_X11_calm (N : Nat) (a1 : Int32) (m : Mem) : Ans :=
if a1 < (10 : Int32) then (f_X11_calm_J54 N a1 m)
else (bd (f_X9_has N 5 (a1 - (10 : Int32)) m) fun r_17 m_17 =>
if r_17 = 0 then (f_X11_calm_J54 N a1 m_17)
else (bd (f_X11_settle N (a1 - (10 : Int32)) m_17) fun r_28 m_28 =>
bd (f_X1_those N 3 m_28) fun r_37 m_37 =>
bd (f_J6_bitCount_0f7a4 N (r_37 &&& ((m_37 113 5) ^^^ (-1 : Int32))) m_37) fun r_50 m_50 =>
some (r_50, m_50)))

set_option maxRecDepth 100000 in
set_option maxHeartbeats 4000000 in
theorem ok_X11_calm_L75 (N d : Nat) (a1 : Int32)    : ∀ (n : Nat) (s2_75 : Int32) (s3_75 : Int32) (s4_75 : Int32) (s5_75 : Int32) (m : Mem), Ok none SG (d + 6) m_X11_calm 75 [some (.ref 0), some (.int a1), some (.int s2_75), some (.int s3_75), some (.int s4_75), some (.int s5_75), none] [] SG m (it4 (f_X11_calm_L75 N a1) n s2_75 s3_75 s4_75 s5_75 m) :=
  ok_it4 (fun s2_75 s3_75 s4_75 s5_75 => [some (.ref 0), some (.int a1), some (.int s2_75), some (.int s3_75), some (.int s4_75), some (.int s5_75), none]) (fun X hX s2_75 s3_75 s4_75 s5_75 m => by
    try unfold f_X11_calm_L75
    refine ok_iload 77 5 dX11_calm_75 rfl rfl ?_
    refine ok_aload_n 78 0 dX11_calm_77 rfl rfl rfl ?_
    refine ok_getR 81 dX11_calm_78 rfl rfl F_Encores_16 sg_0 rfl (Nat.le_of_ble_eq_true rfl) rfl rfl ?_
    refine ok_getR 84 dX11_calm_81 rfl rfl F_Encores_113 sg_2 rfl (Nat.le_of_ble_eq_true rfl) rfl rfl ?_
    refine ok_getI 87 dX11_calm_84 rfl rfl F_Encores_117 sg_3 rfl (Nat.le_of_ble_eq_true rfl) rfl ?_
    refine ok_icmp_ge 147 90 dX11_calm_87 (by decide) rfl (fun _ => ?_) (fun _ => ?_)
    · refine ok_iload_n 148 1 dX11_calm_147 rfl rfl rfl ?_
      refine ok_if_ne 155 151 dX11_calm_148 (by decide) rfl (fun _ => ?_) (fun _ => ?_)
      · refine ok_iload 157 4 dX11_calm_155 rfl rfl ?_
        exact ok_iret dX11_calm_157 rfl
      · refine ok_iload_n 152 2 dX11_calm_151 rfl rfl rfl ?_
        refine ok_goto 157 dX11_calm_152 (by decide) ?_
        exact ok_iret dX11_calm_157 rfl
    · refine ok_aload_n 91 0 dX11_calm_90 rfl rfl rfl ?_
      refine ok_getR 94 dX11_calm_91 rfl rfl F_Encores_16 sg_0 rfl (Nat.le_of_ble_eq_true rfl) rfl rfl ?_
      refine ok_getR 97 dX11_calm_94 rfl rfl F_Encores_113 sg_2 rfl (Nat.le_of_ble_eq_true rfl) rfl rfl ?_
      refine ok_iload 99 5 dX11_calm_97 rfl rfl ?_
      refine ok_iconst 100 3 dX11_calm_99 rfl rfl ?_
      refine ok_callVi (np := 2) (M' := m_X9_at) (As := [.int s5_75, .int 3]) (st := []) 103 dX11_calm_100 rfl rfl km_X9_at ki_X9_at kv_X9_at ml_Encores_142 (by decide) sg_3 rfl (Nat.le_of_ble_eq_true rfl) rfl rfl rfl (Nat.le_of_ble_eq_true rfl) (c_X9_at N (d + 5) 3 s5_75 3 tg_3 m) ⟨Nat.le_refl _, Nat.le_refl _⟩ (Or.inl rfl) rfl (fun r_100 m_100 _ => ?_)
      refine ok_iconst 104 1 dX11_calm_103 rfl rfl ?_
      refine ok_icmp_ne 141 107 dX11_calm_104 (by decide) rfl (fun _ => ?_) (fun _ => ?_)
      · refine ok_iinc 144 5 1 [some (.ref 0), some (.int a1), some (.int s2_75), some (.int s3_75), some (.int s4_75), some (.int (s5_75 + 1)), none] dX11_calm_141 rfl rfl rfl (by decide) rfl ?_
        refine ok_goto 75 dX11_calm_144 (by decide) ?_
        exact ok_less [some (.ref 0), some (.int a1), some (.int s2_75), some (.int s3_75), some (.int s4_75), some (.int (s5_75 + 1)), none] (And.intro rfl (And.intro rfl (And.intro rfl (And.intro rfl (And.intro rfl (And.intro rfl (trivial))))))) (hX s2_75 s3_75 s4_75 (s5_75 + 1) m_100)
      · refine ok_aload_n 108 0 dX11_calm_107 rfl rfl rfl ?_
        refine ok_getR 111 dX11_calm_108 rfl rfl F_Encores_16 sg_0 rfl (Nat.le_of_ble_eq_true rfl) rfl rfl ?_
        refine ok_getR 114 dX11_calm_111 rfl rfl F_Encores_113 sg_2 rfl (Nat.le_of_ble_eq_true rfl) rfl rfl ?_
        refine ok_iload 116 5 dX11_calm_114 rfl rfl ?_
        refine ok_iconst 117 2 dX11_calm_116 rfl rfl ?_
        refine ok_callVi (np := 2) (M' := m_X9_at) (As := [.int s5_75, .int 2]) (st := []) 120 dX11_calm_117 rfl rfl km_X9_at ki_X9_at kv_X9_at ml_Encores_142 (by decide) sg_3 rfl (Nat.le_of_ble_eq_true rfl) rfl rfl rfl (Nat.le_of_ble_eq_true rfl) (c_X9_at N (d + 5) 3 s5_75 2 tg_3 m_100) ⟨Nat.le_refl _, Nat.le_refl _⟩ (Or.inl rfl) rfl (fun r_117 m_117 _ => ?_)
        refine ok_istore 122 6 [some (.ref 0), some (.int a1), some (.int s2_75), some (.int s3_75), some (.int s4_75), some (.int s5_75), some (.int r_117)] dX11_calm_120 rfl (by decide) rfl ?_
        refine ok_iload 124 4 dX11_calm_122 rfl rfl ?_
        refine ok_iload 126 6 dX11_calm_124 rfl rfl ?_
        refine ok_iadd 127 dX11_calm_126 rfl ?_
        refine ok_bndI (fun a4_127 => ?_)
        refine ok_istore 129 4 [some (.ref 0), some (.int a1), some (.int s2_75), some (.int s3_75), some (.int a4_127), some (.int s5_75), some (.int r_117)] dX11_calm_127 rfl (by decide) rfl ?_
        refine ok_iload 131 6 dX11_calm_129 rfl rfl ?_
        refine ok_iload_n 132 3 dX11_calm_131 rfl rfl rfl ?_
        refine ok_icmp_le 141 135 dX11_calm_132 (by decide) rfl (fun _ => ?_) (fun _ => ?_)
        · refine ok_iinc 144 5 1 [some (.ref 0), some (.int a1), some (.int s2_75), some (.int s3_75), some (.int a4_127), some (.int (s5_75 + 1)), some (.int r_117)] dX11_calm_141 rfl rfl rfl (by decide) rfl ?_
          refine ok_goto 75 dX11_calm_144 (by decide) ?_
          exact ok_less [some (.ref 0), some (.int a1), some (.int s2_75), some (.int s3_75), some (.int a4_127), some (.int (s5_75 + 1)), none] (And.intro rfl (And.intro rfl (And.intro rfl (And.intro rfl (And.intro rfl (And.intro rfl (trivial))))))) (hX s2_75 s3_75 a4_127 (s5_75 + 1) m_117)
        · refine ok_iload 137 6 dX11_calm_135 rfl rfl ?_
          refine ok_istore_n 138 3 [some (.ref 0), some (.int a1), some (.int s2_75), some (.int r_117), some (.int a4_127), some (.int s5_75), some (.int r_117)] dX11_calm_137 rfl rfl (by decide) rfl ?_
          refine ok_iload 140 5 dX11_calm_138 rfl rfl ?_
          refine ok_istore_n 141 2 [some (.ref 0), some (.int a1), some (.int s5_75), some (.int r_117), some (.int a4_127), some (.int s5_75), some (.int r_117)] dX11_calm_140 rfl rfl (by decide) rfl ?_
          refine ok_iinc 144 5 1 [some (.ref 0), some (.int a1), some (.int s5_75), some (.int r_117), some (.int a4_127), some (.int (s5_75 + 1)), some (.int r_117)] dX11_calm_141 rfl rfl rfl (by decide) rfl ?_
          refine ok_goto 75 dX11_calm_144 (by decide) ?_
          exact ok_less [some (.ref 0), some (.int a1), some (.int s5_75), some (.int r_117), some (.int a4_127), some (.int (s5_75 + 1)), none] (And.intro rfl (And.intro rfl (And.intro rfl (And.intro rfl (And.intro rfl (And.intro rfl (trivial))))))) (hX s5_75 r_117 a4_127 (s5_75 + 1) m_117))

set_option maxRecDepth 100000 in
set_option maxHeartbeats 4000000 in
theorem ok_X11_calm_J65 (N d : Nat) (a1 : Int32)     (m : Mem) : Ok none SG (d + 6) m_X11_calm 65 [some (.ref 0), some (.int a1), none, none, none, none, none] [] SG m (f_X11_calm_J65 N a1 m) := by
  unfold f_X11_calm_J65
  refine ok_iconst 66 (-1) dX11_calm_65 rfl rfl ?_
  refine ok_istore_n 67 2 [some (.ref 0), some (.int a1), some (.int (-1)), none, none, none, none] dX11_calm_66 rfl rfl (by decide) rfl ?_
  refine ok_iconst 68 (-1) dX11_calm_67 rfl rfl ?_
  refine ok_istore_n 69 3 [some (.ref 0), some (.int a1), some (.int (-1)), some (.int (-1)), none, none, none] dX11_calm_68 rfl rfl (by decide) rfl ?_
  refine ok_iconst 70 0 dX11_calm_69 rfl rfl ?_
  refine ok_istore 72 4 [some (.ref 0), some (.int a1), some (.int (-1)), some (.int (-1)), some (.int 0), none, none] dX11_calm_70 rfl (by decide) rfl ?_
  refine ok_iconst 73 0 dX11_calm_72 rfl rfl ?_
  refine ok_istore 75 5 [some (.ref 0), some (.int a1), some (.int (-1)), some (.int (-1)), some (.int 0), some (.int 0), none] dX11_calm_73 rfl (by decide) rfl ?_
  refine ok_less [some (.ref 0), some (.int a1), some (.int (-1)), some (.int (-1)), some (.int 0), some (.int 0), none] (And.intro rfl (And.intro rfl (And.intro rfl (And.intro rfl (And.intro rfl (And.intro rfl (trivial))))))) ?_
  exact ok_X11_calm_L75 N d a1    N (-1) (-1) 0 0 m

set_option maxRecDepth 100000 in
set_option maxHeartbeats 4000000 in
theorem ok_X11_calm_J54 (N d : Nat) (a1 : Int32)     (m : Mem) : Ok none SG (d + 6) m_X11_calm 54 [some (.ref 0), some (.int a1), none, none, none, none, none] [] SG m (f_X11_calm_J54 N a1 m) := by
  unfold f_X11_calm_J54
  refine ok_iload_n 55 1 dX11_calm_54 rfl rfl rfl ?_
  refine ok_if_eq 65 58 dX11_calm_55 (by decide) rfl (fun _ => ?_) (fun _ => ?_)
  · exact ok_less [some (.ref 0), some (.int a1), none, none, none, none, none] (And.intro rfl (And.intro rfl (trivial))) (ok_X11_calm_J65 N d a1   m)
  · refine ok_iload_n 59 1 dX11_calm_58 rfl rfl rfl ?_
    refine ok_iconst 60 1 dX11_calm_59 rfl rfl ?_
    refine ok_icmp_eq 65 63 dX11_calm_60 (by decide) rfl (fun _ => ?_) (fun _ => ?_)
    · exact ok_less [some (.ref 0), some (.int a1), none, none, none, none, none] (And.intro rfl (And.intro rfl (trivial))) (ok_X11_calm_J65 N d a1   m)
    · refine ok_iconst 64 (-1) dX11_calm_63 rfl rfl ?_
      exact ok_iret dX11_calm_64 rfl

set_option maxRecDepth 100000 in
set_option maxHeartbeats 4000000 in
theorem ok_X11_calm (N d : Nat) (a1 : Int32)  (m : Mem) : Ok none SG (d + 6) m_X11_calm 0 [some (.ref 0), some (.int a1), none, none, none, none, none] [] SG m (f_X11_calm N a1 m) := by
  unfold f_X11_calm
  refine ok_iload_n 1 1 dX11_calm_0 rfl rfl rfl ?_
  refine ok_bipush 3 10 dX11_calm_1 rfl rfl ?_
  refine ok_icmp_lt 54 6 dX11_calm_3 (by decide) rfl (fun _ => ?_) (fun _ => ?_)
  · exact ok_less [some (.ref 0), some (.int a1), none, none, none, none, none] (And.intro rfl (And.intro rfl (trivial))) (ok_X11_calm_J54 N d a1   m)
  · refine ok_aload_n 7 0 dX11_calm_6 rfl rfl rfl ?_
    refine ok_getR 10 dX11_calm_7 rfl rfl F_Encores_16 sg_0 rfl (Nat.le_of_ble_eq_true rfl) rfl rfl ?_
    refine ok_getR 13 dX11_calm_10 rfl rfl F_Encores_131 sg_2 rfl (Nat.le_of_ble_eq_true rfl) rfl rfl ?_
    refine ok_iload_n 14 1 dX11_calm_13 rfl rfl rfl ?_
    refine ok_bipush 16 10 dX11_calm_14 rfl rfl ?_
    refine ok_isub 17 dX11_calm_16 rfl ?_
    refine ok_callVi (np := 1) (M' := m_X9_has) (As := [.int (a1 - (10 : Int32))]) (st := []) 20 dX11_calm_17 rfl rfl km_X9_has ki_X9_has kv_X9_has ml_Encores_138 (by decide) sg_5 rfl (Nat.le_of_ble_eq_true rfl) rfl rfl rfl (Nat.le_of_ble_eq_true rfl) (c_X9_has N (d + 5) 5 (a1 - (10 : Int32)) tg_5 m) ⟨Nat.le_refl _, Nat.le_refl _⟩ (Or.inl rfl) rfl (fun r_17 m_17 _ => ?_)
    refine ok_if_eq 54 23 dX11_calm_20 (by decide) rfl (fun _ => ?_) (fun _ => ?_)
    · exact ok_less [some (.ref 0), some (.int a1), none, none, none, none, none] (And.intro rfl (And.intro rfl (trivial))) (ok_X11_calm_J54 N d a1   m_17)
    · refine ok_aload_n 24 0 dX11_calm_23 rfl rfl rfl ?_
      refine ok_iload_n 25 1 dX11_calm_24 rfl rfl rfl ?_
      refine ok_bipush 27 10 dX11_calm_25 rfl rfl ?_
      refine ok_isub 28 dX11_calm_27 rfl ?_
      refine ok_callVi (np := 1) (M' := m_X11_settle) (As := [.int (a1 - (10 : Int32))]) (st := []) 31 dX11_calm_28 rfl rfl km_X11_settle ki_X11_settle kv_X11_settle ml_Encores_243 (by decide) sg_0 rfl (Nat.le_of_ble_eq_true rfl) rfl rfl rfl (Nat.le_of_ble_eq_true rfl) (c_X11_settle N (d + 0) (a1 - (10 : Int32)) m_17) ⟨Nat.le_refl _, Nat.le_refl _⟩ (Or.inl rfl) rfl (fun r_28 m_28 _ => ?_)
      refine ok_pop 32 dX11_calm_31 rfl rfl ?_
      refine ok_aload_n 33 0 dX11_calm_32 rfl rfl rfl ?_
      refine ok_getR 36 dX11_calm_33 rfl rfl F_Encores_16 sg_0 rfl (Nat.le_of_ble_eq_true rfl) rfl rfl ?_
      refine ok_iconst 37 3 dX11_calm_36 rfl rfl ?_
      refine ok_callVi (np := 1) (M' := m_X1_those) (As := [.int 3]) (st := []) 40 dX11_calm_37 rfl rfl km_X1_those ki_X1_those kv_X1_those ml_Encores_215 (by decide) sg_2 rfl (Nat.le_of_ble_eq_true rfl) rfl rfl rfl (Nat.le_of_ble_eq_true rfl) (c_X1_those N (d + 4) 3 m_28) ⟨Nat.le_refl _, Nat.le_refl _⟩ (Or.inl rfl) rfl (fun r_37 m_37 _ => ?_)
      refine ok_aload_n 41 0 dX11_calm_40 rfl rfl rfl ?_
      refine ok_getR 44 dX11_calm_41 rfl rfl F_Encores_71 sg_0 rfl (Nat.le_of_ble_eq_true rfl) rfl rfl ?_
      refine ok_getI 47 dX11_calm_44 rfl rfl F_Encores_246 sg_113 rfl (Nat.le_of_ble_eq_true rfl) rfl ?_
      refine ok_iconst 48 (-1) dX11_calm_47 rfl rfl ?_
      refine ok_ixor 49 dX11_calm_48 rfl ?_
      refine ok_iand 50 dX11_calm_49 rfl ?_
      refine ok_callSi (np := 1) (M' := m_J6_bitCount_0f7a4) (As := [.int (r_37 &&& ((m_37 113 5) ^^^ (-1 : Int32)))]) (st := []) 53 dX11_calm_50 rfl rfl km_J6_bitCount_0f7a4 ks_J6_bitCount_0f7a4 ml_Encores_273 (by decide) rfl rfl (Nat.le_of_ble_eq_true rfl) (c_J6_bitCount_0f7a4 N (d + 5) (r_37 &&& ((m_37 113 5) ^^^ (-1 : Int32))) m_37) ⟨Nat.le_refl _, Nat.le_refl _⟩ (Or.inl rfl) rfl (fun r_50 m_50 _ => ?_)
      exact ok_iret dX11_calm_53 rfl

theorem c_X11_calm (N d : Nat) (a1 : Int32)  (m : Mem) : CM (d + 6) m_X11_calm SG SG [.ref 0, .int a1] m (f_X11_calm N a1 m) :=
  CM.ofOk km_X11_calm ⟨Nat.le_refl _, Nat.le_refl _⟩ (by simp [Value.category]) (Nat.le_of_ble_eq_true rfl) (ok_X11_calm N d a1 m)

