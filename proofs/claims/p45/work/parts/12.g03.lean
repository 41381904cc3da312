variable {SX : SXT}
def f_X11_pay (N : Nat) (a1 : Int32) (a2 : Int32) (m : Mem) : Ans :=
bd (f_X9_has N 3 a1 m) fun r_8 m_8 =>
if r_8 = 0 then (some (0, m_8))
else (bd (f_X11_within N a2 1 99 m_8) fun r_18 m_18 =>
if r_18 = 0 then (some (0, m_18))
else (bd (f_X4_keep N m_18) fun _ m_34 =>
bd (f_X9_at N 3 a1 5 m_34) fun r_57 m_57 =>
bd (f_X9_put N 3 a1 5 (if (r_57 + a2) < (99 : Int32) then (r_57 + a2) else (99 : Int32)) m_57) fun _ m_65 =>
bd (f_X1_hour N 2 m_65) fun r_78 m_78 =>
bd (f_X1_setHour N 2 (r_78 - a2) m_78) fun _ m_83 =>
bd (f_X1_note N 3 a1 a2 m_83) fun _ m_93 =>
some (1, m_93)))

set_option maxRecDepth 100000 in
set_option maxHeartbeats 4000000 in
theorem ok_X11_pay (N d : Nat) (a1 : Int32) (a2 : Int32)  (m : Mem) : Ok SX SG (d + 4) m_X11_pay 0 [some (.ref 0), some (.int a1), some (.int a2)] [] SG m (f_X11_pay N a1 a2 m) := by
  unfold f_X11_pay
  refine ok_aload_n 1 0 dX11_pay_0 rfl rfl rfl ?_
  refine ok_getR 4 dX11_pay_1 rfl rfl F_Encores_16 sg_0 rfl (Nat.le_of_ble_eq_true rfl) rfl rfl ?_
  refine ok_getR 7 dX11_pay_4 rfl rfl F_Encores_113 sg_2 rfl (Nat.le_of_ble_eq_true rfl) rfl rfl ?_
  refine ok_iload_n 8 1 dX11_pay_7 rfl rfl rfl ?_
  refine ok_callVi (np := 1) (M' := m_X9_has) (As := [.int a1]) (st := []) 11 dX11_pay_8 rfl rfl km_X9_has ki_X9_has kv_X9_has ml_Encores_138 (by decide) sg_3 rfl (Nat.le_of_ble_eq_true rfl) rfl rfl rfl (Nat.le_of_ble_eq_true rfl) (c_X9_has N (d + 3) 3 a1 tg_3 m) ⟨Nat.le_refl _, Nat.le_refl _⟩ (Or.inl rfl) rfl (fun r_8 m_8 _ => ?_)
  refine ok_if_eq 24 14 dX11_pay_11 (by decide) rfl (fun _ => ?_) (fun _ => ?_)
  · refine ok_iconst 25 0 dX11_pay_24 rfl rfl ?_
    exact ok_zretc dX11_pay_25 rfl rfl
  · refine ok_iload_n 15 2 dX11_pay_14 rfl rfl rfl ?_
    refine ok_iconst 16 1 dX11_pay_15 rfl rfl ?_
    refine ok_bipush 18 99 dX11_pay_16 rfl rfl ?_
    refine ok_callSi (np := 3) (M' := m_X11_within) (As := [.int a2, .int 1, .int 99]) (st := []) 21 dX11_pay_18 rfl rfl km_X11_within ks_X11_within ml_Encores_109 (by decide) rfl rfl (Nat.le_of_ble_eq_true rfl) (c_X11_within N (d + 3) a2 1 99 m_8) ⟨Nat.le_refl _, Nat.le_refl _⟩ (Or.inl rfl) rfl (fun r_18 m_18 _ => ?_)
    refine ok_if_ne 26 24 dX11_pay_21 (by decide) rfl (fun _ => ?_) (fun _ => ?_)
    · refine ok_aload_n 27 0 dX11_pay_26 rfl rfl rfl ?_
      refine ok_getR 30 dX11_pay_27 rfl rfl F_Encores_30 sg_0 rfl (Nat.le_of_ble_eq_true rfl) rfl rfl ?_
      refine ok_aload_n 31 0 dX11_pay_30 rfl rfl rfl ?_
      refine ok_getR 34 dX11_pay_31 rfl rfl F_Encores_16 sg_0 rfl (Nat.le_of_ble_eq_true rfl) rfl rfl ?_
      refine ok_callVv (np := 1) (M' := m_X4_keep) (As := [.ref 2]) (st := []) 37 dX11_pay_34 rfl rfl km_X4_keep ki_X4_keep kv_X4_keep ml_Encores_146 (by decide) sg_48 rfl (Nat.le_of_ble_eq_true rfl) rfl rfl rfl (Nat.le_of_ble_eq_true rfl) (c_X4_keep N (d + 0) m_18) ⟨Nat.le_refl _, Nat.le_refl _⟩ (Or.inl rfl) rfl (fun _ m_34 _ => ?_)
      refine ok_aload_n 38 0 dX11_pay_37 rfl rfl rfl ?_
      refine ok_getR 41 dX11_pay_38 rfl rfl F_Encores_16 sg_0 rfl (Nat.le_of_ble_eq_true rfl) rfl rfl ?_
      refine ok_getR 44 dX11_pay_41 rfl rfl F_Encores_113 sg_2 rfl (Nat.le_of_ble_eq_true rfl) rfl rfl ?_
      refine ok_iload_n 45 1 dX11_pay_44 rfl rfl rfl ?_
      refine ok_iconst 46 5 dX11_pay_45 rfl rfl ?_
      refine ok_bipush 48 99 dX11_pay_46 rfl rfl ?_
      refine ok_aload_n 49 0 dX11_pay_48 rfl rfl rfl ?_
      refine ok_getR 52 dX11_pay_49 rfl rfl F_Encores_16 sg_0 rfl (Nat.le_of_ble_eq_true rfl) rfl rfl ?_
      refine ok_getR 55 dX11_pay_52 rfl rfl F_Encores_113 sg_2 rfl (Nat.le_of_ble_eq_true rfl) rfl rfl ?_
      refine ok_iload_n 56 1 dX11_pay_55 rfl rfl rfl ?_
      refine ok_iconst 57 5 dX11_pay_56 rfl rfl ?_
      refine ok_callVi (np := 2) (M' := m_X9_at) (As := [.int a1, .int 5]) (st := [.int 99, .int 5, .int a1, .ref 3]) 60 dX11_pay_57 rfl rfl km_X9_at ki_X9_at kv_X9_at ml_Encores_142 (by decide) sg_3 rfl (Nat.le_of_ble_eq_true rfl) rfl rfl rfl (Nat.le_of_ble_eq_true rfl) (c_X9_at N (d + 3) 3 a1 5 tg_3 m_34) ⟨Nat.le_refl _, Nat.le_refl _⟩ (Or.inl rfl) rfl (fun r_57 m_57 _ => ?_)
      refine ok_iload_n 61 2 dX11_pay_60 rfl rfl rfl ?_
      refine ok_iadd 62 dX11_pay_61 rfl ?_
      refine ok_min 65 ⟨Nat.le_refl _, Nat.le_refl _⟩ dX11_pay_62 rfl rfl ml_Encores_152 (Nat.le_of_ble_eq_true rfl) ?_
      refine ok_callVv (np := 3) (M' := m_X9_put) (As := [.int a1, .int 5, .int (if (r_57 + a2) < (99 : Int32) then (r_57 + a2) else (99 : Int32))]) (st := []) 68 dX11_pay_65 rfl rfl km_X9_put ki_X9_put kv_X9_put ml_Encores_127 (by decide) sg_3 rfl (Nat.le_of_ble_eq_true rfl) rfl rfl rfl (Nat.le_of_ble_eq_true rfl) (c_X9_put N (d + 3) 3 a1 5 (if (r_57 + a2) < (99 : Int32) then (r_57 + a2) else (99 : Int32)) tg_3 m_57) ⟨Nat.le_refl _, Nat.le_refl _⟩ (Or.inl rfl) rfl (fun _ m_65 _ => ?_)
      refine ok_aload_n 69 0 dX11_pay_68 rfl rfl rfl ?_
      refine ok_getR 72 dX11_pay_69 rfl rfl F_Encores_16 sg_0 rfl (Nat.le_of_ble_eq_true rfl) rfl rfl ?_
      refine ok_iconst 73 2 dX11_pay_72 rfl rfl ?_
      refine ok_aload_n 74 0 dX11_pay_73 rfl rfl rfl ?_
      refine ok_getR 77 dX11_pay_74 rfl rfl F_Encores_16 sg_0 rfl (Nat.le_of_ble_eq_true rfl) rfl rfl ?_
      refine ok_iconst 78 2 dX11_pay_77 rfl rfl ?_
      refine ok_callVi (np := 1) (M' := m_X1_hour) (As := [.int 2]) (st := [.int 2, .ref 2]) 81 dX11_pay_78 rfl rfl km_X1_hour ki_X1_hour kv_X1_hour ml_Encores_98 (by decide) sg_2 rfl (Nat.le_of_ble_eq_true rfl) rfl rfl rfl (Nat.le_of_ble_eq_true rfl) (c_X1_hour N (d + 2) 2 m_65) ⟨Nat.le_refl _, Nat.le_refl _⟩ (Or.inl rfl) rfl (fun r_78 m_78 _ => ?_)
      refine ok_iload_n 82 2 dX11_pay_81 rfl rfl rfl ?_
      refine ok_isub 83 dX11_pay_82 rfl ?_
      refine ok_callVv (np := 2) (M' := m_X1_setHour) (As := [.int 2, .int (r_78 - a2)]) (st := []) 86 dX11_pay_83 rfl rfl km_X1_setHour ki_X1_setHour kv_X1_setHour ml_Encores_102 (by decide) sg_2 rfl (Nat.le_of_ble_eq_true rfl) rfl rfl rfl (Nat.le_of_ble_eq_true rfl) (c_X1_setHour N (d + 2) 2 (r_78 - a2) m_78) ⟨Nat.le_refl _, Nat.le_refl _⟩ (Or.inl rfl) rfl (fun _ m_83 _ => ?_)
      refine ok_aload_n 87 0 dX11_pay_86 rfl rfl rfl ?_
      refine ok_getR 90 dX11_pay_87 rfl rfl F_Encores_16 sg_0 rfl (Nat.le_of_ble_eq_true rfl) rfl rfl ?_
      refine ok_iconst 91 3 dX11_pay_90 rfl rfl ?_
      refine ok_iload_n 92 1 dX11_pay_91 rfl rfl rfl ?_
      refine ok_iload_n 93 2 dX11_pay_92 rfl rfl rfl ?_
      refine ok_callVv (np := 3) (M' := m_X1_note) (As := [.int 3, .int a1, .int a2]) (st := []) 96 dX11_pay_93 rfl rfl km_X1_note ki_X1_note kv_X1_note ml_Encores_157 (by decide) sg_2 rfl (Nat.le_of_ble_eq_true rfl) rfl rfl rfl (Nat.le_of_ble_eq_true rfl) (c_X1_note N (d + 2) 3 a1 a2 m_83) ⟨Nat.le_refl _, Nat.le_refl _⟩ (Or.inl rfl) rfl (fun _ m_93 _ => ?_)
      refine ok_iconst 97 1 dX11_pay_96 rfl rfl ?_
      exact ok_zretc dX11_pay_97 rfl rfl
    · refine ok_iconst 25 0 dX11_pay_24 rfl rfl ?_
      exact ok_zretc dX11_pay_25 rfl rfl

theorem c_X11_pay (N d : Nat) (a1 : Int32) (a2 : Int32)  (m : Mem) : CM SX (d + 4) m_X11_pay SG SG [.ref 0, .int a1, .int a2] m (f_X11_pay N a1 a2 m) :=
  CM.ofOk km_X11_pay ⟨Nat.le_refl _, Nat.le_refl _⟩ (by simp [Value.category]) (Nat.le_of_ble_eq_true rfl) (ok_X11_pay N d a1 a2 m)

def f_X11_turn_J9 (N : Nat) (a1 : Int32) (a2 : Int32) (a3 : Int32) (a4 : Int32)   (t0_9 : Int32) (m : Mem) : Ans :=
bd (f_X9_has N 3 a1 m) fun r_19 m_19 =>
if r_19 = 0 then (some (0, m_19))
else (bd (f_X9_at N 3 a1 a2 m_19) fun r_34 m_34 =>
if r_34 = t0_9 then (some (0, m_34))
else (bd (f_X4_keep N m_34) fun _ m_52 =>
bd (f_X9_put N 3 a1 a2 t0_9 m_52) fun _ m_66 =>
bd (f_X1_note N a4 a1 t0_9 m_66) fun _ m_78 =>
some (1, m_78)))

def f_X11_turn (N : Nat) (a1 : Int32) (a2 : Int32) (a3 : Int32) (a4 : Int32) (m : Mem) : Ans :=
if a3 = 0 then (f_X11_turn_J9 N a1 a2 a3 a4 0 m)
else (f_X11_turn_J9 N a1 a2 a3 a4 1 m)

set_option maxRecDepth 100000 in
set_option maxHeartbeats 4000000 in
theorem ok_X11_turn_J9 (N d : Nat) (a1 : Int32) (a2 : Int32) (a3 : Int32) (a4 : Int32)    (t0_9 : Int32) (m : Mem) : Ok SX SG (d + 4) m_X11_turn 9 [some (.ref 0), some (.int a1), some (.int a2), none, some (.int a4), none] [.int t0_9] SG m (f_X11_turn_J9 N a1 a2 a3 a4 t0_9 m) := by
  unfold f_X11_turn_J9
  refine ok_istore 11 5 [some (.ref 0), some (.int a1), some (.int a2), none, some (.int a4), some (.int t0_9)] dX11_turn_9 rfl (by decide) rfl ?_
  refine ok_aload_n 12 0 dX11_turn_11 rfl rfl rfl ?_
  refine ok_getR 15 dX11_turn_12 rfl rfl F_Encores_16 sg_0 rfl (Nat.le_of_ble_eq_true rfl) rfl rfl ?_
  refine ok_getR 18 dX11_turn_15 rfl rfl F_Encores_113 sg_2 rfl (Nat.le_of_ble_eq_true rfl) rfl rfl ?_
  refine ok_iload_n 19 1 dX11_turn_18 rfl rfl rfl ?_
  refine ok_callVi (np := 1) (M' := m_X9_has) (As := [.int a1]) (st := []) 22 dX11_turn_19 rfl rfl km_X9_has ki_X9_has kv_X9_has ml_Encores_138 (by decide) sg_3 rfl (Nat.le_of_ble_eq_true rfl) rfl rfl rfl (Nat.le_of_ble_eq_true rfl) (c_X9_has N (d + 3) 3 a1 tg_3 m) ⟨Nat.le_refl _, Nat.le_refl _⟩ (Or.inl rfl) rfl (fun r_19 m_19 _ => ?_)
  refine ok_if_eq 42 25 dX11_turn_22 (by decide) rfl (fun _ => ?_) (fun _ => ?_)
  · refine ok_iconst 43 0 dX11_turn_42 rfl rfl ?_
    exact ok_zretc dX11_turn_43 rfl rfl
  · refine ok_aload_n 26 0 dX11_turn_25 rfl rfl rfl ?_
    refine ok_getR 29 dX11_turn_26 rfl rfl F_Encores_16 sg_0 rfl (Nat.le_of_ble_eq_true rfl) rfl rfl ?_
    refine ok_getR 32 dX11_turn_29 rfl rfl F_Encores_113 sg_2 rfl (Nat.le_of_ble_eq_true rfl) rfl rfl ?_
    refine ok_iload_n 33 1 dX11_turn_32 rfl rfl rfl ?_
    refine ok_iload_n 34 2 dX11_turn_33 rfl rfl rfl ?_
    refine ok_callVi (np := 2) (M' := m_X9_at) (As := [.int a1, .int a2]) (st := []) 37 dX11_turn_34 rfl rfl km_X9_at ki_X9_at kv_X9_at ml_Encores_142 (by decide) sg_3 rfl (Nat.le_of_ble_eq_true rfl) rfl rfl rfl (Nat.le_of_ble_eq_true rfl) (c_X9_at N (d + 3) 3 a1 a2 tg_3 m_19) ⟨Nat.le_refl _, Nat.le_refl _⟩ (Or.inl rfl) rfl (fun r_34 m_34 _ => ?_)
    refine ok_iload 39 5 dX11_turn_37 rfl rfl ?_
    refine ok_icmp_ne 44 42 dX11_turn_39 (by decide) rfl (fun _ => ?_) (fun _ => ?_)
    · refine ok_aload_n 45 0 dX11_turn_44 rfl rfl rfl ?_
      refine ok_getR 48 dX11_turn_45 rfl rfl F_Encores_30 sg_0 rfl (Nat.le_of_ble_eq_true rfl) rfl rfl ?_
      refine ok_aload_n 49 0 dX11_turn_48 rfl rfl rfl ?_
      refine ok_getR 52 dX11_turn_49 rfl rfl F_Encores_16 sg_0 rfl (Nat.le_of_ble_eq_true rfl) rfl rfl ?_
      refine ok_callVv (np := 1) (M' := m_X4_keep) (As := [.ref 2]) (st := []) 55 dX11_turn_52 rfl rfl km_X4_keep ki_X4_keep kv_X4_keep ml_Encores_146 (by decide) sg_48 rfl (Nat.le_of_ble_eq_true rfl) rfl rfl rfl (Nat.le_of_ble_eq_true rfl) (c_X4_keep N (d + 0) m_34) ⟨Nat.le_refl _, Nat.le_refl _⟩ (Or.inl rfl) rfl (fun _ m_52 _ => ?_)
      refine ok_aload_n 56 0 dX11_turn_55 rfl rfl rfl ?_
      refine ok_getR 59 dX11_turn_56 rfl rfl F_Encores_16 sg_0 rfl (Nat.le_of_ble_eq_true rfl) rfl rfl ?_
      refine ok_getR 62 dX11_turn_59 rfl rfl F_Encores_113 sg_2 rfl (Nat.le_of_ble_eq_true rfl) rfl rfl ?_
      refine ok_iload_n 63 1 dX11_turn_62 rfl rfl rfl ?_
      refine ok_iload_n 64 2 dX11_turn_63 rfl rfl rfl ?_
      refine ok_iload 66 5 dX11_turn_64 rfl rfl ?_
      refine ok_callVv (np := 3) (M' := m_X9_put) (As := [.int a1, .int a2, .int t0_9]) (st := []) 69 dX11_turn_66 rfl rfl km_X9_put ki_X9_put kv_X9_put ml_Encores_127 (by decide) sg_3 rfl (Nat.le_of_ble_eq_true rfl) rfl rfl rfl (Nat.le_of_ble_eq_true rfl) (c_X9_put N (d + 3) 3 a1 a2 t0_9 tg_3 m_52) ⟨Nat.le_refl _, Nat.le_refl _⟩ (Or.inl rfl) rfl (fun _ m_66 _ => ?_)
      refine ok_aload_n 70 0 dX11_turn_69 rfl rfl rfl ?_
      refine ok_getR 73 dX11_turn_70 rfl rfl F_Encores_16 sg_0 rfl (Nat.le_of_ble_eq_true rfl) rfl rfl ?_
      refine ok_iload 75 4 dX11_turn_73 rfl rfl ?_
      refine ok_iload_n 76 1 dX11_turn_75 rfl rfl rfl ?_
      refine ok_iload 78 5 dX11_turn_76 rfl rfl ?_
      refine ok_callVv (np := 3) (M' := m_X1_note) (As := [.int a4, .int a1, .int t0_9]) (st := []) 81 dX11_turn_78 rfl rfl km_X1_note ki_X1_note kv_X1_note ml_Encores_157 (by decide) sg_2 rfl (Nat.le_of_ble_eq_true rfl) rfl rfl rfl (Nat.le_of_ble_eq_true rfl) (c_X1_note N (d + 2) a4 a1 t0_9 m_66) ⟨Nat.le_refl _, Nat.le_refl _⟩ (Or.inl rfl) rfl (fun _ m_78 _ => ?_)
      refine ok_iconst 82 1 dX11_turn_81 rfl rfl ?_
      exact ok_zretc dX11_turn_82 rfl rfl
    · refine ok_iconst 43 0 dX11_turn_42 rfl rfl ?_
      exact ok_zretc dX11_turn_43 rfl rfl

set_option maxRecDepth 100000 in
set_option maxHeartbeats 4000000 in
theorem ok_X11_turn (N d : Nat) (a1 : Int32) (a2 : Int32) (a3 : Int32) (a4 : Int32)  (m : Mem) : Ok SX SG (d + 4) m_X11_turn 0 [some (.ref 0), some (.int a1), some (.int a2), some (.int a3), some (.int a4), none] [] SG m (f_X11_turn N a1 a2 a3 a4 m) := by
  unfold f_X11_turn
  refine ok_iload_n 1 3 dX11_turn_0 rfl rfl rfl ?_
  refine ok_if_eq 8 4 dX11_turn_1 (by decide) rfl (fun _ => ?_) (fun _ => ?_)
  · refine ok_iconst 9 0 dX11_turn_8 rfl rfl ?_
    exact ok_less [some (.ref 0), some (.int a1), some (.int a2), none, some (.int a4), none] (And.intro rfl (And.intro rfl (And.intro rfl (And.intro rfl (trivial))))) (ok_X11_turn_J9 N d a1 a2 a3 a4   0 m)
  · refine ok_iconst 5 1 dX11_turn_4 rfl rfl ?_
    refine ok_goto 9 dX11_turn_5 (by decide) ?_
    exact ok_less [some (.ref 0), some (.int a1), some (.int a2), none, some (.int a4), none] (And.intro rfl (And.intro rfl (And.intro rfl (And.intro rfl (trivial))))) (ok_X11_turn_J9 N d a1 a2 a3 a4   1 m)

theorem c_X11_turn (N d : Nat) (a1 : Int32) (a2 : Int32) (a3 : Int32) (a4 : Int32)  (m : Mem) : CM SX (d + 4) m_X11_turn SG SG [.ref 0, .int a1, .int a2, .int a3, .int a4] m (f_X11_turn N a1 a2 a3 a4 m) :=
  CM.ofOk km_X11_turn ⟨Nat.le_refl _, Nat.le_refl _⟩ (by simp [Value.category]) (Nat.le_of_ble_eq_true rfl) (ok_X11_turn N d a1 a2 a3 a4 m)

def f_X11_glove (N : Nat) (a1 : Int32) (a2 : Int32) (m : Mem) : Ans :=
bd (f_X11_turn N a1 4 a2 4 m) fun r_5 m_5 =>
chk (isB r_5) (some (r_5, m_5))

set_option maxRecDepth 100000 in
set_option maxHeartbeats 4000000 in
theorem ok_X11_glove (N d : Nat) (a1 : Int32) (a2 : Int32)  (m : Mem) : Ok SX SG (d + 5) m_X11_glove 0 [some (.ref 0), some (.int a1), some (.int a2)] [] SG m (f_X11_glove N a1 a2 m) := by
  unfold f_X11_glove
  refine ok_aload_n 1 0 dX11_glove_0 rfl rfl rfl ?_
  refine ok_iload_n 2 1 dX11_glove_1 rfl rfl rfl ?_
  refine ok_iconst 3 4 dX11_glove_2 rfl rfl ?_
  refine ok_iload_n 4 2 dX11_glove_3 rfl rfl rfl ?_
  refine ok_iconst 5 4 dX11_glove_4 rfl rfl ?_
  refine ok_callVi (np := 4) (M' := m_X11_turn) (As := [.int a1, .int 4, .int a2, .int 4]) (st := []) 8 dX11_glove_5 rfl rfl km_X11_turn ki_X11_turn kv_X11_turn ml_Encores_160 (by decide) sg_0 rfl (Nat.le_of_ble_eq_true rfl) rfl rfl rfl (Nat.le_of_ble_eq_true rfl) (c_X11_turn N (d + 0) a1 4 a2 4 m) ⟨Nat.le_refl _, Nat.le_refl _⟩ (Or.inl rfl) rfl (fun r_5 m_5 _ => ?_)
  exact ok_zret dX11_glove_8 rfl

theorem c_X11_glove (N d : Nat) (a1 : Int32) (a2 : Int32)  (m : Mem) : CM SX (d + 5) m_X11_glove SG SG [.ref 0, .int a1, .int a2] m (f_X11_glove N a1 a2 m) :=
  CM.ofOk km_X11_glove ⟨Nat.le_refl _, Nat.le_refl _⟩ (by simp [Value.category]) (Nat.le_of_ble_eq_true rfl) (ok_X11_glove N d a1 a2 m)

def f_X11_let (N : Nat) (a1 : Int32) (a2 : Int32) (m : Mem) : Ans :=
bd (f_X11_turn N a1 3 a2 5 m) fun r_5 m_5 =>
chk (isB r_5) (some (r_5, m_5))

set_option maxRecDepth 100000 in
set_option maxHeartbeats 4000000 in
theorem ok_X11_let (N d : Nat) (a1 : Int32) (a2 : Int32)  (m : Mem) : Ok SX SG (d + 5) m_X11_let 0 [some (.ref 0), some (.int a1), some (.int a2)] [] SG m (f_X11_let N a1 a2 m) := by
  unfold f_X11_let
  refine ok_aload_n 1 0 dX11_let_0 rfl rfl rfl ?_
  refine ok_iload_n 2 1 dX11_let_1 rfl rfl rfl ?_
  refine ok_iconst 3 3 dX11_let_2 rfl rfl ?_
  refine ok_iload_n 4 2 dX11_let_3 rfl rfl rfl ?_
  refine ok_iconst 5 5 dX11_let_4 rfl rfl ?_
  refine ok_callVi (np := 4) (M' := m_X11_turn) (As := [.int a1, .int 3, .int a2, .int 5]) (st := []) 8 dX11_let_5 rfl rfl km_X11_turn ki_X11_turn kv_X11_turn ml_Encores_160 (by decide) sg_0 rfl (Nat.le_of_ble_eq_true rfl) rfl rfl rfl (Nat.le_of_ble_eq_true rfl) (c_X11_turn N (d + 0) a1 3 a2 5 m) ⟨Nat.le_refl _, Nat.le_refl _⟩ (Or.inl rfl) rfl (fun r_5 m_5 _ => ?_)
  exact ok_zret dX11_let_8 rfl

theorem c_X11_let (N d : Nat) (a1 : Int32) (a2 : Int32)  (m : Mem) : CM SX (d + 5) m_X11_let SG SG [.ref 0, .int a1, .int a2] m (f_X11_let N a1 a2 m) :=
  CM.ofOk km_X11_let ⟨Nat.le_refl _, Nat.le_refl _⟩ (by simp [Value.category]) (Nat.le_of_ble_eq_true rfl) (ok_X11_let N d a1 a2 m)

def f_X11_evenings_L32 (N : Nat) (a1 : Int32)   (X : Int32 → Int32 → Mem → Ans) (s2_32 : Int32) (s3_32 : Int32) (m : Mem) : Ans :=
if a1 ≤ s3_32 then (some (s2_32, m))
else (bd (f_X4_keep N m) fun _ m_45 =>
bd (f_X8_spendEvening N m_45) fun r_53 m_53 =>
bnd (s2_32 + r_53) fun a2_57 =>
X a2_57 (s3_32 + 1) m_53)

def f_X11_evenings (N : Nat) (a1 : Int32) (m : Mem) : Ans :=
bd (f_X11_within N a1 1 20 m) fun r_4 m_4 =>
if r_4 = 0 then (some ((-1), m_4))
else (bd (f_X1_hour N 1 m_4) fun r_15 m_15 =>
if (r_15 + a1) ≤ (9999 : Int32) then (it2 (f_X11_evenings_L32 N a1 ) N 0 0 m_15)
else (some ((-1), m_15)))

set_option maxRecDepth 100000 in
set_option maxHeartbeats 4000000 in
theorem ok_X11_evenings_L32 (N d : Nat) (a1 : Int32)    : ∀ (n : Nat) (s2_32 : Int32) (s3_32 : Int32) (m : Mem), Ok SX SG (d + 7) m_X11_evenings 32 [some (.ref 0), some (.int a1), some (.int s2_32), some (.int s3_32)] [] SG m (it2 (f_X11_evenings_L32 N a1) n s2_32 s3_32 m) :=
  ok_it2 (fun s2_32 s3_32 => [some (.ref 0), some (.int a1), some (.int s2_32), some (.int s3_32)]) (fun X hX s2_32 s3_32 m => by
    try unfold f_X11_evenings_L32
    refine ok_iload_n 33 3 dX11_evenings_32 rfl rfl rfl ?_
    refine ok_iload_n 34 1 dX11_evenings_33 rfl rfl rfl ?_
    refine ok_icmp_ge 64 37 dX11_evenings_34 (by decide) rfl (fun _ => ?_) (fun _ => ?_)
    · refine ok_iload_n 65 2 dX11_evenings_64 rfl rfl rfl ?_
      exact ok_iret dX11_evenings_65 rfl
    · refine ok_aload_n 38 0 dX11_evenings_37 rfl rfl rfl ?_
      refine ok_getR 41 dX11_evenings_38 rfl rfl F_Encores_30 sg_0 rfl (Nat.le_of_ble_eq_true rfl) rfl rfl ?_
      refine ok_aload_n 42 0 dX11_evenings_41 rfl rfl rfl ?_
      refine ok_getR 45 dX11_evenings_42 rfl rfl F_Encores_16 sg_0 rfl (Nat.le_of_ble_eq_true rfl) rfl rfl ?_
      refine ok_callVv (np := 1) (M' := m_X4_keep) (As := [.ref 2]) (st := []) 48 dX11_evenings_45 rfl rfl km_X4_keep ki_X4_keep kv_X4_keep ml_Encores_146 (by decide) sg_48 rfl (Nat.le_of_ble_eq_true rfl) rfl rfl rfl (Nat.le_of_ble_eq_true rfl) (c_X4_keep N (d + 3) m) ⟨Nat.le_refl _, Nat.le_refl _⟩ (Or.inl rfl) rfl (fun _ m_45 _ => ?_)
      refine ok_iload_n 49 2 dX11_evenings_48 rfl rfl rfl ?_
      refine ok_aload_n 50 0 dX11_evenings_49 rfl rfl rfl ?_
      refine ok_getR 53 dX11_evenings_50 rfl rfl F_Encores_71 sg_0 rfl (Nat.le_of_ble_eq_true rfl) rfl rfl ?_
      refine ok_callVi (np := 0) (M' := m_X8_spendEvening) (As := []) (st := [.int s2_32]) 56 dX11_evenings_53 rfl rfl km_X8_spendEvening ki_X8_spendEvening kv_X8_spendEvening ml_Encores_164 (by decide) sg_113 rfl (Nat.le_of_ble_eq_true rfl) rfl rfl rfl (Nat.le_of_ble_eq_true rfl) (c_X8_spendEvening N (d + 0) m_45) ⟨Nat.le_refl _, Nat.le_refl _⟩ (Or.inl rfl) rfl (fun r_53 m_53 _ => ?_)
      refine ok_iadd 57 dX11_evenings_56 rfl ?_
      refine ok_bndI (fun a2_57 => ?_)
      refine ok_istore_n 58 2 [some (.ref 0), some (.int a1), some (.int a2_57), some (.int s3_32)] dX11_evenings_57 rfl rfl (by decide) rfl ?_
      refine ok_iinc 61 3 1 [some (.ref 0), some (.int a1), some (.int a2_57), some (.int (s3_32 + 1))] dX11_evenings_58 rfl rfl rfl (by decide) rfl ?_
      refine ok_goto 32 dX11_evenings_61 (by decide) ?_
      exact ok_less [some (.ref 0), some (.int a1), some (.int a2_57), some (.int (s3_32 + 1))] (And.intro rfl (And.intro rfl (And.intro rfl (And.intro rfl (trivial))))) (hX a2_57 (s3_32 + 1) m_53))

set_option maxRecDepth 100000 in
set_option maxHeartbeats 4000000 in
theorem ok_X11_evenings (N d : Nat) (a1 : Int32)  (m : Mem) : Ok SX SG (d + 7) m_X11_evenings 0 [some (.ref 0), some (.int a1), none, none] [] SG m (f_X11_evenings N a1 m) := by
  unfold f_X11_evenings
  refine ok_iload_n 1 1 dX11_evenings_0 rfl rfl rfl ?_
  refine ok_iconst 2 1 dX11_evenings_1 rfl rfl ?_
  refine ok_bipush 4 20 dX11_evenings_2 rfl rfl ?_
  refine ok_callSi (np := 3) (M' := m_X11_within) (As := [.int a1, .int 1, .int 20]) (st := []) 7 dX11_evenings_4 rfl rfl km_X11_within ks_X11_within ml_Encores_109 (by decide) rfl rfl (Nat.le_of_ble_eq_true rfl) (c_X11_within N (d + 6) a1 1 20 m) ⟨Nat.le_refl _, Nat.le_refl _⟩ (Or.inl rfl) rfl (fun r_4 m_4 _ => ?_)
  refine ok_if_eq 26 10 dX11_evenings_7 (by decide) rfl (fun _ => ?_) (fun _ => ?_)
  · refine ok_iconst 27 (-1) dX11_evenings_26 rfl rfl ?_
    exact ok_iret dX11_evenings_27 rfl
  · refine ok_aload_n 11 0 dX11_evenings_10 rfl rfl rfl ?_
    refine ok_getR 14 dX11_evenings_11 rfl rfl F_Encores_16 sg_0 rfl (Nat.le_of_ble_eq_true rfl) rfl rfl ?_
    refine ok_iconst 15 1 dX11_evenings_14 rfl rfl ?_
    refine ok_callVi (np := 1) (M' := m_X1_hour) (As := [.int 1]) (st := []) 18 dX11_evenings_15 rfl rfl km_X1_hour ki_X1_hour kv_X1_hour ml_Encores_98 (by decide) sg_2 rfl (Nat.le_of_ble_eq_true rfl) rfl rfl rfl (Nat.le_of_ble_eq_true rfl) (c_X1_hour N (d + 5) 1 m_4) ⟨Nat.le_refl _, Nat.le_refl _⟩ (Or.inl rfl) rfl (fun r_15 m_15 _ => ?_)
    refine ok_iload_n 19 1 dX11_evenings_18 rfl rfl rfl ?_
    refine ok_iadd 20 dX11_evenings_19 rfl ?_
    refine ok_sipush 23 9999 dX11_evenings_20 rfl rfl ?_
    refine ok_icmp_le 28 26 dX11_evenings_23 (by decide) rfl (fun _ => ?_) (fun _ => ?_)
    · refine ok_iconst 29 0 dX11_evenings_28 rfl rfl ?_
      refine ok_istore_n 30 2 [some (.ref 0), some (.int a1), some (.int 0), none] dX11_evenings_29 rfl rfl (by decide) rfl ?_
      refine ok_iconst 31 0 dX11_evenings_30 rfl rfl ?_
      refine ok_istore_n 32 3 [some (.ref 0), some (.int a1), some (.int 0), some (.int 0)] dX11_evenings_31 rfl rfl (by decide) rfl ?_
      refine ok_less [some (.ref 0), some (.int a1), some (.int 0), some (.int 0)] (And.intro rfl (And.intro rfl (And.intro rfl (And.intro rfl (trivial))))) ?_
      exact ok_X11_evenings_L32 N d a1    N 0 0 m_15
    · refine ok_iconst 27 (-1) dX11_evenings_26 rfl rfl ?_
      exact ok_iret dX11_evenings_27 rfl

theorem c_X11_evenings (N d : Nat) (a1 : Int32)  (m : Mem) : CM SX (d + 7) m_X11_evenings SG SG [.ref 0, .int a1] m (f_X11_evenings N a1 m) :=
  CM.ofOk km_X11_evenings ⟨Nat.le_refl _, Nat.le_refl _⟩ (by simp [Value.category]) (Nat.le_of_ble_eq_true rfl) (ok_X11_evenings N d a1 m)

def f_X11_feed (N : Nat) (a1 : Int32) (a2 : Int32) (a3 : Int32) (a4 : Int32) (a5 : Int32) (m : Mem) : Ans :=
bd (f_X10_hasRoom N 20 m) fun r_6 m_6 =>
if r_6 = 0 then (some ((-1), m_6))
else (bd (f_X10_append N a1 m_6) fun _ m_19 =>
bd (f_X10_append N a2 m_19) fun _ m_27 =>
bd (f_X10_append N a3 m_27) fun _ m_35 =>
bd (f_X10_append N a4 m_35) fun _ m_44 =>
bd (f_X10_append N a5 m_44) fun _ m_53 =>
some (m_53 99 2, m_53))

set_option maxRecDepth 100000 in
set_option maxHeartbeats 4000000 in
theorem ok_X11_feed (N d : Nat) (a1 : Int32) (a2 : Int32) (a3 : Int32) (a4 : Int32) (a5 : Int32)  (m : Mem) : Ok SX SG (d + 1) m_X11_feed 0 [some (.ref 0), some (.int a1), some (.int a2), some (.int a3), some (.int a4), some (.int a5)] [] SG m (f_X11_feed N a1 a2 a3 a4 a5 m) := by
  unfold f_X11_feed
  refine ok_aload_n 1 0 dX11_feed_0 rfl rfl rfl ?_
  refine ok_getR 4 dX11_feed_1 rfl rfl F_Encores_44 sg_0 rfl (Nat.le_of_ble_eq_true rfl) rfl rfl ?_
  refine ok_bipush 6 20 dX11_feed_4 rfl rfl ?_
  refine ok_callVi (np := 1) (M' := m_X10_hasRoom) (As := [.int 20]) (st := []) 9 dX11_feed_6 rfl rfl km_X10_hasRoom ki_X10_hasRoom kv_X10_hasRoom ml_Encores_168 (by decide) sg_99 rfl (Nat.le_of_ble_eq_true rfl) rfl rfl rfl (Nat.le_of_ble_eq_true rfl) (c_X10_hasRoom N (d + 0) 20 m) ⟨Nat.le_refl _, Nat.le_refl _⟩ (Or.inl rfl) rfl (fun r_6 m_6 _ => ?_)
  refine ok_if_ne 14 12 dX11_feed_9 (by decide) rfl (fun _ => ?_) (fun _ => ?_)
  · refine ok_aload_n 15 0 dX11_feed_14 rfl rfl rfl ?_
    refine ok_getR 18 dX11_feed_15 rfl rfl F_Encores_44 sg_0 rfl (Nat.le_of_ble_eq_true rfl) rfl rfl ?_
    refine ok_iload_n 19 1 dX11_feed_18 rfl rfl rfl ?_
    refine ok_callVv (np := 1) (M' := m_X10_append) (As := [.int a1]) (st := []) 22 dX11_feed_19 rfl rfl km_X10_append ki_X10_append kv_X10_append ml_Encores_171 (by decide) sg_99 rfl (Nat.le_of_ble_eq_true rfl) rfl rfl rfl (Nat.le_of_ble_eq_true rfl) (c_X10_append N (d + 0) a1 m_6) ⟨Nat.le_refl _, Nat.le_refl _⟩ (Or.inl rfl) rfl (fun _ m_19 _ => ?_)
    refine ok_aload_n 23 0 dX11_feed_22 rfl rfl rfl ?_
    refine ok_getR 26 dX11_feed_23 rfl rfl F_Encores_44 sg_0 rfl (Nat.le_of_ble_eq_true rfl) rfl rfl ?_
    refine ok_iload_n 27 2 dX11_feed_26 rfl rfl rfl ?_
    refine ok_callVv (np := 1) (M' := m_X10_append) (As := [.int a2]) (st := []) 30 dX11_feed_27 rfl rfl km_X10_append ki_X10_append kv_X10_append ml_Encores_171 (by decide) sg_99 rfl (Nat.le_of_ble_eq_true rfl) rfl rfl rfl (Nat.le_of_ble_eq_true rfl) (c_X10_append N (d + 0) a2 m_19) ⟨Nat.le_refl _, Nat.le_refl _⟩ (Or.inl rfl) rfl (fun _ m_27 _ => ?_)
    refine ok_aload_n 31 0 dX11_feed_30 rfl rfl rfl ?_
    refine ok_getR 34 dX11_feed_31 rfl rfl F_Encores_44 sg_0 rfl (Nat.le_of_ble_eq_true rfl) rfl rfl ?_
    refine ok_iload_n 35 3 dX11_feed_34 rfl rfl rfl ?_
    refine ok_callVv (np := 1) (M' := m_X10_append) (As := [.int a3]) (st := []) 38 dX11_feed_35 rfl rfl km_X10_append ki_X10_append kv_X10_append ml_Encores_171 (by decide) sg_99 rfl (Nat.le_of_ble_eq_true rfl) rfl rfl rfl (Nat.le_of_ble_eq_true rfl) (c_X10_append N (d + 0) a3 m_27) ⟨Nat.le_refl _, Nat.le_refl _⟩ (Or.inl rfl) rfl (fun _ m_35 _ => ?_)
    refine ok_aload_n 39 0 dX11_feed_38 rfl rfl rfl ?_
    refine ok_getR 42 dX11_feed_39 rfl rfl F_Encores_44 sg_0 rfl (Nat.le_of_ble_eq_true rfl) rfl rfl ?_
    refine ok_iload 44 4 dX11_feed_42 rfl rfl ?_
    refine ok_callVv (np := 1) (M' := m_X10_append) (As := [.int a4]) (st := []) 47 dX11_feed_44 rfl rfl km_X10_append ki_X10_append kv_X10_append ml_Encores_171 (by decide) sg_99 rfl (Nat.le_of_ble_eq_true rfl) rfl rfl rfl (Nat.le_of_ble_eq_true rfl) (c_X10_append N (d + 0) a4 m_35) ⟨Nat.le_refl _, Nat.le_refl _⟩ (Or.inl rfl) rfl (fun _ m_44 _ => ?_)
    refine ok_aload_n 48 0 dX11_feed_47 rfl rfl rfl ?_
    refine ok_getR 51 dX11_feed_48 rfl rfl F_Encores_44 sg_0 rfl (Nat.le_of_ble_eq_true rfl) rfl rfl ?_
    refine ok_iload 53 5 dX11_feed_51 rfl rfl ?_
    refine ok_callVv (np := 1) (M' := m_X10_append) (As := [.int a5]) (st := []) 56 dX11_feed_53 rfl rfl km_X10_append ki_X10_append kv_X10_append ml_Encores_171 (by decide) sg_99 rfl (Nat.le_of_ble_eq_true rfl) rfl rfl rfl (Nat.le_of_ble_eq_true rfl) (c_X10_append N (d + 0) a5 m_44) ⟨Nat.le_refl _, Nat.le_refl _⟩ (Or.inl rfl) rfl (fun _ m_53 _ => ?_)
    refine ok_aload_n 57 0 dX11_feed_56 rfl rfl rfl ?_
    refine ok_getR 60 dX11_feed_57 rfl rfl F_Encores_44 sg_0 rfl (Nat.le_of_ble_eq_true rfl) rfl rfl ?_
    refine ok_getI 63 dX11_feed_60 rfl rfl F_Encores_175 sg_99 rfl (Nat.le_of_ble_eq_true rfl) rfl ?_
    exact ok_iret dX11_feed_63 rfl
  · refine ok_iconst 13 (-1) dX11_feed_12 rfl rfl ?_
    exact ok_iret dX11_feed_13 rfl

theorem c_X11_feed (N d : Nat) (a1 : Int32) (a2 : Int32) (a3 : Int32) (a4 : Int32) (a5 : Int32)  (m : Mem) : CM SX (d + 1) m_X11_feed SG SG [.ref 0, .int a1, .int a2, .int a3, .int a4, .int a5] m (f_X11_feed N a1 a2 a3 a4 a5 m) :=
  CM.ofOk km_X11_feed ⟨Nat.le_refl _, Nat.le_refl _⟩ (by simp [Value.category]) (Nat.le_of_ble_eq_true rfl) (ok_X11_feed N d a1 a2 a3 a4 a5 m)

def f_X11_end (N : Nat) (a1 : Int32) (m : Mem) : Ans :=
bd (f_X11_within N a1 0 (m 99 2) m) fun r_9 m_9 =>
if r_9 = 0 then (some (0, m_9))
else (bnd (mset m_9 99 2 a1) fun m_22 =>
some (1, m_22))

set_option maxRecDepth 100000 in
set_option maxHeartbeats 4000000 in
theorem ok_X11_end (N d : Nat) (a1 : Int32)  (m : Mem) : Ok SX SG (d + 1) m_X11_end 0 [some (.ref 0), some (.int a1)] [] SG m (f_X11_end N a1 m) := by
  unfold f_X11_end
  refine ok_iload_n 1 1 dX11_end_0 rfl rfl rfl ?_
  refine ok_iconst 2 0 dX11_end_1 rfl rfl ?_
  refine ok_aload_n 3 0 dX11_end_2 rfl rfl rfl ?_
  refine ok_getR 6 dX11_end_3 rfl rfl F_Encores_44 sg_0 rfl (Nat.le_of_ble_eq_true rfl) rfl rfl ?_
  refine ok_getI 9 dX11_end_6 rfl rfl F_Encores_175 sg_99 rfl (Nat.le_of_ble_eq_true rfl) rfl ?_
  refine ok_callSi (np := 3) (M' := m_X11_within) (As := [.int a1, .int 0, .int (m 99 2)]) (st := []) 12 dX11_end_9 rfl rfl km_X11_within ks_X11_within ml_Encores_109 (by decide) rfl rfl (Nat.le_of_ble_eq_true rfl) (c_X11_within N (d + 0) a1 0 (m 99 2) m) ⟨Nat.le_refl _, Nat.le_refl _⟩ (Or.inl rfl) rfl (fun r_9 m_9 _ => ?_)
  refine ok_if_ne 17 15 dX11_end_12 (by decide) rfl (fun _ => ?_) (fun _ => ?_)
  · refine ok_aload_n 18 0 dX11_end_17 rfl rfl rfl ?_
    refine ok_getR 21 dX11_end_18 rfl rfl F_Encores_44 sg_0 rfl (Nat.le_of_ble_eq_true rfl) rfl rfl ?_
    refine ok_iload_n 22 1 dX11_end_21 rfl rfl rfl ?_
    refine ok_putI 25 dX11_end_22 rfl rfl F_Encores_175 sg_99 rfl (Nat.le_of_ble_eq_true rfl) rfl rfl pZ_10_2 rfl rfl ?_
    refine ok_bndM (fun m_22 => ?_)
    refine ok_iconst 26 1 dX11_end_25 rfl rfl ?_
    exact ok_zretc dX11_end_26 rfl rfl
  · refine ok_iconst 16 0 dX11_end_15 rfl rfl ?_
    exact ok_zretc dX11_end_16 rfl rfl

theorem c_X11_end (N d : Nat) (a1 : Int32)  (m : Mem) : CM SX (d + 1) m_X11_end SG SG [.ref 0, .int a1] m (f_X11_end N a1 m) :=
  CM.ofOk km_X11_end ⟨Nat.le_refl _, Nat.le_refl _⟩ (by simp [Value.category]) (Nat.le_of_ble_eq_true rfl) (ok_X11_end N d a1 m)

def f_X11_text (N : Nat) (a1 : Int32) (m : Mem) : Ans :=
bd (f_X6_read N a1 (m 3 3) (m 5 3) m) fun _ m_25 =>
bnd (mset m_25 99 2 0) fun m_33 =>
bd (f_X11_within N a1 0 3 m_33) fun r_39 m_39 =>
if r_39 = 0 then (some ((-1), m_39))
else (if (m_39 103 3) = 0 then (bd (f_X1_takeText N a1 m_39) fun _ m_76 =>
if a1 = 0 then (some (m_76 104 3, m_76))
else (bd (f_X4_forget N m_76) fun _ m_87 =>
some (m_87 104 3, m_87)))
else (some ((-1), m_39)))

set_option maxRecDepth 100000 in
set_option maxHeartbeats 4000000 in
theorem ok_X11_text (N d : Nat) (a1 : Int32)  (m : Mem) : Ok SX SG (d + 9) m_X11_text 0 [some (.ref 0), some (.int a1)] [] SG m (f_X11_text N a1 m) := by
  unfold f_X11_text
  refine ok_aload_n 1 0 dX11_text_0 rfl rfl rfl ?_
  refine ok_getR 4 dX11_text_1 rfl rfl F_Encores_53 sg_0 rfl (Nat.le_of_ble_eq_true rfl) rfl rfl ?_
  refine ok_iload_n 5 1 dX11_text_4 rfl rfl rfl ?_
  refine ok_aload_n 6 0 dX11_text_5 rfl rfl rfl ?_
  refine ok_getR 9 dX11_text_6 rfl rfl F_Encores_16 sg_0 rfl (Nat.le_of_ble_eq_true rfl) rfl rfl ?_
  refine ok_getR 12 dX11_text_9 rfl rfl F_Encores_113 sg_2 rfl (Nat.le_of_ble_eq_true rfl) rfl rfl ?_
  refine ok_getI 15 dX11_text_12 rfl rfl F_Encores_117 sg_3 rfl (Nat.le_of_ble_eq_true rfl) rfl ?_
  refine ok_aload_n 16 0 dX11_text_15 rfl rfl rfl ?_
  refine ok_getR 19 dX11_text_16 rfl rfl F_Encores_16 sg_0 rfl (Nat.le_of_ble_eq_true rfl) rfl rfl ?_
  refine ok_getR 22 dX11_text_19 rfl rfl F_Encores_131 sg_2 rfl (Nat.le_of_ble_eq_true rfl) rfl rfl ?_
  refine ok_getI 25 dX11_text_22 rfl rfl F_Encores_117 sg_5 rfl (Nat.le_of_ble_eq_true rfl) rfl ?_
  refine ok_callVv (np := 3) (M' := m_X6_read) (As := [.int a1, .int (m 3 3), .int (m 5 3)]) (st := []) 28 dX11_text_25 rfl rfl km_X6_read ki_X6_read kv_X6_read ml_Encores_178 (by decide) sg_103 rfl (Nat.le_of_ble_eq_true rfl) rfl rfl rfl (Nat.le_of_ble_eq_true rfl) (c_X6_read N (d + 0) a1 (m 3 3) (m 5 3) m) ⟨Nat.le_refl _, Nat.le_refl _⟩ (Or.inl rfl) rfl (fun _ m_25 _ => ?_)
  refine ok_aload_n 29 0 dX11_text_28 rfl rfl rfl ?_
  refine ok_getR 32 dX11_text_29 rfl rfl F_Encores_44 sg_0 rfl (Nat.le_of_ble_eq_true rfl) rfl rfl ?_
  refine ok_iconst 33 0 dX11_text_32 rfl rfl ?_
  refine ok_putI 36 dX11_text_33 rfl rfl F_Encores_175 sg_99 rfl (Nat.le_of_ble_eq_true rfl) rfl rfl pZ_10_2 rfl rfl ?_
  refine ok_bndM (fun m_33 => ?_)
  refine ok_iload_n 37 1 dX11_text_36 rfl rfl rfl ?_
  refine ok_iconst 38 0 dX11_text_37 rfl rfl ?_
  refine ok_iconst 39 3 dX11_text_38 rfl rfl ?_
  refine ok_callSi (np := 3) (M' := m_X11_within) (As := [.int a1, .int 0, .int 3]) (st := []) 42 dX11_text_39 rfl rfl km_X11_within ks_X11_within ml_Encores_109 (by decide) rfl rfl (Nat.le_of_ble_eq_true rfl) (c_X11_within N (d + 8) a1 0 3 m_33) ⟨Nat.le_refl _, Nat.le_refl _⟩ (Or.inl rfl) rfl (fun r_39 m_39 _ => ?_)
  refine ok_if_eq 55 45 dX11_text_42 (by decide) rfl (fun _ => ?_) (fun _ => ?_)
  · refine ok_iconst 56 (-1) dX11_text_55 rfl rfl ?_
    exact ok_iret dX11_text_56 rfl
  · refine ok_aload_n 46 0 dX11_text_45 rfl rfl rfl ?_
    refine ok_getR 49 dX11_text_46 rfl rfl F_Encores_53 sg_0 rfl (Nat.le_of_ble_eq_true rfl) rfl rfl ?_
    refine ok_getI 52 dX11_text_49 rfl rfl F_Encores_181 sg_103 rfl (Nat.le_of_ble_eq_true rfl) rfl ?_
    refine ok_if_eq 57 55 dX11_text_52 (by decide) rfl (fun _ => ?_) (fun _ => ?_)
    · refine ok_aload_n 58 0 dX11_text_57 rfl rfl rfl ?_
      refine ok_getR 61 dX11_text_58 rfl rfl F_Encores_16 sg_0 rfl (Nat.le_of_ble_eq_true rfl) rfl rfl ?_
      refine ok_iload_n 62 1 dX11_text_61 rfl rfl rfl ?_
      refine ok_aload_n 63 0 dX11_text_62 rfl rfl rfl ?_
      refine ok_getR 66 dX11_text_63 rfl rfl F_Encores_53 sg_0 rfl (Nat.le_of_ble_eq_true rfl) rfl rfl ?_
      refine ok_getR 69 dX11_text_66 rfl rfl F_Encores_184 sg_103 rfl (Nat.le_of_ble_eq_true rfl) rfl rfl ?_
      refine ok_aload_n 70 0 dX11_text_69 rfl rfl rfl ?_
      refine ok_getR 73 dX11_text_70 rfl rfl F_Encores_53 sg_0 rfl (Nat.le_of_ble_eq_true rfl) rfl rfl ?_
      refine ok_getR 76 dX11_text_73 rfl rfl F_Encores_186 sg_103 rfl (Nat.le_of_ble_eq_true rfl) rfl rfl ?_
      refine ok_callVv (np := 3) (M' := m_X1_takeText) (As := [.int a1, .ref 104, .ref 106]) (st := []) 79 dX11_text_76 rfl rfl km_X1_takeText ki_X1_takeText kv_X1_takeText ml_Encores_189 (by decide) sg_2 rfl (Nat.le_of_ble_eq_true rfl) rfl rfl rfl (Nat.le_of_ble_eq_true rfl) (c_X1_takeText N (d + 6) a1 m_39) ⟨Nat.le_refl _, Nat.le_refl _⟩ (Or.inl rfl) rfl (fun _ m_76 _ => ?_)
      refine ok_iload_n 80 1 dX11_text_79 rfl rfl rfl ?_
      refine ok_if_eq 90 83 dX11_text_80 (by decide) rfl (fun _ => ?_) (fun _ => ?_)
      · refine ok_aload_n 91 0 dX11_text_90 rfl rfl rfl ?_
        refine ok_getR 94 dX11_text_91 rfl rfl F_Encores_53 sg_0 rfl (Nat.le_of_ble_eq_true rfl) rfl rfl ?_
        refine ok_getR 97 dX11_text_94 rfl rfl F_Encores_184 sg_103 rfl (Nat.le_of_ble_eq_true rfl) rfl rfl ?_
        refine ok_getI 100 dX11_text_97 rfl rfl F_Encores_117 sg_104 rfl (Nat.le_of_ble_eq_true rfl) rfl ?_
        exact ok_iret dX11_text_100 rfl
      · refine ok_aload_n 84 0 dX11_text_83 rfl rfl rfl ?_
        refine ok_getR 87 dX11_text_84 rfl rfl F_Encores_30 sg_0 rfl (Nat.le_of_ble_eq_true rfl) rfl rfl ?_
        refine ok_callVv (np := 0) (M' := m_X4_forget) (As := []) (st := []) 90 dX11_text_87 rfl rfl km_X4_forget ki_X4_forget kv_X4_forget ml_Encores_106 (by decide) sg_48 rfl (Nat.le_of_ble_eq_true rfl) rfl rfl rfl (Nat.le_of_ble_eq_true rfl) (c_X4_forget N (d + 8) m_76) ⟨Nat.le_refl _, Nat.le_refl _⟩ (Or.inl rfl) rfl (fun _ m_87 _ => ?_)
        refine ok_aload_n 91 0 dX11_text_90 rfl rfl rfl ?_
        refine ok_getR 94 dX11_text_91 rfl rfl F_Encores_53 sg_0 rfl (Nat.le_of_ble_eq_true rfl) rfl rfl ?_
        refine ok_getR 97 dX11_text_94 rfl rfl F_Encores_184 sg_103 rfl (Nat.le_of_ble_eq_true rfl) rfl rfl ?_
        refine ok_getI 100 dX11_text_97 rfl rfl F_Encores_117 sg_104 rfl (Nat.le_of_ble_eq_true rfl) rfl ?_
        exact ok_iret dX11_text_100 rfl
    · refine ok_iconst 56 (-1) dX11_text_55 rfl rfl ?_
      exact ok_iret dX11_text_56 rfl

theorem c_X11_text (N d : Nat) (a1 : Int32)  (m : Mem) : CM SX (d + 9) m_X11_text SG SG [.ref 0, .int a1] m (f_X11_text N a1 m) :=
  CM.ofOk km_X11_text ⟨Nat.le_refl _, Nat.le_refl _⟩ (by simp [Value.category]) (Nat.le_of_ble_eq_true rfl) (ok_X11_text N d a1 m)

def f_X11_of (N : Nat) (a1 : Int32) (a2 : Int32) (m : Mem) : Ans :=
bd (f_X9_has N 3 a1 m) fun r_8 m_8 =>
if r_8 = 0 then (some ((-1), m_8))
else (if (10 : Int32) ≤ a2 then (bd (f_X9_has N 5 (a2 - (10 : Int32)) m_8) fun r_46 m_46 =>
if r_46 = 0 then (some ((-1), m_46))
else (bd (f_X2_clap N a1 (a2 - (10 : Int32)) 0 m_46) fun r_62 m_62 =>
some (r_62, m_62)))
else (bd (f_X9_at N 3 a1 a2 m_8) fun r_31 m_31 =>
some (r_31, m_31)))

set_option maxRecDepth 100000 in
set_option maxHeartbeats 4000000 in
theorem ok_X11_of (N d : Nat) (a1 : Int32) (a2 : Int32)  (m : Mem) : Ok SX SG (d + 4) m_X11_of 0 [some (.ref 0), some (.int a1), some (.int a2)] [] SG m (f_X11_of N a1 a2 m) := by
  unfold f_X11_of
  refine ok_aload_n 1 0 dX11_of_0 rfl rfl rfl ?_
  refine ok_getR 4 dX11_of_1 rfl rfl F_Encores_16 sg_0 rfl (Nat.le_of_ble_eq_true rfl) rfl rfl ?_
  refine ok_getR 7 dX11_of_4 rfl rfl F_Encores_113 sg_2 rfl (Nat.le_of_ble_eq_true rfl) rfl rfl ?_
  refine ok_iload_n 8 1 dX11_of_7 rfl rfl rfl ?_
  refine ok_callVi (np := 1) (M' := m_X9_has) (As := [.int a1]) (st := []) 11 dX11_of_8 rfl rfl km_X9_has ki_X9_has kv_X9_has ml_Encores_138 (by decide) sg_3 rfl (Nat.le_of_ble_eq_true rfl) rfl rfl rfl (Nat.le_of_ble_eq_true rfl) (c_X9_has N (d + 3) 3 a1 tg_3 m) ⟨Nat.le_refl _, Nat.le_refl _⟩ (Or.inl rfl) rfl (fun r_8 m_8 _ => ?_)
  refine ok_if_ne 16 14 dX11_of_11 (by decide) rfl (fun _ => ?_) (fun _ => ?_)
  · refine ok_iload_n 17 2 dX11_of_16 rfl rfl rfl ?_
    refine ok_bipush 19 10 dX11_of_17 rfl rfl ?_
    refine ok_icmp_ge 35 22 dX11_of_19 (by decide) rfl (fun _ => ?_) (fun _ => ?_)
    · refine ok_aload_n 36 0 dX11_of_35 rfl rfl rfl ?_
      refine ok_getR 39 dX11_of_36 rfl rfl F_Encores_16 sg_0 rfl (Nat.le_of_ble_eq_true rfl) rfl rfl ?_
      refine ok_getR 42 dX11_of_39 rfl rfl F_Encores_131 sg_2 rfl (Nat.le_of_ble_eq_true rfl) rfl rfl ?_
      refine ok_iload_n 43 2 dX11_of_42 rfl rfl rfl ?_
      refine ok_bipush 45 10 dX11_of_43 rfl rfl ?_
      refine ok_isub 46 dX11_of_45 rfl ?_
      refine ok_callVi (np := 1) (M' := m_X9_has) (As := [.int (a2 - (10 : Int32))]) (st := []) 49 dX11_of_46 rfl rfl km_X9_has ki_X9_has kv_X9_has ml_Encores_138 (by decide) sg_5 rfl (Nat.le_of_ble_eq_true rfl) rfl rfl rfl (Nat.le_of_ble_eq_true rfl) (c_X9_has N (d + 3) 5 (a2 - (10 : Int32)) tg_5 m_8) ⟨Nat.le_refl _, Nat.le_refl _⟩ (Or.inl rfl) rfl (fun r_46 m_46 _ => ?_)
      refine ok_if_eq 68 52 dX11_of_49 (by decide) rfl (fun _ => ?_) (fun _ => ?_)
      · refine ok_iconst 69 (-1) dX11_of_68 rfl rfl ?_
        exact ok_iret dX11_of_69 rfl
      · refine ok_aload_n 53 0 dX11_of_52 rfl rfl rfl ?_
        refine ok_getR 56 dX11_of_53 rfl rfl F_Encores_62 sg_0 rfl (Nat.le_of_ble_eq_true rfl) rfl rfl ?_
        refine ok_iload_n 57 1 dX11_of_56 rfl rfl rfl ?_
        refine ok_iload_n 58 2 dX11_of_57 rfl rfl rfl ?_
        refine ok_bipush 60 10 dX11_of_58 rfl rfl ?_
        refine ok_isub 61 dX11_of_60 rfl ?_
        refine ok_iconst 62 0 dX11_of_61 rfl rfl ?_
        refine ok_callVi (np := 3) (M' := m_X2_clap) (As := [.int a1, .int (a2 - (10 : Int32)), .int 0]) (st := []) 65 dX11_of_62 rfl rfl km_X2_clap ki_X2_clap kv_X2_clap ml_Encores_196 (by decide) sg_110 rfl (Nat.le_of_ble_eq_true rfl) rfl rfl rfl (Nat.le_of_ble_eq_true rfl) (c_X2_clap N (d + 0) a1 (a2 - (10 : Int32)) 0 m_46) ⟨Nat.le_refl _, Nat.le_refl _⟩ (Or.inl rfl) rfl (fun r_62 m_62 _ => ?_)
        refine ok_goto 69 dX11_of_65 (by decide) ?_
        exact ok_iret dX11_of_69 rfl
    · refine ok_aload_n 23 0 dX11_of_22 rfl rfl rfl ?_
      refine ok_getR 26 dX11_of_23 rfl rfl F_Encores_16 sg_0 rfl (Nat.le_of_ble_eq_true rfl) rfl rfl ?_
      refine ok_getR 29 dX11_of_26 rfl rfl F_Encores_113 sg_2 rfl (Nat.le_of_ble_eq_true rfl) rfl rfl ?_
      refine ok_iload_n 30 1 dX11_of_29 rfl rfl rfl ?_
      refine ok_iload_n 31 2 dX11_of_30 rfl rfl rfl ?_
      refine ok_callVi (np := 2) (M' := m_X9_at) (As := [.int a1, .int a2]) (st := []) 34 dX11_of_31 rfl rfl km_X9_at ki_X9_at kv_X9_at ml_Encores_142 (by decide) sg_3 rfl (Nat.le_of_ble_eq_true rfl) rfl rfl rfl (Nat.le_of_ble_eq_true rfl) (c_X9_at N (d + 3) 3 a1 a2 tg_3 m_8) ⟨Nat.le_refl _, Nat.le_refl _⟩ (Or.inl rfl) rfl (fun r_31 m_31 _ => ?_)
      exact ok_iret dX11_of_34 rfl
  · refine ok_iconst 15 (-1) dX11_of_14 rfl rfl ?_
    exact ok_iret dX11_of_15 rfl

theorem c_X11_of (N d : Nat) (a1 : Int32) (a2 : Int32)  (m : Mem) : CM SX (d + 4) m_X11_of SG SG [.ref 0, .int a1, .int a2] m (f_X11_of N a1 a2 m) :=
  CM.ofOk km_X11_of ⟨Nat.le_refl _, Nat.le_refl _⟩ (by simp [Value.category]) (Nat.le_of_ble_eq_true rfl) (ok_X11_of N d a1 a2 m)

def f_X11_deedOf (N : Nat) (a1 : Int32) (a2 : Int32) (m : Mem) : Ans :=
bd (f_X9_has N 5 a1 m) fun r_8 m_8 =>
if r_8 = 0 then (some ((-1), m_8))
else (if a2 = (5 : Int32) then (bd (f_X2_ofDeed N 256 a1 m_8) fun r_29 m_29 =>
some (r_29, m_29))
else (if a2 = (6 : Int32) then (bd (f_X2_ofDeed N 258 a1 m_8) fun r_47 m_47 =>
some (r_47, m_47))
else (bd (f_X9_at N 5 a1 a2 m_8) fun r_62 m_62 =>
some (r_62, m_62))))

set_option maxRecDepth 100000 in
set_option maxHeartbeats 4000000 in
theorem ok_X11_deedOf (N d : Nat) (a1 : Int32) (a2 : Int32)  (m : Mem) : Ok SX SG (d + 4) m_X11_deedOf 0 [some (.ref 0), some (.int a1), some (.int a2)] [] SG m (f_X11_deedOf N a1 a2 m) := by
  unfold f_X11_deedOf
  refine ok_aload_n 1 0 dX11_deedOf_0 rfl rfl rfl ?_
  refine ok_getR 4 dX11_deedOf_1 rfl rfl F_Encores_16 sg_0 rfl (Nat.le_of_ble_eq_true rfl) rfl rfl ?_
  refine ok_getR 7 dX11_deedOf_4 rfl rfl F_Encores_131 sg_2 rfl (Nat.le_of_ble_eq_true rfl) rfl rfl ?_
  refine ok_iload_n 8 1 dX11_deedOf_7 rfl rfl rfl ?_
  refine ok_callVi (np := 1) (M' := m_X9_has) (As := [.int a1]) (st := []) 11 dX11_deedOf_8 rfl rfl km_X9_has ki_X9_has kv_X9_has ml_Encores_138 (by decide) sg_5 rfl (Nat.le_of_ble_eq_true rfl) rfl rfl rfl (Nat.le_of_ble_eq_true rfl) (c_X9_has N (d + 3) 5 a1 tg_5 m) ⟨Nat.le_refl _, Nat.le_refl _⟩ (Or.inl rfl) rfl (fun r_8 m_8 _ => ?_)
  refine ok_if_ne 16 14 dX11_deedOf_11 (by decide) rfl (fun _ => ?_) (fun _ => ?_)
  · refine ok_iload_n 17 2 dX11_deedOf_16 rfl rfl rfl ?_
    refine ok_iconst 18 5 dX11_deedOf_17 rfl rfl ?_
    refine ok_icmp_ne 33 21 dX11_deedOf_18 (by decide) rfl (fun _ => ?_) (fun _ => ?_)
    · refine ok_iload_n 34 2 dX11_deedOf_33 rfl rfl rfl ?_
      refine ok_bipush 36 6 dX11_deedOf_34 rfl rfl ?_
      refine ok_icmp_ne 53 39 dX11_deedOf_36 (by decide) rfl (fun _ => ?_) (fun _ => ?_)
      · refine ok_aload_n 54 0 dX11_deedOf_53 rfl rfl rfl ?_
        refine ok_getR 57 dX11_deedOf_54 rfl rfl F_Encores_16 sg_0 rfl (Nat.le_of_ble_eq_true rfl) rfl rfl ?_
        refine ok_getR 60 dX11_deedOf_57 rfl rfl F_Encores_131 sg_2 rfl (Nat.le_of_ble_eq_true rfl) rfl rfl ?_
        refine ok_iload_n 61 1 dX11_deedOf_60 rfl rfl rfl ?_
        refine ok_iload_n 62 2 dX11_deedOf_61 rfl rfl rfl ?_
        refine ok_callVi (np := 2) (M' := m_X9_at) (As := [.int a1, .int a2]) (st := []) 65 dX11_deedOf_62 rfl rfl km_X9_at ki_X9_at kv_X9_at ml_Encores_142 (by decide) sg_5 rfl (Nat.le_of_ble_eq_true rfl) rfl rfl rfl (Nat.le_of_ble_eq_true rfl) (c_X9_at N (d + 3) 5 a1 a2 tg_5 m_8) ⟨Nat.le_refl _, Nat.le_refl _⟩ (Or.inl rfl) rfl (fun r_62 m_62 _ => ?_)
        exact ok_iret dX11_deedOf_65 rfl
      · refine ok_aload_n 40 0 dX11_deedOf_39 rfl rfl rfl ?_
        refine ok_getR 43 dX11_deedOf_40 rfl rfl F_Encores_62 sg_0 rfl (Nat.le_of_ble_eq_true rfl) rfl rfl ?_
        refine ok_sipush 46 258 dX11_deedOf_43 rfl rfl ?_
        refine ok_iload_n 47 1 dX11_deedOf_46 rfl rfl rfl ?_
        refine ok_callVi (np := 2) (M' := m_X2_ofDeed) (As := [.int 258, .int a1]) (st := []) 50 dX11_deedOf_47 rfl rfl km_X2_ofDeed ki_X2_ofDeed kv_X2_ofDeed ml_Encores_200 (by decide) sg_110 rfl (Nat.le_of_ble_eq_true rfl) rfl rfl rfl (Nat.le_of_ble_eq_true rfl) (c_X2_ofDeed N (d + 0) 258 a1 m_8) ⟨Nat.le_refl _, Nat.le_refl _⟩ (Or.inl rfl) rfl (fun r_47 m_47 _ => ?_)
        refine ok_goto 65 dX11_deedOf_50 (by decide) ?_
        exact ok_iret dX11_deedOf_65 rfl
    · refine ok_aload_n 22 0 dX11_deedOf_21 rfl rfl rfl ?_
      refine ok_getR 25 dX11_deedOf_22 rfl rfl F_Encores_62 sg_0 rfl (Nat.le_of_ble_eq_true rfl) rfl rfl ?_
      refine ok_sipush 28 256 dX11_deedOf_25 rfl rfl ?_
      refine ok_iload_n 29 1 dX11_deedOf_28 rfl rfl rfl ?_
      refine ok_callVi (np := 2) (M' := m_X2_ofDeed) (As := [.int 256, .int a1]) (st := []) 32 dX11_deedOf_29 rfl rfl km_X2_ofDeed ki_X2_ofDeed kv_X2_ofDeed ml_Encores_200 (by decide) sg_110 rfl (Nat.le_of_ble_eq_true rfl) rfl rfl rfl (Nat.le_of_ble_eq_true rfl) (c_X2_ofDeed N (d + 0) 256 a1 m_8) ⟨Nat.le_refl _, Nat.le_refl _⟩ (Or.inl rfl) rfl (fun r_29 m_29 _ => ?_)
      exact ok_iret dX11_deedOf_32 rfl
  · refine ok_iconst 15 (-1) dX11_deedOf_14 rfl rfl ?_
    exact ok_iret dX11_deedOf_15 rfl

theorem c_X11_deedOf (N d : Nat) (a1 : Int32) (a2 : Int32)  (m : Mem) : CM SX (d + 4) m_X11_deedOf SG SG [.ref 0, .int a1, .int a2] m (f_X11_deedOf N a1 a2 m) :=
  CM.ofOk km_X11_deedOf ⟨Nat.le_refl _, Nat.le_refl _⟩ (by simp [Value.category]) (Nat.le_of_ble_eq_true rfl) (ok_X11_deedOf N d a1 a2 m)

def f_X11_statute (N : Nat) (a1 : Int32) (m : Mem) : Ans :=
if a1 = 0 then (bd (f_X1_handsDue N m) fun r_8 m_8 =>
some (r_8, m_8))
else (if a1 = (1 : Int32) then (bd (f_X1_mostAgains N m) fun r_21 m_21 =>
some (r_21, m_21))
else (if a1 = (2 : Int32) then (bd (f_X1_endMinute N m) fun r_34 m_34 =>
some (r_34, m_34))
else (some ((-1), m))))

set_option maxRecDepth 100000 in
set_option maxHeartbeats 4000000 in
theorem ok_X11_statute (N d : Nat) (a1 : Int32)  (m : Mem) : Ok SX SG (d + 3) m_X11_statute 0 [some (.ref 0), some (.int a1)] [] SG m (f_X11_statute N a1 m) := by
  unfold f_X11_statute
  refine ok_iload_n 1 1 dX11_statute_0 rfl rfl rfl ?_
  refine ok_if_ne 12 4 dX11_statute_1 (by decide) rfl (fun _ => ?_) (fun _ => ?_)
  · refine ok_iload_n 13 1 dX11_statute_12 rfl rfl rfl ?_
    refine ok_iconst 14 1 dX11_statute_13 rfl rfl ?_
    refine ok_icmp_ne 25 17 dX11_statute_14 (by decide) rfl (fun _ => ?_) (fun _ => ?_)
    · refine ok_iload_n 26 1 dX11_statute_25 rfl rfl rfl ?_
      refine ok_iconst 27 2 dX11_statute_26 rfl rfl ?_
      refine ok_icmp_ne 40 30 dX11_statute_27 (by decide) rfl (fun _ => ?_) (fun _ => ?_)
      · refine ok_iconst 41 (-1) dX11_statute_40 rfl rfl ?_
        exact ok_iret dX11_statute_41 rfl
      · refine ok_aload_n 31 0 dX11_statute_30 rfl rfl rfl ?_
        refine ok_getR 34 dX11_statute_31 rfl rfl F_Encores_16 sg_0 rfl (Nat.le_of_ble_eq_true rfl) rfl rfl ?_
        refine ok_callVi (np := 0) (M' := m_X1_endMinute) (As := []) (st := []) 37 dX11_statute_34 rfl rfl km_X1_endMinute ki_X1_endMinute kv_X1_endMinute ml_Encores_209 (by decide) sg_2 rfl (Nat.le_of_ble_eq_true rfl) rfl rfl rfl (Nat.le_of_ble_eq_true rfl) (c_X1_endMinute N (d + 0) m) ⟨Nat.le_refl _, Nat.le_refl _⟩ (Or.inl rfl) rfl (fun r_34 m_34 _ => ?_)
        refine ok_goto 41 dX11_statute_37 (by decide) ?_
        exact ok_iret dX11_statute_41 rfl
    · refine ok_aload_n 18 0 dX11_statute_17 rfl rfl rfl ?_
      refine ok_getR 21 dX11_statute_18 rfl rfl F_Encores_16 sg_0 rfl (Nat.le_of_ble_eq_true rfl) rfl rfl ?_
      refine ok_callVi (np := 0) (M' := m_X1_mostAgains) (As := []) (st := []) 24 dX11_statute_21 rfl rfl km_X1_mostAgains ki_X1_mostAgains kv_X1_mostAgains ml_Encores_206 (by decide) sg_2 rfl (Nat.le_of_ble_eq_true rfl) rfl rfl rfl (Nat.le_of_ble_eq_true rfl) (c_X1_mostAgains N (d + 0) m) ⟨Nat.le_refl _, Nat.le_refl _⟩ (Or.inl rfl) rfl (fun r_21 m_21 _ => ?_)
      exact ok_iret dX11_statute_24 rfl
  · refine ok_aload_n 5 0 dX11_statute_4 rfl rfl rfl ?_
    refine ok_getR 8 dX11_statute_5 rfl rfl F_Encores_16 sg_0 rfl (Nat.le_of_ble_eq_true rfl) rfl rfl ?_
    refine ok_callVi (np := 0) (M' := m_X1_handsDue) (As := []) (st := []) 11 dX11_statute_8 rfl rfl km_X1_handsDue ki_X1_handsDue kv_X1_handsDue ml_Encores_203 (by decide) sg_2 rfl (Nat.le_of_ble_eq_true rfl) rfl rfl rfl (Nat.le_of_ble_eq_true rfl) (c_X1_handsDue N (d + 1) m) ⟨Nat.le_refl _, Nat.le_refl _⟩ (Or.inl rfl) rfl (fun r_8 m_8 _ => ?_)
    exact ok_iret dX11_statute_11 rfl

theorem c_X11_statute (N d : Nat) (a1 : Int32)  (m : Mem) : CM SX (d + 3) m_X11_statute SG SG [.ref 0, .int a1] m (f_X11_statute N a1 m) :=
  CM.ofOk km_X11_statute ⟨Nat.le_refl _, Nat.le_refl _⟩ (by simp [Value.category]) (Nat.le_of_ble_eq_true rfl) (ok_X11_statute N d a1 m)

def f_X11_book (N : Nat) (a1 : Int32) (a2 : Int32) (m : Mem) : Ans :=
bd (f_X9_at N 9 a1 a2 m) fun r_9 m_9 =>
some (r_9, m_9)

set_option maxRecDepth 100000 in
set_option maxHeartbeats 4000000 in
theorem ok_X11_book (N d : Nat) (a1 : Int32) (a2 : Int32)  (m : Mem) : Ok SX SG (d + 1) m_X11_book 0 [some (.ref 0), some (.int a1), some (.int a2)] [] SG m (f_X11_book N a1 a2 m) := by
  unfold f_X11_book
  refine ok_aload_n 1 0 dX11_book_0 rfl rfl rfl ?_
  refine ok_getR 4 dX11_book_1 rfl rfl F_Encores_16 sg_0 rfl (Nat.le_of_ble_eq_true rfl) rfl rfl ?_
  refine ok_getR 7 dX11_book_4 rfl rfl F_Encores_212 sg_2 rfl (Nat.le_of_ble_eq_true rfl) rfl rfl ?_
  refine ok_iload_n 8 1 dX11_book_7 rfl rfl rfl ?_
  refine ok_iload_n 9 2 dX11_book_8 rfl rfl rfl ?_
  refine ok_callVi (np := 2) (M' := m_X9_at) (As := [.int a1, .int a2]) (st := []) 12 dX11_book_9 rfl rfl km_X9_at ki_X9_at kv_X9_at ml_Encores_142 (by decide) sg_9 rfl (Nat.le_of_ble_eq_true rfl) rfl rfl rfl (Nat.le_of_ble_eq_true rfl) (c_X9_at N (d + 0) 9 a1 a2 tg_9 m) ⟨Nat.le_refl _, Nat.le_refl _⟩ (Or.inl rfl) rfl (fun r_9 m_9 _ => ?_)
  exact ok_iret dX11_book_12 rfl

theorem c_X11_book (N d : Nat) (a1 : Int32) (a2 : Int32)  (m : Mem) : CM SX (d + 1) m_X11_book SG SG [.ref 0, .int a1, .int a2] m (f_X11_book N a1 a2 m) :=
  CM.ofOk km_X11_book ⟨Nat.le_refl _, Nat.le_refl _⟩ (by simp [Value.category]) (Nat.le_of_ble_eq_true rfl) (ok_X11_book N d a1 a2 m)

def f_X11_look_J22 (N : Nat) (a1 : Int32)    (m : Mem) : Ans :=
swt (Int32.toInt a1 - (0)) [(some (m 3 3, m)),
(some (m 5 3, m)),
(some ((-100000), m)),
(some ((-100000), m)),
(some ((-100000), m)),
(some ((-100000), m)),
(some ((-100000), m)),
(some ((-100000), m)),
(bd (f_X1_those N 3 m) fun r_131 m_131 =>
some (r_131, m_131)),
(some (m 9 3, m)),
(bd (f_X1_hour N 6 m) fun r_152 m_152 =>
some (r_152, m_152)),
(some (m 11 3, m)),
(some (m 15 3, m)),
(some (m 17 3, m)),
(some (m 19 3, m)),
(some (m 21 3, m)),
(some (m 48 2, m))] (some ((-100000), m))

def f_X11_look (N : Nat) (a1 : Int32) (m : Mem) : Ans :=
if a1 < (2 : Int32) then (f_X11_look_J22 N a1 m)
else (if (7 : Int32) < a1 then (f_X11_look_J22 N a1 m)
else (bd (f_X1_hour N (a1 - (2 : Int32)) m) fun r_18 m_18 =>
some (r_18, m_18)))

set_option maxRecDepth 100000 in
set_option maxHeartbeats 4000000 in
theorem ok_X11_look_J22 (N d : Nat) (a1 : Int32)     (m : Mem) : Ok SX SG (d + 2) m_X11_look 22 [some (.ref 0), some (.int a1)] [] SG m (f_X11_look_J22 N a1 m) := by
  unfold f_X11_look_J22
  refine ok_iload_n 23 1 dX11_look_22 rfl rfl rfl ?_
  refine ok_tsw 219 [104, 115, 219, 219, 219, 219, 219, 219, 126, 135, 146, 156, 167, 178, 189, 200, 211] dX11_look_23 (by decide) (by decide) (by decide) rfl ?_ ?_
  · refine And.intro ?_ (And.intro ?_ (And.intro ?_ (And.intro ?_ (And.intro ?_ (And.intro ?_ (And.intro ?_ (And.intro ?_ (And.intro ?_ (And.intro ?_ (And.intro ?_ (And.intro ?_ (And.intro ?_ (And.intro ?_ (And.intro ?_ (And.intro ?_ (And.intro ?_ (trivial)))))))))))))))))
    · refine ok_aload_n 105 0 dX11_look_104 rfl rfl rfl ?_
      refine ok_getR 108 dX11_look_105 rfl rfl F_Encores_16 sg_0 rfl (Nat.le_of_ble_eq_true rfl) rfl rfl ?_
      refine ok_getR 111 dX11_look_108 rfl rfl F_Encores_113 sg_2 rfl (Nat.le_of_ble_eq_true rfl) rfl rfl ?_
      refine ok_getI 114 dX11_look_111 rfl rfl F_Encores_117 sg_3 rfl (Nat.le_of_ble_eq_true rfl) rfl ?_
      exact ok_iret dX11_look_114 rfl
    · refine ok_aload_n 116 0 dX11_look_115 rfl rfl rfl ?_
      refine ok_getR 119 dX11_look_116 rfl rfl F_Encores_16 sg_0 rfl (Nat.le_of_ble_eq_true rfl) rfl rfl ?_
      refine ok_getR 122 dX11_look_119 rfl rfl F_Encores_131 sg_2 rfl (Nat.le_of_ble_eq_true rfl) rfl rfl ?_
      refine ok_getI 125 dX11_look_122 rfl rfl F_Encores_117 sg_5 rfl (Nat.le_of_ble_eq_true rfl) rfl ?_
      exact ok_iret dX11_look_125 rfl
    · refine ok_ldc 221 (-100000) dX11_look_219 rfl rfl cn_Encores_235 ?_
      exact ok_iret dX11_look_221 rfl
    · refine ok_ldc 221 (-100000) dX11_look_219 rfl rfl cn_Encores_235 ?_
      exact ok_iret dX11_look_221 rfl
    · refine ok_ldc 221 (-100000) dX11_look_219 rfl rfl cn_Encores_235 ?_
      exact ok_iret dX11_look_221 rfl
    · refine ok_ldc 221 (-100000) dX11_look_219 rfl rfl cn_Encores_235 ?_
      exact ok_iret dX11_look_221 rfl
    · refine ok_ldc 221 (-100000) dX11_look_219 rfl rfl cn_Encores_235 ?_
      exact ok_iret dX11_look_221 rfl
    · refine ok_ldc 221 (-100000) dX11_look_219 rfl rfl cn_Encores_235 ?_
      exact ok_iret dX11_look_221 rfl
    · refine ok_aload_n 127 0 dX11_look_126 rfl rfl rfl ?_
      refine ok_getR 130 dX11_look_127 rfl rfl F_Encores_16 sg_0 rfl (Nat.le_of_ble_eq_true rfl) rfl rfl ?_
      refine ok_iconst 131 3 dX11_look_130 rfl rfl ?_
      refine ok_callVi (np := 1) (M' := m_X1_those) (As := [.int 3]) (st := []) 134 dX11_look_131 rfl rfl km_X1_those ki_X1_those kv_X1_those ml_Encores_215 (by decide) sg_2 rfl (Nat.le_of_ble_eq_true rfl) rfl rfl rfl (Nat.le_of_ble_eq_true rfl) (c_X1_those N (d + 0) 3 m) ⟨Nat.le_refl _, Nat.le_refl _⟩ (Or.inl rfl) rfl (fun r_131 m_131 _ => ?_)
      exact ok_iret dX11_look_134 rfl
    · refine ok_aload_n 136 0 dX11_look_135 rfl rfl rfl ?_
      refine ok_getR 139 dX11_look_136 rfl rfl F_Encores_16 sg_0 rfl (Nat.le_of_ble_eq_true rfl) rfl rfl ?_
      refine ok_getR 142 dX11_look_139 rfl rfl F_Encores_212 sg_2 rfl (Nat.le_of_ble_eq_true rfl) rfl rfl ?_
      refine ok_getI 145 dX11_look_142 rfl rfl F_Encores_117 sg_9 rfl (Nat.le_of_ble_eq_true rfl) rfl ?_
      exact ok_iret dX11_look_145 rfl
    · refine ok_aload_n 147 0 dX11_look_146 rfl rfl rfl ?_
      refine ok_getR 150 dX11_look_147 rfl rfl F_Encores_16 sg_0 rfl (Nat.le_of_ble_eq_true rfl) rfl rfl ?_
      refine ok_bipush 152 6 dX11_look_150 rfl rfl ?_
      refine ok_callVi (np := 1) (M' := m_X1_hour) (As := [.int 6]) (st := []) 155 dX11_look_152 rfl rfl km_X1_hour ki_X1_hour kv_X1_hour ml_Encores_98 (by decide) sg_2 rfl (Nat.le_of_ble_eq_true rfl) rfl rfl rfl (Nat.le_of_ble_eq_true rfl) (c_X1_hour N (d + 0) 6 m) ⟨Nat.le_refl _, Nat.le_refl _⟩ (Or.inl rfl) rfl (fun r_152 m_152 _ => ?_)
      exact ok_iret dX11_look_155 rfl
    · refine ok_aload_n 157 0 dX11_look_156 rfl rfl rfl ?_
      refine ok_getR 160 dX11_look_157 rfl rfl F_Encores_16 sg_0 rfl (Nat.le_of_ble_eq_true rfl) rfl rfl ?_
      refine ok_getR 163 dX11_look_160 rfl rfl F_Encores_218 sg_2 rfl (Nat.le_of_ble_eq_true rfl) rfl rfl ?_
      refine ok_getI 166 dX11_look_163 rfl rfl F_Encores_117 sg_11 rfl (Nat.le_of_ble_eq_true rfl) rfl ?_
      exact ok_iret dX11_look_166 rfl
    · refine ok_aload_n 168 0 dX11_look_167 rfl rfl rfl ?_
      refine ok_getR 171 dX11_look_168 rfl rfl F_Encores_16 sg_0 rfl (Nat.le_of_ble_eq_true rfl) rfl rfl ?_
      refine ok_getR 174 dX11_look_171 rfl rfl F_Encores_221 sg_2 rfl (Nat.le_of_ble_eq_true rfl) rfl rfl ?_
      refine ok_getI 177 dX11_look_174 rfl rfl F_Encores_117 sg_15 rfl (Nat.le_of_ble_eq_true rfl) rfl ?_
      exact ok_iret dX11_look_177 rfl
    · refine ok_aload_n 179 0 dX11_look_178 rfl rfl rfl ?_
      refine ok_getR 182 dX11_look_179 rfl rfl F_Encores_16 sg_0 rfl (Nat.le_of_ble_eq_true rfl) rfl rfl ?_
      refine ok_getR 185 dX11_look_182 rfl rfl F_Encores_224 sg_2 rfl (Nat.le_of_ble_eq_true rfl) rfl rfl ?_
      refine ok_getI 188 dX11_look_185 rfl rfl F_Encores_117 sg_17 rfl (Nat.le_of_ble_eq_true rfl) rfl ?_
      exact ok_iret dX11_look_188 rfl
    · refine ok_aload_n 190 0 dX11_look_189 rfl rfl rfl ?_
      refine ok_getR 193 dX11_look_190 rfl rfl F_Encores_16 sg_0 rfl (Nat.le_of_ble_eq_true rfl) rfl rfl ?_
      refine ok_getR 196 dX11_look_193 rfl rfl F_Encores_226 sg_2 rfl (Nat.le_of_ble_eq_true rfl) rfl rfl ?_
      refine ok_getI 199 dX11_look_196 rfl rfl F_Encores_117 sg_19 rfl (Nat.le_of_ble_eq_true rfl) rfl ?_
      exact ok_iret dX11_look_199 rfl
    · refine ok_aload_n 201 0 dX11_look_200 rfl rfl rfl ?_
      refine ok_getR 204 dX11_look_201 rfl rfl F_Encores_16 sg_0 rfl (Nat.le_of_ble_eq_true rfl) rfl rfl ?_
      refine ok_getR 207 dX11_look_204 rfl rfl F_Encores_229 sg_2 rfl (Nat.le_of_ble_eq_true rfl) rfl rfl ?_
      refine ok_getI 210 dX11_look_207 rfl rfl F_Encores_117 sg_21 rfl (Nat.le_of_ble_eq_true rfl) rfl ?_
      exact ok_iret dX11_look_210 rfl
    · refine ok_aload_n 212 0 dX11_look_211 rfl rfl rfl ?_
      refine ok_getR 215 dX11_look_212 rfl rfl F_Encores_30 sg_0 rfl (Nat.le_of_ble_eq_true rfl) rfl rfl ?_
      refine ok_getI 218 dX11_look_215 rfl rfl F_Encores_232 sg_48 rfl (Nat.le_of_ble_eq_true rfl) rfl ?_
      exact ok_iret dX11_look_218 rfl
  · refine ok_ldc 221 (-100000) dX11_look_219 rfl rfl cn_Encores_235 ?_
    exact ok_iret dX11_look_221 rfl

set_option maxRecDepth 100000 in
set_option maxHeartbeats 4000000 in
theorem ok_X11_look (N d : Nat) (a1 : Int32)  (m : Mem) : Ok SX SG (d + 2) m_X11_look 0 [some (.ref 0), some (.int a1)] [] SG m (f_X11_look N a1 m) := by
  unfold f_X11_look
  refine ok_iload_n 1 1 dX11_look_0 rfl rfl rfl ?_
  refine ok_iconst 2 2 dX11_look_1 rfl rfl ?_
  refine ok_icmp_lt 22 5 dX11_look_2 (by decide) rfl (fun _ => ?_) (fun _ => ?_)
  · exact ok_less [some (.ref 0), some (.int a1)] (And.intro rfl (And.intro rfl (trivial))) (ok_X11_look_J22 N d a1   m)
  · refine ok_iload_n 6 1 dX11_look_5 rfl rfl rfl ?_
    refine ok_bipush 8 7 dX11_look_6 rfl rfl ?_
    refine ok_icmp_gt 22 11 dX11_look_8 (by decide) rfl (fun _ => ?_) (fun _ => ?_)
    · exact ok_less [some (.ref 0), some (.int a1)] (And.intro rfl (And.intro rfl (trivial))) (ok_X11_look_J22 N d a1   m)
    · refine ok_aload_n 12 0 dX11_look_11 rfl rfl rfl ?_
      refine ok_getR 15 dX11_look_12 rfl rfl F_Encores_16 sg_0 rfl (Nat.le_of_ble_eq_true rfl) rfl rfl ?_
      refine ok_iload_n 16 1 dX11_look_15 rfl rfl rfl ?_
      refine ok_iconst 17 2 dX11_look_16 rfl rfl ?_
      refine ok_isub 18 dX11_look_17 rfl ?_
      refine ok_callVi (np := 1) (M' := m_X1_hour) (As := [.int (a1 - (2 : Int32))]) (st := []) 21 dX11_look_18 rfl rfl km_X1_hour ki_X1_hour kv_X1_hour ml_Encores_98 (by decide) sg_2 rfl (Nat.le_of_ble_eq_true rfl) rfl rfl rfl (Nat.le_of_ble_eq_true rfl) (c_X1_hour N (d + 0) (a1 - (2 : Int32)) m) ⟨Nat.le_refl _, Nat.le_refl _⟩ (Or.inl rfl) rfl (fun r_18 m_18 _ => ?_)
      exact ok_iret dX11_look_21 rfl

theorem c_X11_look (N d : Nat) (a1 : Int32)  (m : Mem) : CM SX (d + 2) m_X11_look SG SG [.ref 0, .int a1] m (f_X11_look N a1 m) :=
  CM.ofOk km_X11_look ⟨Nat.le_refl _, Nat.le_refl _⟩ (by simp [Value.category]) (Nat.le_of_ble_eq_true rfl) (ok_X11_look N d a1 m)

def f_X11_undo (N : Nat)  (m : Mem) : Ans :=
bd (f_X4_back N m) fun r_8 m_8 =>
chk (isB r_8) (some (r_8, m_8))

set_option maxRecDepth 100000 in
set_option maxHeartbeats 4000000 in
theorem ok_X11_undo (N d : Nat)   (m : Mem) : Ok SX SG (d + 4) m_X11_undo 0 [some (.ref 0)] [] SG m (f_X11_undo N m) := by
  unfold f_X11_undo
  refine ok_aload_n 1 0 dX11_undo_0 rfl rfl rfl ?_
  refine ok_getR 4 dX11_undo_1 rfl rfl F_Encores_30 sg_0 rfl (Nat.le_of_ble_eq_true rfl) rfl rfl ?_
  refine ok_aload_n 5 0 dX11_undo_4 rfl rfl rfl ?_
  refine ok_getR 8 dX11_undo_5 rfl rfl F_Encores_16 sg_0 rfl (Nat.le_of_ble_eq_true rfl) rfl rfl ?_
  refine ok_callVi (np := 1) (M' := m_X4_back) (As := [.ref 2]) (st := []) 11 dX11_undo_8 rfl rfl km_X4_back ki_X4_back kv_X4_back ml_Encores_344 (by decide) sg_48 rfl (Nat.le_of_ble_eq_true rfl) rfl rfl rfl (Nat.le_of_ble_eq_true rfl) (c_X4_back N (d + 0) m) ⟨Nat.le_refl _, Nat.le_refl _⟩ (Or.inl rfl) rfl (fun r_8 m_8 _ => ?_)
  exact ok_zret dX11_undo_11 rfl

theorem c_X11_undo (N d : Nat)   (m : Mem) : CM SX (d + 4) m_X11_undo SG SG [.ref 0] m (f_X11_undo N m) :=
  CM.ofOk km_X11_undo ⟨Nat.le_refl _, Nat.le_refl _⟩ (by simp [Value.category]) (Nat.le_of_ble_eq_true rfl) (ok_X11_undo N d  m)

