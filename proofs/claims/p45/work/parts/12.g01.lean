variable {SX : SXT}
def f_X4_forget (N : Nat)  (m : Mem) : Ans :=
bnd (mset m 48 2 0) fun m_2 =>
some (0, m_2)

set_option maxRecDepth 100000 in
set_option maxHeartbeats 4000000 in
theorem ok_X4_forget (N d : Nat)   (m : Mem) : Ok SX SG (d + 0) m_X4_forget 0 [some (.ref 48)] [] SG m (f_X4_forget N m) := by
  unfold f_X4_forget
  refine ok_aload_n 1 0 dX4_forget_0 rfl rfl rfl ?_
  refine ok_iconst 2 0 dX4_forget_1 rfl rfl ?_
  refine ok_putI 5 dX4_forget_2 rfl rfl F_Encores_Past_30 sg_48 rfl (Nat.le_of_ble_eq_true rfl) rfl rfl pZ_4_2 rfl rfl ?_
  refine ok_bndM (fun m_2 => ?_)
  exact ok_vret dX4_forget_5 rfl

theorem c_X4_forget (N d : Nat)   (m : Mem) : CM SX (d + 0) m_X4_forget SG SG [.ref 48] m (f_X4_forget N m) :=
  CM.ofOk km_X4_forget ⟨Nat.le_refl _, Nat.le_refl _⟩ (by simp [Value.category]) (Nat.le_of_ble_eq_true rfl) (ok_X4_forget N d  m)

def f_X11_within (N : Nat) (a0 : Int32) (a1 : Int32) (a2 : Int32) (m : Mem) : Ans :=
if a0 < a1 then (some (0, m))
else (if a2 < a0 then (some (0, m))
else (some (1, m)))

set_option maxRecDepth 100000 in
set_option maxHeartbeats 4000000 in
theorem ok_X11_within (N d : Nat) (a0 : Int32) (a1 : Int32) (a2 : Int32)  (m : Mem) : Ok SX SG (d + 0) m_X11_within 0 [some (.int a0), some (.int a1), some (.int a2)] [] SG m (f_X11_within N a0 a1 a2 m) := by
  unfold f_X11_within
  refine ok_iload_n 1 0 dX11_within_0 rfl rfl rfl ?_
  refine ok_iload_n 2 1 dX11_within_1 rfl rfl rfl ?_
  refine ok_icmp_lt 14 5 dX11_within_2 (by decide) rfl (fun _ => ?_) (fun _ => ?_)
  · refine ok_iconst 15 0 dX11_within_14 rfl rfl ?_
    exact ok_zretc dX11_within_15 rfl rfl
  · refine ok_iload_n 6 0 dX11_within_5 rfl rfl rfl ?_
    refine ok_iload_n 7 2 dX11_within_6 rfl rfl rfl ?_
    refine ok_icmp_gt 14 10 dX11_within_7 (by decide) rfl (fun _ => ?_) (fun _ => ?_)
    · refine ok_iconst 15 0 dX11_within_14 rfl rfl ?_
      exact ok_zretc dX11_within_15 rfl rfl
    · refine ok_iconst 11 1 dX11_within_10 rfl rfl ?_
      refine ok_goto 15 dX11_within_11 (by decide) ?_
      exact ok_zretc dX11_within_15 rfl rfl

theorem c_X11_within (N d : Nat) (a0 : Int32) (a1 : Int32) (a2 : Int32)  (m : Mem) : CM SX (d + 0) m_X11_within SG SG [.int a0, .int a1, .int a2] m (f_X11_within N a0 a1 a2 m) :=
  CM.ofOk km_X11_within ⟨Nat.le_refl _, Nat.le_refl _⟩ (by simp [Value.category]) (Nat.le_of_ble_eq_true rfl) (ok_X11_within N d a0 a1 a2 m)

def f_X10_byteAt (N : Nat) (a1 : Int32) (m : Mem) : Ans :=
if a1 < 0 then (some ((-1), m))
else (if (m 99 2) ≤ a1 then (some ((-1), m))
else (if (400 : Int32) ≤ a1 then (some ((-1), m))
else (chk (inb a1 400) <|
some (m 100 a1.toNatClampNeg, m))))

set_option maxRecDepth 100000 in
set_option maxHeartbeats 4000000 in
theorem ok_X10_byteAt (N d : Nat) (a1 : Int32)  (m : Mem) : Ok SX SG (d + 0) m_X10_byteAt 0 [some (.ref 99), some (.int a1)] [] SG m (f_X10_byteAt N a1 m) := by
  unfold f_X10_byteAt
  refine ok_iload_n 1 1 dX10_byteAt_0 rfl rfl rfl ?_
  refine ok_if_lt 30 4 dX10_byteAt_1 (by decide) rfl (fun _ => ?_) (fun _ => ?_)
  · refine ok_iconst 31 (-1) dX10_byteAt_30 rfl rfl ?_
    exact ok_iret dX10_byteAt_31 rfl
  · refine ok_iload_n 5 1 dX10_byteAt_4 rfl rfl rfl ?_
    refine ok_aload_n 6 0 dX10_byteAt_5 rfl rfl rfl ?_
    refine ok_getI 9 dX10_byteAt_6 rfl rfl F_Encores_Tape_24 sg_99 rfl (Nat.le_of_ble_eq_true rfl) rfl ?_
    refine ok_icmp_ge 30 12 dX10_byteAt_9 (by decide) rfl (fun _ => ?_) (fun _ => ?_)
    · refine ok_iconst 31 (-1) dX10_byteAt_30 rfl rfl ?_
      exact ok_iret dX10_byteAt_31 rfl
    · refine ok_iload_n 13 1 dX10_byteAt_12 rfl rfl rfl ?_
      refine ok_aload_n 14 0 dX10_byteAt_13 rfl rfl rfl ?_
      refine ok_getR 17 dX10_byteAt_14 rfl rfl F_Encores_Tape_9 sg_99 rfl (Nat.le_of_ble_eq_true rfl) rfl rfl ?_
      refine ok_alen 18 dX10_byteAt_17 rfl sg_100 ?_
      rw [show Int32.ofNat 400 = 400 from rfl]
      refine ok_icmp_ge 30 21 dX10_byteAt_18 (by decide) rfl (fun _ => ?_) (fun _ => ?_)
      · refine ok_iconst 31 (-1) dX10_byteAt_30 rfl rfl ?_
        exact ok_iret dX10_byteAt_31 rfl
      · refine ok_aload_n 22 0 dX10_byteAt_21 rfl rfl rfl ?_
        refine ok_getR 25 dX10_byteAt_22 rfl rfl F_Encores_Tape_9 sg_99 rfl (Nat.le_of_ble_eq_true rfl) rfl rfl ?_
        refine ok_iload_n 26 1 dX10_byteAt_25 rfl rfl rfl ?_
        refine ok_iald 27 dX10_byteAt_26 rfl sg_100 ?_
        refine ok_goto 31 dX10_byteAt_27 (by decide) ?_
        exact ok_iret dX10_byteAt_31 rfl

theorem c_X10_byteAt (N d : Nat) (a1 : Int32)  (m : Mem) : CM SX (d + 0) m_X10_byteAt SG SG [.ref 99, .int a1] m (f_X10_byteAt N a1 m) :=
  CM.ofOk km_X10_byteAt ⟨Nat.le_refl _, Nat.le_refl _⟩ (by simp [Value.category]) (Nat.le_of_ble_eq_true rfl) (ok_X10_byteAt N d a1 m)

def f_X10_isBlank (N : Nat) (a0 : Int32) (m : Mem) : Ans :=
if a0 = (32 : Int32) then (some (1, m))
else (if a0 = (10 : Int32) then (some (1, m))
else (some (0, m)))

set_option maxRecDepth 100000 in
set_option maxHeartbeats 4000000 in
theorem ok_X10_isBlank (N d : Nat) (a0 : Int32)  (m : Mem) : Ok SX SG (d + 0) m_X10_isBlank 0 [some (.int a0)] [] SG m (f_X10_isBlank N a0 m) := by
  unfold f_X10_isBlank
  refine ok_iload_n 1 0 dX10_isBlank_0 rfl rfl rfl ?_
  refine ok_bipush 3 32 dX10_isBlank_1 rfl rfl ?_
  refine ok_icmp_eq 12 6 dX10_isBlank_3 (by decide) rfl (fun _ => ?_) (fun _ => ?_)
  · refine ok_iconst 13 1 dX10_isBlank_12 rfl rfl ?_
    refine ok_goto 17 dX10_isBlank_13 (by decide) ?_
    exact ok_zretc dX10_isBlank_17 rfl rfl
  · refine ok_iload_n 7 0 dX10_isBlank_6 rfl rfl rfl ?_
    refine ok_bipush 9 10 dX10_isBlank_7 rfl rfl ?_
    refine ok_icmp_ne 16 12 dX10_isBlank_9 (by decide) rfl (fun _ => ?_) (fun _ => ?_)
    · refine ok_iconst 17 0 dX10_isBlank_16 rfl rfl ?_
      exact ok_zretc dX10_isBlank_17 rfl rfl
    · refine ok_iconst 13 1 dX10_isBlank_12 rfl rfl ?_
      refine ok_goto 17 dX10_isBlank_13 (by decide) ?_
      exact ok_zretc dX10_isBlank_17 rfl rfl

theorem c_X10_isBlank (N d : Nat) (a0 : Int32)  (m : Mem) : CM SX (d + 0) m_X10_isBlank SG SG [.int a0] m (f_X10_isBlank N a0 m) :=
  CM.ofOk km_X10_isBlank ⟨Nat.le_refl _, Nat.le_refl _⟩ (by simp [Value.category]) (Nat.le_of_ble_eq_true rfl) (ok_X10_isBlank N d a0 m)

def f_X10_isDigit (N : Nat) (a0 : Int32) (m : Mem) : Ans :=
if a0 < (48 : Int32) then (some (0, m))
else (if (57 : Int32) < a0 then (some (0, m))
else (some (1, m)))

set_option maxRecDepth 100000 in
set_option maxHeartbeats 4000000 in
theorem ok_X10_isDigit (N d : Nat) (a0 : Int32)  (m : Mem) : Ok SX SG (d + 0) m_X10_isDigit 0 [some (.int a0)] [] SG m (f_X10_isDigit N a0 m) := by
  unfold f_X10_isDigit
  refine ok_iload_n 1 0 dX10_isDigit_0 rfl rfl rfl ?_
  refine ok_bipush 3 48 dX10_isDigit_1 rfl rfl ?_
  refine ok_icmp_lt 16 6 dX10_isDigit_3 (by decide) rfl (fun _ => ?_) (fun _ => ?_)
  · refine ok_iconst 17 0 dX10_isDigit_16 rfl rfl ?_
    exact ok_zretc dX10_isDigit_17 rfl rfl
  · refine ok_iload_n 7 0 dX10_isDigit_6 rfl rfl rfl ?_
    refine ok_bipush 9 57 dX10_isDigit_7 rfl rfl ?_
    refine ok_icmp_gt 16 12 dX10_isDigit_9 (by decide) rfl (fun _ => ?_) (fun _ => ?_)
    · refine ok_iconst 17 0 dX10_isDigit_16 rfl rfl ?_
      exact ok_zretc dX10_isDigit_17 rfl rfl
    · refine ok_iconst 13 1 dX10_isDigit_12 rfl rfl ?_
      refine ok_goto 17 dX10_isDigit_13 (by decide) ?_
      exact ok_zretc dX10_isDigit_17 rfl rfl

theorem c_X10_isDigit (N d : Nat) (a0 : Int32)  (m : Mem) : CM SX (d + 0) m_X10_isDigit SG SG [.int a0] m (f_X10_isDigit N a0 m) :=
  CM.ofOk km_X10_isDigit ⟨Nat.le_refl _, Nat.le_refl _⟩ (by simp [Value.category]) (Nat.le_of_ble_eq_true rfl) (ok_X10_isDigit N d a0 m)

def f_X10_takeNumber_L4 (N : Nat) (a1 : Int32)  (K43 : Int32 → Int32 → Mem → Ans) (X : Int32 → Int32 → Mem → Ans) (s2_4 : Int32) (s3_4 : Int32) (m : Mem) : Ans :=
if (m 99 2) ≤ s3_4 then (K43 s2_4 s3_4 m)
else (bd (f_X10_byteAt N s3_4 m) fun r_14 m_14 =>
bd (f_X10_isDigit N r_14 m_14) fun r_17 m_17 =>
if r_17 = 0 then (K43 s2_4 s3_4 m_17)
else (bd (f_X10_byteAt N s3_4 m_17) fun r_29 m_29 =>
bnd (((s2_4 * (10 : Int32)) + r_29) - (48 : Int32)) fun a2_36 =>
X a2_36 (s3_4 + 1) m_29))

def f_X10_takeNumber_J43 (N : Nat) (a1 : Int32)   (s2_43 : Int32) (s3_43 : Int32) (m : Mem) : Ans :=
if (4 : Int32) < (s3_43 - a1) then (bd (f_X9_add N 101 2 a1 s2_43 0 m) fun r_62 m_62 =>
some (s3_43, m_62))
else (bd (f_X9_add N 101 1 a1 s2_43 0 m) fun r_62 m_62 =>
some (s3_43, m_62))

def f_X10_takeNumber (N : Nat) (a1 : Int32) (m : Mem) : Ans :=
it2 (f_X10_takeNumber_L4 N a1 (fun k2_43 k3_43 mk43 => f_X10_takeNumber_J43 N a1 k2_43 k3_43 mk43)) N 0 a1 m

set_option maxRecDepth 100000 in
set_option maxHeartbeats 4000000 in
theorem ok_X10_takeNumber_L4 (N d : Nat) (a1 : Int32)   (K43 : Int32 → Int32 → Mem → Ans) (hK43 : ∀ (k2 : Int32) (k3 : Int32) (m : Mem), Ok SX SG (d + 1) m_X10_takeNumber 43 [some (.ref 99), some (.int a1), some (.int k2), some (.int k3)] [] SG m (K43 k2 k3 m)) : ∀ (n : Nat) (s2_4 : Int32) (s3_4 : Int32) (m : Mem), Ok SX SG (d + 1) m_X10_takeNumber 4 [some (.ref 99), some (.int a1), some (.int s2_4), some (.int s3_4)] [] SG m (it2 (f_X10_takeNumber_L4 N a1 K43) n s2_4 s3_4 m) :=
  ok_it2 (fun s2_4 s3_4 => [some (.ref 99), some (.int a1), some (.int s2_4), some (.int s3_4)]) (fun X hX s2_4 s3_4 m => by
    try unfold f_X10_takeNumber_L4
    refine ok_iload_n 5 3 dX10_takeNumber_4 rfl rfl rfl ?_
    refine ok_aload_n 6 0 dX10_takeNumber_5 rfl rfl rfl ?_
    refine ok_getI 9 dX10_takeNumber_6 rfl rfl F_Encores_Tape_24 sg_99 rfl (Nat.le_of_ble_eq_true rfl) rfl ?_
    refine ok_icmp_ge 43 12 dX10_takeNumber_9 (by decide) rfl (fun _ => ?_) (fun _ => ?_)
    · exact ok_less [some (.ref 99), some (.int a1), some (.int s2_4), some (.int s3_4)] (And.intro rfl (And.intro rfl (And.intro rfl (And.intro rfl (trivial))))) (hK43 s2_4 s3_4 m)
    · refine ok_aload_n 13 0 dX10_takeNumber_12 rfl rfl rfl ?_
      refine ok_iload_n 14 3 dX10_takeNumber_13 rfl rfl rfl ?_
      refine ok_callVi (np := 1) (M' := m_X10_byteAt) (As := [.int s3_4]) (st := []) 17 dX10_takeNumber_14 rfl rfl km_X10_byteAt ki_X10_byteAt kv_X10_byteAt ml_Encores_Tape_31 (by decide) sg_99 rfl (Nat.le_of_ble_eq_true rfl) rfl rfl rfl (Nat.le_of_ble_eq_true rfl) (c_X10_byteAt N (d + 0) s3_4 m) ⟨Nat.le_refl _, Nat.le_refl _⟩ (Or.inl rfl) rfl (fun r_14 m_14 _ => ?_)
      refine ok_callSi (np := 1) (M' := m_X10_isDigit) (As := [.int r_14]) (st := []) 20 dX10_takeNumber_17 rfl rfl km_X10_isDigit ks_X10_isDigit ml_Encores_Tape_65 (by decide) rfl rfl (Nat.le_of_ble_eq_true rfl) (c_X10_isDigit N (d + 0) r_14 m_14) ⟨Nat.le_refl _, Nat.le_refl _⟩ (Or.inl rfl) rfl (fun r_17 m_17 _ => ?_)
      refine ok_if_eq 43 23 dX10_takeNumber_20 (by decide) rfl (fun _ => ?_) (fun _ => ?_)
      · exact ok_less [some (.ref 99), some (.int a1), some (.int s2_4), some (.int s3_4)] (And.intro rfl (And.intro rfl (And.intro rfl (And.intro rfl (trivial))))) (hK43 s2_4 s3_4 m_17)
      · refine ok_iload_n 24 2 dX10_takeNumber_23 rfl rfl rfl ?_
        refine ok_bipush 26 10 dX10_takeNumber_24 rfl rfl ?_
        refine ok_imul 27 dX10_takeNumber_26 rfl ?_
        refine ok_aload_n 28 0 dX10_takeNumber_27 rfl rfl rfl ?_
        refine ok_iload_n 29 3 dX10_takeNumber_28 rfl rfl rfl ?_
        refine ok_callVi (np := 1) (M' := m_X10_byteAt) (As := [.int s3_4]) (st := [.int (s2_4 * (10 : Int32))]) 32 dX10_takeNumber_29 rfl rfl km_X10_byteAt ki_X10_byteAt kv_X10_byteAt ml_Encores_Tape_31 (by decide) sg_99 rfl (Nat.le_of_ble_eq_true rfl) rfl rfl rfl (Nat.le_of_ble_eq_true rfl) (c_X10_byteAt N (d + 0) s3_4 m_17) ⟨Nat.le_refl _, Nat.le_refl _⟩ (Or.inl rfl) rfl (fun r_29 m_29 _ => ?_)
        refine ok_iadd 33 dX10_takeNumber_32 rfl ?_
        refine ok_bipush 35 48 dX10_takeNumber_33 rfl rfl ?_
        refine ok_isub 36 dX10_takeNumber_35 rfl ?_
        refine ok_bndI (fun a2_36 => ?_)
        refine ok_istore_n 37 2 [some (.ref 99), some (.int a1), some (.int a2_36), some (.int s3_4)] dX10_takeNumber_36 rfl rfl (by decide) rfl ?_
        refine ok_iinc 40 3 1 [some (.ref 99), some (.int a1), some (.int a2_36), some (.int (s3_4 + 1))] dX10_takeNumber_37 rfl rfl rfl (by decide) rfl ?_
        refine ok_goto 4 dX10_takeNumber_40 (by decide) ?_
        exact ok_less [some (.ref 99), some (.int a1), some (.int a2_36), some (.int (s3_4 + 1))] (And.intro rfl (And.intro rfl (And.intro rfl (And.intro rfl (trivial))))) (hX a2_36 (s3_4 + 1) m_29))

set_option maxRecDepth 100000 in
set_option maxHeartbeats 4000000 in
theorem ok_X10_takeNumber_J43 (N d : Nat) (a1 : Int32)    (s2_43 : Int32) (s3_43 : Int32) (m : Mem) : Ok SX SG (d + 1) m_X10_takeNumber 43 [some (.ref 99), some (.int a1), some (.int s2_43), some (.int s3_43)] [] SG m (f_X10_takeNumber_J43 N a1 s2_43 s3_43 m) := by
  unfold f_X10_takeNumber_J43
  refine ok_aload_n 44 0 dX10_takeNumber_43 rfl rfl rfl ?_
  refine ok_getR 47 dX10_takeNumber_44 rfl rfl F_Encores_Tape_20 sg_99 rfl (Nat.le_of_ble_eq_true rfl) rfl rfl ?_
  refine ok_iload_n 48 3 dX10_takeNumber_47 rfl rfl rfl ?_
  refine ok_iload_n 49 1 dX10_takeNumber_48 rfl rfl rfl ?_
  refine ok_isub 50 dX10_takeNumber_49 rfl ?_
  refine ok_iconst 51 4 dX10_takeNumber_50 rfl rfl ?_
  refine ok_icmp_gt 58 54 dX10_takeNumber_51 (by decide) rfl (fun _ => ?_) (fun _ => ?_)
  · refine ok_iconst 59 2 dX10_takeNumber_58 rfl rfl ?_
    refine ok_iload_n 60 1 dX10_takeNumber_59 rfl rfl rfl ?_
    refine ok_iload_n 61 2 dX10_takeNumber_60 rfl rfl rfl ?_
    refine ok_iconst 62 0 dX10_takeNumber_61 rfl rfl ?_
    refine ok_callVi (np := 4) (M' := m_X9_add) (As := [.int 2, .int a1, .int s2_43, .int 0]) (st := []) 65 dX10_takeNumber_62 rfl rfl km_X9_add ki_X9_add kv_X9_add ml_Encores_Tape_42 (by decide) sg_101 rfl (Nat.le_of_ble_eq_true rfl) rfl rfl rfl (Nat.le_of_ble_eq_true rfl) (c_X9_add N (d + 0) 101 2 a1 s2_43 0 tg_101 m) ⟨Nat.le_refl _, Nat.le_refl _⟩ (Or.inl rfl) rfl (fun r_62 m_62 _ => ?_)
    refine ok_pop 66 dX10_takeNumber_65 rfl rfl ?_
    refine ok_iload_n 67 3 dX10_takeNumber_66 rfl rfl rfl ?_
    exact ok_iret dX10_takeNumber_67 rfl
  · refine ok_iconst 55 1 dX10_takeNumber_54 rfl rfl ?_
    refine ok_goto 59 dX10_takeNumber_55 (by decide) ?_
    refine ok_iload_n 60 1 dX10_takeNumber_59 rfl rfl rfl ?_
    refine ok_iload_n 61 2 dX10_takeNumber_60 rfl rfl rfl ?_
    refine ok_iconst 62 0 dX10_takeNumber_61 rfl rfl ?_
    refine ok_callVi (np := 4) (M' := m_X9_add) (As := [.int 1, .int a1, .int s2_43, .int 0]) (st := []) 65 dX10_takeNumber_62 rfl rfl km_X9_add ki_X9_add kv_X9_add ml_Encores_Tape_42 (by decide) sg_101 rfl (Nat.le_of_ble_eq_true rfl) rfl rfl rfl (Nat.le_of_ble_eq_true rfl) (c_X9_add N (d + 0) 101 1 a1 s2_43 0 tg_101 m) ⟨Nat.le_refl _, Nat.le_refl _⟩ (Or.inl rfl) rfl (fun r_62 m_62 _ => ?_)
    refine ok_pop 66 dX10_takeNumber_65 rfl rfl ?_
    refine ok_iload_n 67 3 dX10_takeNumber_66 rfl rfl rfl ?_
    exact ok_iret dX10_takeNumber_67 rfl

set_option maxRecDepth 100000 in
set_option maxHeartbeats 4000000 in
theorem ok_X10_takeNumber (N d : Nat) (a1 : Int32)  (m : Mem) : Ok SX SG (d + 1) m_X10_takeNumber 0 [some (.ref 99), some (.int a1), none, none] [] SG m (f_X10_takeNumber N a1 m) := by
  unfold f_X10_takeNumber
  refine ok_iconst 1 0 dX10_takeNumber_0 rfl rfl ?_
  refine ok_istore_n 2 2 [some (.ref 99), some (.int a1), some (.int 0), none] dX10_takeNumber_1 rfl rfl (by decide) rfl ?_
  refine ok_iload_n 3 1 dX10_takeNumber_2 rfl rfl rfl ?_
  refine ok_istore_n 4 3 [some (.ref 99), some (.int a1), some (.int 0), some (.int a1)] dX10_takeNumber_3 rfl rfl (by decide) rfl ?_
  refine ok_less [some (.ref 99), some (.int a1), some (.int 0), some (.int a1)] (And.intro rfl (And.intro rfl (And.intro rfl (And.intro rfl (trivial))))) ?_
  exact ok_X10_takeNumber_L4 N d a1  _ (fun k2_43 k3_43 mk43 => by
      exact ok_less [some (.ref 99), some (.int a1), some (.int k2_43), some (.int k3_43)] (And.intro rfl (And.intro rfl (And.intro rfl (And.intro rfl (trivial))))) (ok_X10_takeNumber_J43 N d a1   k2_43 k3_43 mk43)) N 0 a1 m

theorem c_X10_takeNumber (N d : Nat) (a1 : Int32)  (m : Mem) : CM SX (d + 1) m_X10_takeNumber SG SG [.ref 99, .int a1] m (f_X10_takeNumber N a1 m) :=
  CM.ofOk km_X10_takeNumber ⟨Nat.le_refl _, Nat.le_refl _⟩ (by simp [Value.category]) (Nat.le_of_ble_eq_true rfl) (ok_X10_takeNumber N d a1 m)

def f_X10_isLetter (N : Nat) (a0 : Int32) (m : Mem) : Ans :=
if a0 < (97 : Int32) then (if a0 < (65 : Int32) then (some (0, m))
else (if (90 : Int32) < a0 then (some (0, m))
else (some (1, m))))
else (if a0 ≤ (122 : Int32) then (some (1, m))
else (if a0 < (65 : Int32) then (some (0, m))
else (if (90 : Int32) < a0 then (some (0, m))
else (some (1, m)))))

set_option maxRecDepth 100000 in
set_option maxHeartbeats 4000000 in
theorem ok_X10_isLetter (N d : Nat) (a0 : Int32)  (m : Mem) : Ok SX SG (d + 0) m_X10_isLetter 0 [some (.int a0)] [] SG m (f_X10_isLetter N a0 m) := by
  unfold f_X10_isLetter
  refine ok_iload_n 1 0 dX10_isLetter_0 rfl rfl rfl ?_
  refine ok_bipush 3 97 dX10_isLetter_1 rfl rfl ?_
  refine ok_icmp_lt 12 6 dX10_isLetter_3 (by decide) rfl (fun _ => ?_) (fun _ => ?_)
  · refine ok_iload_n 13 0 dX10_isLetter_12 rfl rfl rfl ?_
    refine ok_bipush 15 65 dX10_isLetter_13 rfl rfl ?_
    refine ok_icmp_lt 28 18 dX10_isLetter_15 (by decide) rfl (fun _ => ?_) (fun _ => ?_)
    · refine ok_iconst 29 0 dX10_isLetter_28 rfl rfl ?_
      exact ok_zretc dX10_isLetter_29 rfl rfl
    · refine ok_iload_n 19 0 dX10_isLetter_18 rfl rfl rfl ?_
      refine ok_bipush 21 90 dX10_isLetter_19 rfl rfl ?_
      refine ok_icmp_gt 28 24 dX10_isLetter_21 (by decide) rfl (fun _ => ?_) (fun _ => ?_)
      · refine ok_iconst 29 0 dX10_isLetter_28 rfl rfl ?_
        exact ok_zretc dX10_isLetter_29 rfl rfl
      · refine ok_iconst 25 1 dX10_isLetter_24 rfl rfl ?_
        refine ok_goto 29 dX10_isLetter_25 (by decide) ?_
        exact ok_zretc dX10_isLetter_29 rfl rfl
  · refine ok_iload_n 7 0 dX10_isLetter_6 rfl rfl rfl ?_
    refine ok_bipush 9 122 dX10_isLetter_7 rfl rfl ?_
    refine ok_icmp_le 24 12 dX10_isLetter_9 (by decide) rfl (fun _ => ?_) (fun _ => ?_)
    · refine ok_iconst 25 1 dX10_isLetter_24 rfl rfl ?_
      refine ok_goto 29 dX10_isLetter_25 (by decide) ?_
      exact ok_zretc dX10_isLetter_29 rfl rfl
    · refine ok_iload_n 13 0 dX10_isLetter_12 rfl rfl rfl ?_
      refine ok_bipush 15 65 dX10_isLetter_13 rfl rfl ?_
      refine ok_icmp_lt 28 18 dX10_isLetter_15 (by decide) rfl (fun _ => ?_) (fun _ => ?_)
      · refine ok_iconst 29 0 dX10_isLetter_28 rfl rfl ?_
        exact ok_zretc dX10_isLetter_29 rfl rfl
      · refine ok_iload_n 19 0 dX10_isLetter_18 rfl rfl rfl ?_
        refine ok_bipush 21 90 dX10_isLetter_19 rfl rfl ?_
        refine ok_icmp_gt 28 24 dX10_isLetter_21 (by decide) rfl (fun _ => ?_) (fun _ => ?_)
        · refine ok_iconst 29 0 dX10_isLetter_28 rfl rfl ?_
          exact ok_zretc dX10_isLetter_29 rfl rfl
        · refine ok_iconst 25 1 dX10_isLetter_24 rfl rfl ?_
          refine ok_goto 29 dX10_isLetter_25 (by decide) ?_
          exact ok_zretc dX10_isLetter_29 rfl rfl

theorem c_X10_isLetter (N d : Nat) (a0 : Int32)  (m : Mem) : CM SX (d + 0) m_X10_isLetter SG SG [.int a0] m (f_X10_isLetter N a0 m) :=
  CM.ofOk km_X10_isLetter ⟨Nat.le_refl _, Nat.le_refl _⟩ (by simp [Value.category]) (Nat.le_of_ble_eq_true rfl) (ok_X10_isLetter N d a0 m)

def f_X10_isSign (N : Nat) (a0 : Int32) (m : Mem) : Ans :=
if a0 = (59 : Int32) then (some (1, m))
else (if a0 = (43 : Int32) then (some (1, m))
else (if a0 = (45 : Int32) then (some (1, m))
else (if a0 = (42 : Int32) then (some (1, m))
else (if a0 = (47 : Int32) then (some (1, m))
else (if a0 = (40 : Int32) then (some (1, m))
else (if a0 = (41 : Int32) then (some (1, m))
else (if a0 = (60 : Int32) then (some (1, m))
else (if a0 = (61 : Int32) then (some (1, m))
else (if a0 = (62 : Int32) then (some (1, m))
else (some (0, m)))))))))))

set_option maxRecDepth 100000 in
set_option maxHeartbeats 4000000 in
theorem ok_X10_isSign (N d : Nat) (a0 : Int32)  (m : Mem) : Ok SX SG (d + 0) m_X10_isSign 0 [some (.int a0)] [] SG m (f_X10_isSign N a0 m) := by
  unfold f_X10_isSign
  refine ok_iload_n 1 0 dX10_isSign_0 rfl rfl rfl ?_
  refine ok_bipush 3 59 dX10_isSign_1 rfl rfl ?_
  refine ok_icmp_eq 60 6 dX10_isSign_3 (by decide) rfl (fun _ => ?_) (fun _ => ?_)
  · refine ok_iconst 61 1 dX10_isSign_60 rfl rfl ?_
    refine ok_goto 65 dX10_isSign_61 (by decide) ?_
    exact ok_zretc dX10_isSign_65 rfl rfl
  · refine ok_iload_n 7 0 dX10_isSign_6 rfl rfl rfl ?_
    refine ok_bipush 9 43 dX10_isSign_7 rfl rfl ?_
    refine ok_icmp_eq 60 12 dX10_isSign_9 (by decide) rfl (fun _ => ?_) (fun _ => ?_)
    · refine ok_iconst 61 1 dX10_isSign_60 rfl rfl ?_
      refine ok_goto 65 dX10_isSign_61 (by decide) ?_
      exact ok_zretc dX10_isSign_65 rfl rfl
    · refine ok_iload_n 13 0 dX10_isSign_12 rfl rfl rfl ?_
      refine ok_bipush 15 45 dX10_isSign_13 rfl rfl ?_
      refine ok_icmp_eq 60 18 dX10_isSign_15 (by decide) rfl (fun _ => ?_) (fun _ => ?_)
      · refine ok_iconst 61 1 dX10_isSign_60 rfl rfl ?_
        refine ok_goto 65 dX10_isSign_61 (by decide) ?_
        exact ok_zretc dX10_isSign_65 rfl rfl
      · refine ok_iload_n 19 0 dX10_isSign_18 rfl rfl rfl ?_
        refine ok_bipush 21 42 dX10_isSign_19 rfl rfl ?_
        refine ok_icmp_eq 60 24 dX10_isSign_21 (by decide) rfl (fun _ => ?_) (fun _ => ?_)
        · refine ok_iconst 61 1 dX10_isSign_60 rfl rfl ?_
          refine ok_goto 65 dX10_isSign_61 (by decide) ?_
          exact ok_zretc dX10_isSign_65 rfl rfl
        · refine ok_iload_n 25 0 dX10_isSign_24 rfl rfl rfl ?_
          refine ok_bipush 27 47 dX10_isSign_25 rfl rfl ?_
          refine ok_icmp_eq 60 30 dX10_isSign_27 (by decide) rfl (fun _ => ?_) (fun _ => ?_)
          · refine ok_iconst 61 1 dX10_isSign_60 rfl rfl ?_
            refine ok_goto 65 dX10_isSign_61 (by decide) ?_
            exact ok_zretc dX10_isSign_65 rfl rfl
          · refine ok_iload_n 31 0 dX10_isSign_30 rfl rfl rfl ?_
            refine ok_bipush 33 40 dX10_isSign_31 rfl rfl ?_
            refine ok_icmp_eq 60 36 dX10_isSign_33 (by decide) rfl (fun _ => ?_) (fun _ => ?_)
            · refine ok_iconst 61 1 dX10_isSign_60 rfl rfl ?_
              refine ok_goto 65 dX10_isSign_61 (by decide) ?_
              exact ok_zretc dX10_isSign_65 rfl rfl
            · refine ok_iload_n 37 0 dX10_isSign_36 rfl rfl rfl ?_
              refine ok_bipush 39 41 dX10_isSign_37 rfl rfl ?_
              refine ok_icmp_eq 60 42 dX10_isSign_39 (by decide) rfl (fun _ => ?_) (fun _ => ?_)
              · refine ok_iconst 61 1 dX10_isSign_60 rfl rfl ?_
                refine ok_goto 65 dX10_isSign_61 (by decide) ?_
                exact ok_zretc dX10_isSign_65 rfl rfl
              · refine ok_iload_n 43 0 dX10_isSign_42 rfl rfl rfl ?_
                refine ok_bipush 45 60 dX10_isSign_43 rfl rfl ?_
                refine ok_icmp_eq 60 48 dX10_isSign_45 (by decide) rfl (fun _ => ?_) (fun _ => ?_)
                · refine ok_iconst 61 1 dX10_isSign_60 rfl rfl ?_
                  refine ok_goto 65 dX10_isSign_61 (by decide) ?_
                  exact ok_zretc dX10_isSign_65 rfl rfl
                · refine ok_iload_n 49 0 dX10_isSign_48 rfl rfl rfl ?_
                  refine ok_bipush 51 61 dX10_isSign_49 rfl rfl ?_
                  refine ok_icmp_eq 60 54 dX10_isSign_51 (by decide) rfl (fun _ => ?_) (fun _ => ?_)
                  · refine ok_iconst 61 1 dX10_isSign_60 rfl rfl ?_
                    refine ok_goto 65 dX10_isSign_61 (by decide) ?_
                    exact ok_zretc dX10_isSign_65 rfl rfl
                  · refine ok_iload_n 55 0 dX10_isSign_54 rfl rfl rfl ?_
                    refine ok_bipush 57 62 dX10_isSign_55 rfl rfl ?_
                    refine ok_icmp_ne 64 60 dX10_isSign_57 (by decide) rfl (fun _ => ?_) (fun _ => ?_)
                    · refine ok_iconst 65 0 dX10_isSign_64 rfl rfl ?_
                      exact ok_zretc dX10_isSign_65 rfl rfl
                    · refine ok_iconst 61 1 dX10_isSign_60 rfl rfl ?_
                      refine ok_goto 65 dX10_isSign_61 (by decide) ?_
                      exact ok_zretc dX10_isSign_65 rfl rfl

theorem c_X10_isSign (N d : Nat) (a0 : Int32)  (m : Mem) : CM SX (d + 0) m_X10_isSign SG SG [.int a0] m (f_X10_isSign N a0 m) :=
  CM.ofOk km_X10_isSign ⟨Nat.le_refl _, Nat.le_refl _⟩ (by simp [Value.category]) (Nat.le_of_ble_eq_true rfl) (ok_X10_isSign N d a0 m)

def f_J0_coder_7d493 (N : Nat) (this : Nat) (m : Mem) : Ans :=
if (1 : Int32) = 0 then (some (1, m))
else (some (0, m))

set_option maxRecDepth 100000 in
set_option maxHeartbeats 4000000 in
theorem ok_J0_coder_7d493 (N d : Nat) (this : Nat) (h0 : 1000000 ≤ this ∧ this < 1000000 + strN) (m : Mem) : Ok SX SG (d + 0) m_J0_coder_7d493 0 [some (.ref this)] [] SG m (f_J0_coder_7d493 N this m) := by
  unfold f_J0_coder_7d493
  refine ok_getsC 3 dJ0_coder_7d493_0 rfl rfl fl_java_lang_String_38 ?_
  refine ok_if_eq 13 6 dJ0_coder_7d493_3 (by decide) rfl (fun _ => ?_) (fun _ => ?_)
  · refine ok_iconst 14 1 dJ0_coder_7d493_13 rfl rfl ?_
    exact ok_bretc dJ0_coder_7d493_14 rfl rfl
  · refine ok_aload_n 7 0 dJ0_coder_7d493_6 rfl rfl rfl ?_
    refine ok_getSc 10 dJ0_coder_7d493_7 rfl rfl fl_java_lang_String_15 h0 ?_
    refine ok_goto 14 dJ0_coder_7d493_10 (by decide) ?_
    exact ok_bretc dJ0_coder_7d493_14 rfl rfl

theorem c_J0_coder_7d493 (N d : Nat) (this : Nat) (h0 : 1000000 ≤ this ∧ this < 1000000 + strN) (m : Mem) : CM SX (d + 0) m_J0_coder_7d493 SG SG [.ref this] m (f_J0_coder_7d493 N this m) :=
  CM.ofOk km_J0_coder_7d493 ⟨Nat.le_refl _, Nat.le_refl _⟩ (by simp [Value.category]) (Nat.le_of_ble_eq_true rfl) (ok_J0_coder_7d493 N d this h0 m)

def f_J0_length_8abf5 (N : Nat) (this : Nat) (m : Mem) : Ans :=
bd (f_J0_coder_7d493 N this m) fun r_6 m_6 =>
some (((sL this) >>> (r_6 &&& 31)), m_6)

set_option maxRecDepth 100000 in
set_option maxHeartbeats 4000000 in
theorem ok_J0_length_8abf5 (N d : Nat) (this : Nat) (h0 : 1000000 ≤ this ∧ this < 1000000 + strN) (m : Mem) : Ok SX SG (d + 1) m_J0_length_8abf5 0 [some (.ref this)] [] SG m (f_J0_length_8abf5 N this m) := by
  unfold f_J0_length_8abf5
  refine ok_aload_n 1 0 dJ0_length_8abf5_0 rfl rfl rfl ?_
  refine ok_getSv 4 dJ0_length_8abf5_1 rfl rfl fl_java_lang_String_9 h0 ?_
  refine ok_alenS 5 dJ0_length_8abf5_4 rfl h0 ?_
  refine ok_aload_n 6 0 dJ0_length_8abf5_5 rfl rfl rfl ?_
  refine ok_callVStr (np := 0) (M' := m_J0_coder_7d493) (As := []) (st := [.int (sL this)]) 9 dJ0_length_8abf5_6 rfl rfl km_J0_coder_7d493 ki_J0_coder_7d493 kv_J0_coder_7d493 ml_java_lang_String_335 (by decide) h0 rfl rfl rfl (Nat.le_of_ble_eq_true rfl) (c_J0_coder_7d493 N (d + 0) this h0 m) ⟨Nat.le_refl _, Nat.le_refl _⟩ (Or.inl rfl) rfl (fun r_6 m_6 _ => ?_)
  refine ok_ishr 10 dJ0_length_8abf5_9 rfl ?_
  exact ok_iret dJ0_length_8abf5_10 rfl

theorem c_J0_length_8abf5 (N d : Nat) (this : Nat) (h0 : 1000000 ≤ this ∧ this < 1000000 + strN) (m : Mem) : CM SX (d + 1) m_J0_length_8abf5 SG SG [.ref this] m (f_J0_length_8abf5 N this m) :=
  CM.ofOk km_J0_length_8abf5 ⟨Nat.le_refl _, Nat.le_refl _⟩ (by simp [Value.category]) (Nat.le_of_ble_eq_true rfl) (ok_J0_length_8abf5 N d this h0 m)

def f_J0_isLatin1_aae02 (N : Nat) (this : Nat) (m : Mem) : Ans :=
if (1 : Int32) = 0 then (some (0, m))
else (if (0 : Int32) = 0 then (some (1, m))
else (some (0, m)))

set_option maxRecDepth 100000 in
set_option maxHeartbeats 4000000 in
theorem ok_J0_isLatin1_aae02 (N d : Nat) (this : Nat) (h0 : 1000000 ≤ this ∧ this < 1000000 + strN) (m : Mem) : Ok SX SG (d + 0) m_J0_isLatin1_aae02 0 [some (.ref this)] [] SG m (f_J0_isLatin1_aae02 N this m) := by
  unfold f_J0_isLatin1_aae02
  refine ok_getsC 3 dJ0_isLatin1_aae02_0 rfl rfl fl_java_lang_String_38 ?_
  refine ok_if_eq 17 6 dJ0_isLatin1_aae02_3 (by decide) rfl (fun _ => ?_) (fun _ => ?_)
  · refine ok_iconst 18 0 dJ0_isLatin1_aae02_17 rfl rfl ?_
    exact ok_zretc dJ0_isLatin1_aae02_18 rfl rfl
  · refine ok_aload_n 7 0 dJ0_isLatin1_aae02_6 rfl rfl rfl ?_
    refine ok_getSc 10 dJ0_isLatin1_aae02_7 rfl rfl fl_java_lang_String_15 h0 ?_
    refine ok_if_ne 17 13 dJ0_isLatin1_aae02_10 (by decide) rfl (fun _ => ?_) (fun _ => ?_)
    · refine ok_iconst 18 0 dJ0_isLatin1_aae02_17 rfl rfl ?_
      exact ok_zretc dJ0_isLatin1_aae02_18 rfl rfl
    · refine ok_iconst 14 1 dJ0_isLatin1_aae02_13 rfl rfl ?_
      refine ok_goto 18 dJ0_isLatin1_aae02_14 (by decide) ?_
      exact ok_zretc dJ0_isLatin1_aae02_18 rfl rfl

theorem c_J0_isLatin1_aae02 (N d : Nat) (this : Nat) (h0 : 1000000 ≤ this ∧ this < 1000000 + strN) (m : Mem) : CM SX (d + 0) m_J0_isLatin1_aae02 SG SG [.ref this] m (f_J0_isLatin1_aae02 N this m) :=
  CM.ofOk km_J0_isLatin1_aae02 ⟨Nat.le_refl _, Nat.le_refl _⟩ (by simp [Value.category]) (Nat.le_of_ble_eq_true rfl) (ok_J0_isLatin1_aae02 N d this h0 m)

def f_J3_checkIndex_8e157 (N : Nat) (a0 : Int32) (a1 : Int32) (m : Mem) : Ans :=
if a0 < 0 then (none)
else (if a0 < a1 then (some (a0, m))
else (none))

set_option maxRecDepth 100000 in
set_option maxHeartbeats 4000000 in
theorem ok_J3_checkIndex_8e157 (N d : Nat) (a0 : Int32) (a1 : Int32) (a2 : Value) (h2 : a2.category = 1) (m : Mem) : Ok SX SG (d + 0) m_J3_checkIndex_8e157 0 [some (.int a0), some (.int a1), some (a2)] [] SG m (f_J3_checkIndex_8e157 N a0 a1 m) := by
  unfold f_J3_checkIndex_8e157
  refine ok_iload_n 1 0 dJ3_checkIndex_8e157_0 rfl rfl rfl ?_
  refine ok_if_lt 9 4 dJ3_checkIndex_8e157_1 (by decide) rfl (fun _ => ?_) (fun _ => ?_)
  · exact Ok.none
  · refine ok_iload_n 5 0 dJ3_checkIndex_8e157_4 rfl rfl rfl ?_
    refine ok_iload_n 6 1 dJ3_checkIndex_8e157_5 rfl rfl rfl ?_
    refine ok_icmp_lt 16 9 dJ3_checkIndex_8e157_6 (by decide) rfl (fun _ => ?_) (fun _ => ?_)
    · refine ok_iload_n 17 0 dJ3_checkIndex_8e157_16 rfl rfl rfl ?_
      exact ok_iret dJ3_checkIndex_8e157_17 rfl
    · exact Ok.none

theorem c_J3_checkIndex_8e157 (N d : Nat) (a0 : Int32) (a1 : Int32) (a2 : Value) (h2 : a2.category = 1) (m : Mem) : CM SX (d + 0) m_J3_checkIndex_8e157 SG SG [.int a0, .int a1, a2] m (f_J3_checkIndex_8e157 N a0 a1 m) :=
  CM.ofOk km_J3_checkIndex_8e157 ⟨Nat.le_refl _, Nat.le_refl _⟩ (by intro v hv; simp only [List.mem_cons, List.not_mem_nil, or_false] at hv; rcases hv with rfl | rfl | rfl <;> first | rfl | assumption) (Nat.le_of_ble_eq_true rfl) (ok_J3_checkIndex_8e157 N d a0 a1 a2 h2 m)

def f_J0_checkIndex_df160 (N : Nat) (a0 : Int32) (a1 : Int32) (m : Mem) : Ans :=
bd (f_J3_checkIndex_8e157 N a0 a1 m) fun r_5 m_5 =>
some (0, m_5)

set_option maxRecDepth 100000 in
set_option maxHeartbeats 4000000 in
theorem ok_J0_checkIndex_df160 (N d : Nat) (a0 : Int32) (a1 : Int32)  (m : Mem) : Ok SX SG (d + 1) m_J0_checkIndex_df160 0 [some (.int a0), some (.int a1)] [] SG m (f_J0_checkIndex_df160 N a0 a1 m) := by
  unfold f_J0_checkIndex_df160
  refine ok_iload_n 1 0 dJ0_checkIndex_df160_0 rfl rfl rfl ?_
  refine ok_iload_n 2 1 dJ0_checkIndex_df160_1 rfl rfl rfl ?_
  refine ok_getsQ 5 dJ0_checkIndex_df160_2 rfl rfl fl_java_lang_String_1053 (fun w_2 hw_2 => ?_)
  refine ok_callSi (np := 3) (M' := m_J3_checkIndex_8e157) (As := [.int a0, .int a1, w_2]) (st := []) 8 dJ0_checkIndex_df160_5 rfl rfl km_J3_checkIndex_8e157 ks_J3_checkIndex_8e157 ml_java_lang_String_1059 (by decide) rfl rfl (Nat.le_of_ble_eq_true rfl) (c_J3_checkIndex_8e157 N (d + 0) a0 a1 w_2 hw_2 m) ⟨Nat.le_refl _, Nat.le_refl _⟩ (Or.inl rfl) rfl (fun r_5 m_5 _ => ?_)
  refine ok_pop 9 dJ0_checkIndex_df160_8 rfl rfl ?_
  exact ok_vret dJ0_checkIndex_df160_9 rfl

theorem c_J0_checkIndex_df160 (N d : Nat) (a0 : Int32) (a1 : Int32)  (m : Mem) : CM SX (d + 1) m_J0_checkIndex_df160 SG SG [.int a0, .int a1] m (f_J0_checkIndex_df160 N a0 a1 m) :=
  CM.ofOk km_J0_checkIndex_df160 ⟨Nat.le_refl _, Nat.le_refl _⟩ (by simp [Value.category]) (Nat.le_of_ble_eq_true rfl) (ok_J0_checkIndex_df160 N d a0 a1 m)

def f_J1_charAt_3b067 (N : Nat) (a0 : Nat) (a1 : Int32) (m : Mem) : Ans :=
bd (f_J0_checkIndex_df160 N a1 (sL a0) m) fun _ m_3 =>
chk (inb a1 (sN a0)) <|
chk (isC ((((sC a0 a1) &&& (255 : Int32)).toUInt32 % 65536).toInt32)) (some ((((sC a0 a1) &&& (255 : Int32)).toUInt32 % 65536).toInt32, m_3))

set_option maxRecDepth 100000 in
set_option maxHeartbeats 4000000 in
theorem ok_J1_charAt_3b067 (N d : Nat) (a0 : Nat) (a1 : Int32) (h0 : 1000000 ≤ a0 ∧ a0 < 1000000 + strN) (m : Mem) : Ok SX SG (d + 2) m_J1_charAt_3b067 0 [some (.ref (100 + a0)), some (.int a1)] [] SG m (f_J1_charAt_3b067 N a0 a1 m) := by
  unfold f_J1_charAt_3b067
  refine ok_iload_n 1 1 dJ1_charAt_3b067_0 rfl rfl rfl ?_
  refine ok_aload_n 2 0 dJ1_charAt_3b067_1 rfl rfl rfl ?_
  refine ok_alenS 3 dJ1_charAt_3b067_2 rfl h0 ?_
  refine ok_callSv (np := 2) (M' := m_J0_checkIndex_df160) (As := [.int a1, .int (sL a0)]) (st := []) 6 dJ1_charAt_3b067_3 rfl rfl km_J0_checkIndex_df160 ks_J0_checkIndex_df160 ml_java_lang_StringLatin1_9 (by decide) rfl rfl (Nat.le_of_ble_eq_true rfl) (c_J0_checkIndex_df160 N (d + 0) a1 (sL a0) m) ⟨Nat.le_refl _, Nat.le_refl _⟩ (Or.inl rfl) rfl (fun _ m_3 _ => ?_)
  refine ok_aload_n 7 0 dJ1_charAt_3b067_6 rfl rfl rfl ?_
  refine ok_iload_n 8 1 dJ1_charAt_3b067_7 rfl rfl rfl ?_
  refine ok_baldS 9 dJ1_charAt_3b067_8 rfl h0 ?_
  refine ok_sipush 12 255 dJ1_charAt_3b067_9 rfl rfl ?_
  refine ok_iand 13 dJ1_charAt_3b067_12 rfl ?_
  refine ok_i2c 14 dJ1_charAt_3b067_13 rfl ?_
  exact ok_cret dJ1_charAt_3b067_14 rfl

theorem c_J1_charAt_3b067 (N d : Nat) (a0 : Nat) (a1 : Int32) (h0 : 1000000 ≤ a0 ∧ a0 < 1000000 + strN) (m : Mem) : CM SX (d + 2) m_J1_charAt_3b067 SG SG [.ref (100 + a0), .int a1] m (f_J1_charAt_3b067 N a0 a1 m) :=
  CM.ofOk km_J1_charAt_3b067 ⟨Nat.le_refl _, Nat.le_refl _⟩ (by simp [Value.category]) (Nat.le_of_ble_eq_true rfl) (ok_J1_charAt_3b067 N d a0 a1 h0 m)

def f_J0_charAt_5068e (N : Nat) (this : Nat) (a1 : Int32) (m : Mem) : Ans :=
bd (f_J0_isLatin1_aae02 N this m) fun r_1 m_1 =>
if r_1 = 0 then (none)
else (bd (f_J1_charAt_3b067 N this a1 m_1) fun r_12 m_12 =>
chk (isC r_12) (some (r_12, m_12)))

set_option maxRecDepth 100000 in
set_option maxHeartbeats 4000000 in
theorem ok_J0_charAt_5068e (N d : Nat) (this : Nat) (a1 : Int32) (h0 : 1000000 ≤ this ∧ this < 1000000 + strN) (m : Mem) : Ok SX SG (d + 3) m_J0_charAt_5068e 0 [some (.ref this), some (.int a1)] [] SG m (f_J0_charAt_5068e N this a1 m) := by
  unfold f_J0_charAt_5068e
  refine ok_aload_n 1 0 dJ0_charAt_5068e_0 rfl rfl rfl ?_
  refine ok_callVStr (np := 0) (M' := m_J0_isLatin1_aae02) (As := []) (st := []) 4 dJ0_charAt_5068e_1 rfl rfl km_J0_isLatin1_aae02 ki_J0_isLatin1_aae02 kv_J0_isLatin1_aae02 ml_java_lang_String_492 (by decide) h0 rfl rfl rfl (Nat.le_of_ble_eq_true rfl) (c_J0_isLatin1_aae02 N (d + 2) this h0 m) ⟨Nat.le_refl _, Nat.le_refl _⟩ (Or.inl rfl) rfl (fun r_1 m_1 _ => ?_)
  refine ok_if_eq 16 7 dJ0_charAt_5068e_4 (by decide) rfl (fun _ => ?_) (fun _ => ?_)
  · refine ok_aload_n 17 0 dJ0_charAt_5068e_16 rfl rfl rfl ?_
    refine ok_getSv 20 dJ0_charAt_5068e_17 rfl rfl fl_java_lang_String_9 h0 ?_
    refine ok_iload_n 21 1 dJ0_charAt_5068e_20 rfl rfl rfl ?_
    exact Ok.none
  · refine ok_aload_n 8 0 dJ0_charAt_5068e_7 rfl rfl rfl ?_
    refine ok_getSv 11 dJ0_charAt_5068e_8 rfl rfl fl_java_lang_String_9 h0 ?_
    refine ok_iload_n 12 1 dJ0_charAt_5068e_11 rfl rfl rfl ?_
    refine ok_callSi (np := 2) (M' := m_J1_charAt_3b067) (As := [.ref (100 + this), .int a1]) (st := []) 15 dJ0_charAt_5068e_12 rfl rfl km_J1_charAt_3b067 ks_J1_charAt_3b067 ml_java_lang_String_495 (by decide) rfl rfl (Nat.le_of_ble_eq_true rfl) (c_J1_charAt_3b067 N (d + 0) this a1 h0 m_1) ⟨Nat.le_refl _, Nat.le_refl _⟩ (Or.inl rfl) rfl (fun r_12 m_12 _ => ?_)
    exact ok_cret dJ0_charAt_5068e_15 rfl

theorem c_J0_charAt_5068e (N d : Nat) (this : Nat) (a1 : Int32) (h0 : 1000000 ≤ this ∧ this < 1000000 + strN) (m : Mem) : CM SX (d + 3) m_J0_charAt_5068e SG SG [.ref this, .int a1] m (f_J0_charAt_5068e N this a1 m) :=
  CM.ofOk km_J0_charAt_5068e ⟨Nat.le_refl _, Nat.le_refl _⟩ (by simp [Value.category]) (Nat.le_of_ble_eq_true rfl) (ok_J0_charAt_5068e N d this a1 h0 m)

def f_X10_isSame_L7 (N : Nat) (a1 : Int32) (a2 : Int32) (a3 : Int32)   (X : Int32 → Mem → Ans) (s4_7 : Int32) (m : Mem) : Ans :=
if a2 ≤ s4_7 then (some (1, m))
else (bd (f_J0_length_8abf5 N 1000000 m) fun r_17 m_17 =>
if r_17 ≤ s4_7 then (some (1, m_17))
else (bd (f_J0_charAt_5068e N 1000000 s4_7 m_17) fun r_27 m_27 =>
bd (f_X10_byteAt N ((a3 + s4_7) - a1) m_27) fun r_37 m_37 =>
if r_27 = r_37 then (X (s4_7 + 1) m_37)
else (some (0, m_37))))

def f_X10_isSame (N : Nat) (a1 : Int32) (a2 : Int32) (a3 : Int32) (m : Mem) : Ans :=
bnd (if (0 : Int32) < a1 then a1 else (0 : Int32)) fun a4_5 =>
it1 (f_X10_isSame_L7 N a1 a2 a3 ) N a4_5 m

set_option maxRecDepth 100000 in
set_option maxHeartbeats 4000000 in
theorem ok_X10_isSame_L7 (N d : Nat) (a1 : Int32) (a2 : Int32) (a3 : Int32)    : ∀ (n : Nat) (s4_7 : Int32) (m : Mem), Ok SX SG (d + 4) m_X10_isSame 7 [some (.ref 99), some (.int a1), some (.int a2), some (.int a3), some (.int s4_7)] [] SG m (it1 (f_X10_isSame_L7 N a1 a2 a3) n s4_7 m) :=
  ok_it1 (fun s4_7 => [some (.ref 99), some (.int a1), some (.int a2), some (.int a3), some (.int s4_7)]) (fun X hX s4_7 m => by
    try unfold f_X10_isSame_L7
    refine ok_iload 9 4 dX10_isSame_7 rfl rfl ?_
    refine ok_iload_n 10 2 dX10_isSame_9 rfl rfl rfl ?_
    refine ok_icmp_ge 51 13 dX10_isSame_10 (by decide) rfl (fun _ => ?_) (fun _ => ?_)
    · refine ok_iconst 52 1 dX10_isSame_51 rfl rfl ?_
      exact ok_zretc dX10_isSame_52 rfl rfl
    · refine ok_iload 15 4 dX10_isSame_13 rfl rfl ?_
      refine ok_ldcS 17 0 dX10_isSame_15 rfl rfl rfl ?_
      refine ok_callVStr (np := 0) (M' := m_J0_length_8abf5) (As := []) (st := [.int s4_7]) 20 dX10_isSame_17 rfl rfl km_J0_length_8abf5 ki_J0_length_8abf5 kv_J0_length_8abf5 ml_Encores_Tape_82 (by decide) (by decide) rfl rfl rfl (Nat.le_of_ble_eq_true rfl) (c_J0_length_8abf5 N (d + 2) 1000000 (by decide) m) ⟨Nat.le_refl _, Nat.le_refl _⟩ (Or.inl rfl) rfl (fun r_17 m_17 _ => ?_)
      refine ok_icmp_ge 51 23 dX10_isSame_20 (by decide) rfl (fun _ => ?_) (fun _ => ?_)
      · refine ok_iconst 52 1 dX10_isSame_51 rfl rfl ?_
        exact ok_zretc dX10_isSame_52 rfl rfl
      · refine ok_ldcS 25 0 dX10_isSame_23 rfl rfl rfl ?_
        refine ok_iload 27 4 dX10_isSame_25 rfl rfl ?_
        refine ok_callVStr (np := 1) (M' := m_J0_charAt_5068e) (As := [.int s4_7]) (st := []) 30 dX10_isSame_27 rfl rfl km_J0_charAt_5068e ki_J0_charAt_5068e kv_J0_charAt_5068e ml_Encores_Tape_87 (by decide) (by decide) rfl rfl rfl (Nat.le_of_ble_eq_true rfl) (c_J0_charAt_5068e N (d + 0) 1000000 s4_7 (by decide) m_17) ⟨Nat.le_refl _, Nat.le_refl _⟩ (Or.inl rfl) rfl (fun r_27 m_27 _ => ?_)
        refine ok_aload_n 31 0 dX10_isSame_30 rfl rfl rfl ?_
        refine ok_iload_n 32 3 dX10_isSame_31 rfl rfl rfl ?_
        refine ok_iload 34 4 dX10_isSame_32 rfl rfl ?_
        refine ok_iadd 35 dX10_isSame_34 rfl ?_
        refine ok_iload_n 36 1 dX10_isSame_35 rfl rfl rfl ?_
        refine ok_isub 37 dX10_isSame_36 rfl ?_
        refine ok_callVi (np := 1) (M' := m_X10_byteAt) (As := [.int ((a3 + s4_7) - a1)]) (st := [.int r_27]) 40 dX10_isSame_37 rfl rfl km_X10_byteAt ki_X10_byteAt kv_X10_byteAt ml_Encores_Tape_31 (by decide) sg_99 rfl (Nat.le_of_ble_eq_true rfl) rfl rfl rfl (Nat.le_of_ble_eq_true rfl) (c_X10_byteAt N (d + 3) ((a3 + s4_7) - a1) m_27) ⟨Nat.le_refl _, Nat.le_refl _⟩ (Or.inl rfl) rfl (fun r_37 m_37 _ => ?_)
        refine ok_icmp_eq 45 43 dX10_isSame_40 (by decide) rfl (fun _ => ?_) (fun _ => ?_)
        · refine ok_iinc 48 4 1 [some (.ref 99), some (.int a1), some (.int a2), some (.int a3), some (.int (s4_7 + 1))] dX10_isSame_45 rfl rfl rfl (by decide) rfl ?_
          refine ok_goto 7 dX10_isSame_48 (by decide) ?_
          exact ok_less [some (.ref 99), some (.int a1), some (.int a2), some (.int a3), some (.int (s4_7 + 1))] (And.intro rfl (And.intro rfl (And.intro rfl (And.intro rfl (And.intro rfl (trivial)))))) (hX (s4_7 + 1) m_37)
        · refine ok_iconst 44 0 dX10_isSame_43 rfl rfl ?_
          exact ok_zretc dX10_isSame_44 rfl rfl)

set_option maxRecDepth 100000 in
set_option maxHeartbeats 4000000 in
theorem ok_X10_isSame (N d : Nat) (a1 : Int32) (a2 : Int32) (a3 : Int32)  (m : Mem) : Ok SX SG (d + 4) m_X10_isSame 0 [some (.ref 99), some (.int a1), some (.int a2), some (.int a3), none] [] SG m (f_X10_isSame N a1 a2 a3 m) := by
  unfold f_X10_isSame
  refine ok_iconst 1 0 dX10_isSame_0 rfl rfl ?_
  refine ok_iload_n 2 1 dX10_isSame_1 rfl rfl rfl ?_
  refine ok_max 5 ⟨Nat.le_refl _, Nat.le_refl _⟩ dX10_isSame_2 rfl rfl ml_Encores_Tape_95 (Nat.le_of_ble_eq_true rfl) ?_
  refine ok_bndI (fun a4_5 => ?_)
  refine ok_istore 7 4 [some (.ref 99), some (.int a1), some (.int a2), some (.int a3), some (.int a4_5)] dX10_isSame_5 rfl (by decide) rfl ?_
  refine ok_less [some (.ref 99), some (.int a1), some (.int a2), some (.int a3), some (.int a4_5)] (And.intro rfl (And.intro rfl (And.intro rfl (And.intro rfl (And.intro rfl (trivial)))))) ?_
  exact ok_X10_isSame_L7 N d a1 a2 a3    N a4_5 m

theorem c_X10_isSame (N d : Nat) (a1 : Int32) (a2 : Int32) (a3 : Int32)  (m : Mem) : CM SX (d + 4) m_X10_isSame SG SG [.ref 99, .int a1, .int a2, .int a3] m (f_X10_isSame N a1 a2 a3 m) :=
  CM.ofOk km_X10_isSame ⟨Nat.le_refl _, Nat.le_refl _⟩ (by simp [Value.category]) (Nat.le_of_ble_eq_true rfl) (ok_X10_isSame N d a1 a2 a3 m)

def f_X10_wordAt_L10 (N : Nat) (a1 : Int32) (a2 : Int32)   (X : Int32 → Int32 → Int32 → Mem → Ans) (s3_10 : Int32) (s4_10 : Int32) (s5_10 : Int32) (m : Mem) : Ans :=
bd (f_J0_length_8abf5 N 1000000 m) fun r_14 m_14 =>
if r_14 ≤ s5_10 then (some (2, m_14))
else (bd (f_J0_charAt_5068e N 1000000 s5_10 m_14) fun r_24 m_24 =>
if r_24 = (32 : Int32) then (if (s5_10 - s4_10) = (a2 - a1) then (bd (f_X10_isSame N s4_10 s5_10 a1 m_24) fun r_49 m_49 =>
if r_49 = 0 then (bnd (s5_10 + (1 : Int32)) fun a4_64 =>
X (s3_10 + 1) a4_64 (s5_10 + 1) m_49)
else (some (s3_10, m_49)))
else (bnd (s5_10 + (1 : Int32)) fun a4_64 =>
X (s3_10 + 1) a4_64 (s5_10 + 1) m_24))
else (X s3_10 s4_10 (s5_10 + 1) m_24))

def f_X10_wordAt (N : Nat) (a1 : Int32) (a2 : Int32) (m : Mem) : Ans :=
it3 (f_X10_wordAt_L10 N a1 a2 ) N 256 0 0 m

set_option maxRecDepth 100000 in
set_option maxHeartbeats 4000000 in
theorem ok_X10_wordAt_L10 (N d : Nat) (a1 : Int32) (a2 : Int32)    : ∀ (n : Nat) (s3_10 : Int32) (s4_10 : Int32) (s5_10 : Int32) (m : Mem), Ok SX SG (d + 5) m_X10_wordAt 10 [some (.ref 99), some (.int a1), some (.int a2), some (.int s3_10), some (.int s4_10), some (.int s5_10)] [] SG m (it3 (f_X10_wordAt_L10 N a1 a2) n s3_10 s4_10 s5_10 m) :=
  ok_it3 (fun s3_10 s4_10 s5_10 => [some (.ref 99), some (.int a1), some (.int a2), some (.int s3_10), some (.int s4_10), some (.int s5_10)]) (fun X hX s3_10 s4_10 s5_10 m => by
    try unfold f_X10_wordAt_L10
    refine ok_iload 12 5 dX10_wordAt_10 rfl rfl ?_
    refine ok_ldcS 14 0 dX10_wordAt_12 rfl rfl rfl ?_
    refine ok_callVStr (np := 0) (M' := m_J0_length_8abf5) (As := []) (st := [.int s5_10]) 17 dX10_wordAt_14 rfl rfl km_J0_length_8abf5 ki_J0_length_8abf5 kv_J0_length_8abf5 ml_Encores_Tape_82 (by decide) (by decide) rfl rfl rfl (Nat.le_of_ble_eq_true rfl) (c_J0_length_8abf5 N (d + 3) 1000000 (by decide) m) ⟨Nat.le_refl _, Nat.le_refl _⟩ (Or.inl rfl) rfl (fun r_14 m_14 _ => ?_)
    refine ok_icmp_ge 72 20 dX10_wordAt_17 (by decide) rfl (fun _ => ?_) (fun _ => ?_)
    · refine ok_iconst 73 2 dX10_wordAt_72 rfl rfl ?_
      exact ok_iret dX10_wordAt_73 rfl
    · refine ok_ldcS 22 0 dX10_wordAt_20 rfl rfl rfl ?_
      refine ok_iload 24 5 dX10_wordAt_22 rfl rfl ?_
      refine ok_callVStr (np := 1) (M' := m_J0_charAt_5068e) (As := [.int s5_10]) (st := []) 27 dX10_wordAt_24 rfl rfl km_J0_charAt_5068e ki_J0_charAt_5068e kv_J0_charAt_5068e ml_Encores_Tape_87 (by decide) (by decide) rfl rfl rfl (Nat.le_of_ble_eq_true rfl) (c_J0_charAt_5068e N (d + 1) 1000000 s5_10 (by decide) m_14) ⟨Nat.le_refl _, Nat.le_refl _⟩ (Or.inl rfl) rfl (fun r_24 m_24 _ => ?_)
      refine ok_bipush 29 32 dX10_wordAt_27 rfl rfl ?_
      refine ok_icmp_ne 66 32 dX10_wordAt_29 (by decide) rfl (fun _ => ?_) (fun _ => ?_)
      · refine ok_iinc 69 5 1 [some (.ref 99), some (.int a1), some (.int a2), some (.int s3_10), some (.int s4_10), some (.int (s5_10 + 1))] dX10_wordAt_66 rfl rfl rfl (by decide) rfl ?_
        refine ok_goto 10 dX10_wordAt_69 (by decide) ?_
        exact ok_less [some (.ref 99), some (.int a1), some (.int a2), some (.int s3_10), some (.int s4_10), some (.int (s5_10 + 1))] (And.intro rfl (And.intro rfl (And.intro rfl (And.intro rfl (And.intro rfl (And.intro rfl (trivial))))))) (hX s3_10 s4_10 (s5_10 + 1) m_24)
      · refine ok_iload 34 5 dX10_wordAt_32 rfl rfl ?_
        refine ok_iload 36 4 dX10_wordAt_34 rfl rfl ?_
        refine ok_isub 37 dX10_wordAt_36 rfl ?_
        refine ok_iload_n 38 2 dX10_wordAt_37 rfl rfl rfl ?_
        refine ok_iload_n 39 1 dX10_wordAt_38 rfl rfl rfl ?_
        refine ok_isub 40 dX10_wordAt_39 rfl ?_
        refine ok_icmp_ne 57 43 dX10_wordAt_40 (by decide) rfl (fun _ => ?_) (fun _ => ?_)
        · refine ok_iinc 60 3 1 [some (.ref 99), some (.int a1), some (.int a2), some (.int (s3_10 + 1)), some (.int s4_10), some (.int s5_10)] dX10_wordAt_57 rfl rfl rfl (by decide) rfl ?_
          refine ok_iload 62 5 dX10_wordAt_60 rfl rfl ?_
          refine ok_iconst 63 1 dX10_wordAt_62 rfl rfl ?_
          refine ok_iadd 64 dX10_wordAt_63 rfl ?_
          refine ok_bndI (fun a4_64 => ?_)
          refine ok_istore 66 4 [some (.ref 99), some (.int a1), some (.int a2), some (.int (s3_10 + 1)), some (.int a4_64), some (.int s5_10)] dX10_wordAt_64 rfl (by decide) rfl ?_
          refine ok_iinc 69 5 1 [some (.ref 99), some (.int a1), some (.int a2), some (.int (s3_10 + 1)), some (.int a4_64), some (.int (s5_10 + 1))] dX10_wordAt_66 rfl rfl rfl (by decide) rfl ?_
          refine ok_goto 10 dX10_wordAt_69 (by decide) ?_
          exact ok_less [some (.ref 99), some (.int a1), some (.int a2), some (.int (s3_10 + 1)), some (.int a4_64), some (.int (s5_10 + 1))] (And.intro rfl (And.intro rfl (And.intro rfl (And.intro rfl (And.intro rfl (And.intro rfl (trivial))))))) (hX (s3_10 + 1) a4_64 (s5_10 + 1) m_24)
        · refine ok_aload_n 44 0 dX10_wordAt_43 rfl rfl rfl ?_
          refine ok_iload 46 4 dX10_wordAt_44 rfl rfl ?_
          refine ok_iload 48 5 dX10_wordAt_46 rfl rfl ?_
          refine ok_iload_n 49 1 dX10_wordAt_48 rfl rfl rfl ?_
          refine ok_callVi (np := 3) (M' := m_X10_isSame) (As := [.int s4_10, .int s5_10, .int a1]) (st := []) 52 dX10_wordAt_49 rfl rfl km_X10_isSame ki_X10_isSame kv_X10_isSame ml_Encores_Tape_91 (by decide) sg_99 rfl (Nat.le_of_ble_eq_true rfl) rfl rfl rfl (Nat.le_of_ble_eq_true rfl) (c_X10_isSame N (d + 0) s4_10 s5_10 a1 m_24) ⟨Nat.le_refl _, Nat.le_refl _⟩ (Or.inl rfl) rfl (fun r_49 m_49 _ => ?_)
          refine ok_if_eq 57 55 dX10_wordAt_52 (by decide) rfl (fun _ => ?_) (fun _ => ?_)
          · refine ok_iinc 60 3 1 [some (.ref 99), some (.int a1), some (.int a2), some (.int (s3_10 + 1)), some (.int s4_10), some (.int s5_10)] dX10_wordAt_57 rfl rfl rfl (by decide) rfl ?_
            refine ok_iload 62 5 dX10_wordAt_60 rfl rfl ?_
            refine ok_iconst 63 1 dX10_wordAt_62 rfl rfl ?_
            refine ok_iadd 64 dX10_wordAt_63 rfl ?_
            refine ok_bndI (fun a4_64 => ?_)
            refine ok_istore 66 4 [some (.ref 99), some (.int a1), some (.int a2), some (.int (s3_10 + 1)), some (.int a4_64), some (.int s5_10)] dX10_wordAt_64 rfl (by decide) rfl ?_
            refine ok_iinc 69 5 1 [some (.ref 99), some (.int a1), some (.int a2), some (.int (s3_10 + 1)), some (.int a4_64), some (.int (s5_10 + 1))] dX10_wordAt_66 rfl rfl rfl (by decide) rfl ?_
            refine ok_goto 10 dX10_wordAt_69 (by decide) ?_
            exact ok_less [some (.ref 99), some (.int a1), some (.int a2), some (.int (s3_10 + 1)), some (.int a4_64), some (.int (s5_10 + 1))] (And.intro rfl (And.intro rfl (And.intro rfl (And.intro rfl (And.intro rfl (And.intro rfl (trivial))))))) (hX (s3_10 + 1) a4_64 (s5_10 + 1) m_49)
          · refine ok_iload_n 56 3 dX10_wordAt_55 rfl rfl rfl ?_
            exact ok_iret dX10_wordAt_56 rfl)

set_option maxRecDepth 100000 in
set_option maxHeartbeats 4000000 in
theorem ok_X10_wordAt (N d : Nat) (a1 : Int32) (a2 : Int32)  (m : Mem) : Ok SX SG (d + 5) m_X10_wordAt 0 [some (.ref 99), some (.int a1), some (.int a2), none, none, none] [] SG m (f_X10_wordAt N a1 a2 m) := by
  unfold f_X10_wordAt
  refine ok_sipush 3 256 dX10_wordAt_0 rfl rfl ?_
  refine ok_istore_n 4 3 [some (.ref 99), some (.int a1), some (.int a2), some (.int 256), none, none] dX10_wordAt_3 rfl rfl (by decide) rfl ?_
  refine ok_iconst 5 0 dX10_wordAt_4 rfl rfl ?_
  refine ok_istore 7 4 [some (.ref 99), some (.int a1), some (.int a2), some (.int 256), some (.int 0), none] dX10_wordAt_5 rfl (by decide) rfl ?_
  refine ok_iconst 8 0 dX10_wordAt_7 rfl rfl ?_
  refine ok_istore 10 5 [some (.ref 99), some (.int a1), some (.int a2), some (.int 256), some (.int 0), some (.int 0)] dX10_wordAt_8 rfl (by decide) rfl ?_
  refine ok_less [some (.ref 99), some (.int a1), some (.int a2), some (.int 256), some (.int 0), some (.int 0)] (And.intro rfl (And.intro rfl (And.intro rfl (And.intro rfl (And.intro rfl (And.intro rfl (trivial))))))) ?_
  exact ok_X10_wordAt_L10 N d a1 a2    N 256 0 0 m

theorem c_X10_wordAt (N d : Nat) (a1 : Int32) (a2 : Int32)  (m : Mem) : CM SX (d + 5) m_X10_wordAt SG SG [.ref 99, .int a1, .int a2] m (f_X10_wordAt N a1 a2 m) :=
  CM.ofOk km_X10_wordAt ⟨Nat.le_refl _, Nat.le_refl _⟩ (by simp [Value.category]) (Nat.le_of_ble_eq_true rfl) (ok_X10_wordAt N d a1 a2 m)

def f_X10_take_L55 (N : Nat) (a1 : Int32)  (K80 : Int32 → Mem → Ans) (X : Int32 → Mem → Ans) (s3_55 : Int32) (m : Mem) : Ans :=
if (m 99 2) ≤ s3_55 then (K80 s3_55 m)
else (bd (f_X10_byteAt N s3_55 m) fun r_65 m_65 =>
bd (f_X10_isLetter N r_65 m_65) fun r_68 m_68 =>
if r_68 = 0 then (K80 s3_55 m_68)
else (X (s3_55 + 1) m_68))

def f_X10_take_J80 (N : Nat) (a1 : Int32)   (s3_80 : Int32) (m : Mem) : Ans :=
bd (f_X10_wordAt N a1 s3_80 m) fun r_87 m_87 =>
bd (f_X9_add N 101 r_87 a1 0 0 m_87) fun r_93 m_93 =>
some (s3_80, m_93)

def f_X10_take (N : Nat) (a1 : Int32) (m : Mem) : Ans :=
bd (f_X10_byteAt N a1 m) fun r_2 m_2 =>
bd (f_X10_isDigit N r_2 m_2) fun r_7 m_7 =>
if r_7 = 0 then (bd (f_X10_isLetter N r_2 m_7) fun r_20 m_20 =>
if r_20 = 0 then (bd (f_X10_isSign N r_2 m_20) fun r_31 m_31 =>
if r_31 = 0 then (bd (f_X9_add N 101 2 a1 0 0 m_31) fun r_45 m_45 =>
some ((a1 + (1 : Int32)), m_45))
else (bd (f_X9_add N 101 r_2 a1 0 0 m_31) fun r_45 m_45 =>
some ((a1 + (1 : Int32)), m_45)))
else (it1 (f_X10_take_L55 N a1 (fun k3_80 mk80 => f_X10_take_J80 N a1 k3_80 mk80)) N a1 m_20))
else (bd (f_X10_takeNumber N a1 m_7) fun r_15 m_15 =>
some (r_15, m_15))

set_option maxRecDepth 100000 in
set_option maxHeartbeats 4000000 in
theorem ok_X10_take_L55 (N d : Nat) (a1 : Int32)   (K80 : Int32 → Mem → Ans) (hK80 : ∀ (k3 : Int32) (m : Mem), Ok SX SG (d + 6) m_X10_take 80 [some (.ref 99), some (.int a1), none, some (.int k3)] [] SG m (K80 k3 m)) : ∀ (n : Nat) (s3_55 : Int32) (m : Mem), Ok SX SG (d + 6) m_X10_take 55 [some (.ref 99), some (.int a1), none, some (.int s3_55)] [] SG m (it1 (f_X10_take_L55 N a1 K80) n s3_55 m) :=
  ok_it1 (fun s3_55 => [some (.ref 99), some (.int a1), none, some (.int s3_55)]) (fun X hX s3_55 m => by
    try unfold f_X10_take_L55
    refine ok_iload_n 56 3 dX10_take_55 rfl rfl rfl ?_
    refine ok_aload_n 57 0 dX10_take_56 rfl rfl rfl ?_
    refine ok_getI 60 dX10_take_57 rfl rfl F_Encores_Tape_24 sg_99 rfl (Nat.le_of_ble_eq_true rfl) rfl ?_
    refine ok_icmp_ge 80 63 dX10_take_60 (by decide) rfl (fun _ => ?_) (fun _ => ?_)
    · exact ok_less [some (.ref 99), some (.int a1), none, some (.int s3_55)] (And.intro rfl (And.intro rfl (And.intro rfl (trivial)))) (hK80 s3_55 m)
    · refine ok_aload_n 64 0 dX10_take_63 rfl rfl rfl ?_
      refine ok_iload_n 65 3 dX10_take_64 rfl rfl rfl ?_
      refine ok_callVi (np := 1) (M' := m_X10_byteAt) (As := [.int s3_55]) (st := []) 68 dX10_take_65 rfl rfl km_X10_byteAt ki_X10_byteAt kv_X10_byteAt ml_Encores_Tape_31 (by decide) sg_99 rfl (Nat.le_of_ble_eq_true rfl) rfl rfl rfl (Nat.le_of_ble_eq_true rfl) (c_X10_byteAt N (d + 5) s3_55 m) ⟨Nat.le_refl _, Nat.le_refl _⟩ (Or.inl rfl) rfl (fun r_65 m_65 _ => ?_)
      refine ok_callSi (np := 1) (M' := m_X10_isLetter) (As := [.int r_65]) (st := []) 71 dX10_take_68 rfl rfl km_X10_isLetter ks_X10_isLetter ml_Encores_Tape_71 (by decide) rfl rfl (Nat.le_of_ble_eq_true rfl) (c_X10_isLetter N (d + 5) r_65 m_65) ⟨Nat.le_refl _, Nat.le_refl _⟩ (Or.inl rfl) rfl (fun r_68 m_68 _ => ?_)
      refine ok_if_eq 80 74 dX10_take_71 (by decide) rfl (fun _ => ?_) (fun _ => ?_)
      · exact ok_less [some (.ref 99), some (.int a1), none, some (.int s3_55)] (And.intro rfl (And.intro rfl (And.intro rfl (trivial)))) (hK80 s3_55 m_68)
      · refine ok_iinc 77 3 1 [some (.ref 99), some (.int a1), none, some (.int (s3_55 + 1))] dX10_take_74 rfl rfl rfl (by decide) rfl ?_
        refine ok_goto 55 dX10_take_77 (by decide) ?_
        exact ok_less [some (.ref 99), some (.int a1), none, some (.int (s3_55 + 1))] (And.intro rfl (And.intro rfl (And.intro rfl (trivial)))) (hX (s3_55 + 1) m_68))

set_option maxRecDepth 100000 in
set_option maxHeartbeats 4000000 in
theorem ok_X10_take_J80 (N d : Nat) (a1 : Int32)    (s3_80 : Int32) (m : Mem) : Ok SX SG (d + 6) m_X10_take 80 [some (.ref 99), some (.int a1), none, some (.int s3_80)] [] SG m (f_X10_take_J80 N a1 s3_80 m) := by
  unfold f_X10_take_J80
  refine ok_aload_n 81 0 dX10_take_80 rfl rfl rfl ?_
  refine ok_getR 84 dX10_take_81 rfl rfl F_Encores_Tape_20 sg_99 rfl (Nat.le_of_ble_eq_true rfl) rfl rfl ?_
  refine ok_aload_n 85 0 dX10_take_84 rfl rfl rfl ?_
  refine ok_iload_n 86 1 dX10_take_85 rfl rfl rfl ?_
  refine ok_iload_n 87 3 dX10_take_86 rfl rfl rfl ?_
  refine ok_callVi (np := 2) (M' := m_X10_wordAt) (As := [.int a1, .int s3_80]) (st := [.ref 101]) 90 dX10_take_87 rfl rfl km_X10_wordAt ki_X10_wordAt kv_X10_wordAt ml_Encores_Tape_77 (by decide) sg_99 rfl (Nat.le_of_ble_eq_true rfl) rfl rfl rfl (Nat.le_of_ble_eq_true rfl) (c_X10_wordAt N (d + 0) a1 s3_80 m) ⟨Nat.le_refl _, Nat.le_refl _⟩ (Or.inl rfl) rfl (fun r_87 m_87 _ => ?_)
  refine ok_iload_n 91 1 dX10_take_90 rfl rfl rfl ?_
  refine ok_iconst 92 0 dX10_take_91 rfl rfl ?_
  refine ok_iconst 93 0 dX10_take_92 rfl rfl ?_
  refine ok_callVi (np := 4) (M' := m_X9_add) (As := [.int r_87, .int a1, .int 0, .int 0]) (st := []) 96 dX10_take_93 rfl rfl km_X9_add ki_X9_add kv_X9_add ml_Encores_Tape_42 (by decide) sg_101 rfl (Nat.le_of_ble_eq_true rfl) rfl rfl rfl (Nat.le_of_ble_eq_true rfl) (c_X9_add N (d + 5) 101 r_87 a1 0 0 tg_101 m_87) ⟨Nat.le_refl _, Nat.le_refl _⟩ (Or.inl rfl) rfl (fun r_93 m_93 _ => ?_)
  refine ok_pop 97 dX10_take_96 rfl rfl ?_
  refine ok_iload_n 98 3 dX10_take_97 rfl rfl rfl ?_
  exact ok_iret dX10_take_98 rfl

set_option maxRecDepth 100000 in
set_option maxHeartbeats 4000000 in
theorem ok_X10_take (N d : Nat) (a1 : Int32)  (m : Mem) : Ok SX SG (d + 6) m_X10_take 0 [some (.ref 99), some (.int a1), none, none] [] SG m (f_X10_take N a1 m) := by
  unfold f_X10_take
  refine ok_aload_n 1 0 dX10_take_0 rfl rfl rfl ?_
  refine ok_iload_n 2 1 dX10_take_1 rfl rfl rfl ?_
  refine ok_callVi (np := 1) (M' := m_X10_byteAt) (As := [.int a1]) (st := []) 5 dX10_take_2 rfl rfl km_X10_byteAt ki_X10_byteAt kv_X10_byteAt ml_Encores_Tape_31 (by decide) sg_99 rfl (Nat.le_of_ble_eq_true rfl) rfl rfl rfl (Nat.le_of_ble_eq_true rfl) (c_X10_byteAt N (d + 5) a1 m) ⟨Nat.le_refl _, Nat.le_refl _⟩ (Or.inl rfl) rfl (fun r_2 m_2 _ => ?_)
  refine ok_istore_n 6 2 [some (.ref 99), some (.int a1), some (.int r_2), none] dX10_take_5 rfl rfl (by decide) rfl ?_
  refine ok_iload_n 7 2 dX10_take_6 rfl rfl rfl ?_
  refine ok_callSi (np := 1) (M' := m_X10_isDigit) (As := [.int r_2]) (st := []) 10 dX10_take_7 rfl rfl km_X10_isDigit ks_X10_isDigit ml_Encores_Tape_65 (by decide) rfl rfl (Nat.le_of_ble_eq_true rfl) (c_X10_isDigit N (d + 5) r_2 m_2) ⟨Nat.le_refl _, Nat.le_refl _⟩ (Or.inl rfl) rfl (fun r_7 m_7 _ => ?_)
  refine ok_if_eq 19 13 dX10_take_10 (by decide) rfl (fun _ => ?_) (fun _ => ?_)
  · refine ok_iload_n 20 2 dX10_take_19 rfl rfl rfl ?_
    refine ok_callSi (np := 1) (M' := m_X10_isLetter) (As := [.int r_2]) (st := []) 23 dX10_take_20 rfl rfl km_X10_isLetter ks_X10_isLetter ml_Encores_Tape_71 (by decide) rfl rfl (Nat.le_of_ble_eq_true rfl) (c_X10_isLetter N (d + 5) r_2 m_7) ⟨Nat.le_refl _, Nat.le_refl _⟩ (Or.inl rfl) rfl (fun r_20 m_20 _ => ?_)
    refine ok_if_ne 53 26 dX10_take_23 (by decide) rfl (fun _ => ?_) (fun _ => ?_)
    · refine ok_iload_n 54 1 dX10_take_53 rfl rfl rfl ?_
      refine ok_istore_n 55 3 [some (.ref 99), some (.int a1), some (.int r_2), some (.int a1)] dX10_take_54 rfl rfl (by decide) rfl ?_
      refine ok_less [some (.ref 99), some (.int a1), none, some (.int a1)] (And.intro rfl (And.intro rfl (And.intro rfl (trivial)))) ?_
      exact ok_X10_take_L55 N d a1  _ (fun k3_80 mk80 => by
          exact ok_less [some (.ref 99), some (.int a1), none, some (.int k3_80)] (And.intro rfl (And.intro rfl (And.intro rfl (trivial)))) (ok_X10_take_J80 N d a1   k3_80 mk80)) N a1 m_20
    · refine ok_aload_n 27 0 dX10_take_26 rfl rfl rfl ?_
      refine ok_getR 30 dX10_take_27 rfl rfl F_Encores_Tape_20 sg_99 rfl (Nat.le_of_ble_eq_true rfl) rfl rfl ?_
      refine ok_iload_n 31 2 dX10_take_30 rfl rfl rfl ?_
      refine ok_callSi (np := 1) (M' := m_X10_isSign) (As := [.int r_2]) (st := [.ref 101]) 34 dX10_take_31 rfl rfl km_X10_isSign ks_X10_isSign ml_Encores_Tape_74 (by decide) rfl rfl (Nat.le_of_ble_eq_true rfl) (c_X10_isSign N (d + 5) r_2 m_20) ⟨Nat.le_refl _, Nat.le_refl _⟩ (Or.inl rfl) rfl (fun r_31 m_31 _ => ?_)
      refine ok_if_eq 41 37 dX10_take_34 (by decide) rfl (fun _ => ?_) (fun _ => ?_)
      · refine ok_iconst 42 2 dX10_take_41 rfl rfl ?_
        refine ok_iload_n 43 1 dX10_take_42 rfl rfl rfl ?_
        refine ok_iconst 44 0 dX10_take_43 rfl rfl ?_
        refine ok_iconst 45 0 dX10_take_44 rfl rfl ?_
        refine ok_callVi (np := 4) (M' := m_X9_add) (As := [.int 2, .int a1, .int 0, .int 0]) (st := []) 48 dX10_take_45 rfl rfl km_X9_add ki_X9_add kv_X9_add ml_Encores_Tape_42 (by decide) sg_101 rfl (Nat.le_of_ble_eq_true rfl) rfl rfl rfl (Nat.le_of_ble_eq_true rfl) (c_X9_add N (d + 5) 101 2 a1 0 0 tg_101 m_31) ⟨Nat.le_refl _, Nat.le_refl _⟩ (Or.inl rfl) rfl (fun r_45 m_45 _ => ?_)
        refine ok_pop 49 dX10_take_48 rfl rfl ?_
        refine ok_iload_n 50 1 dX10_take_49 rfl rfl rfl ?_
        refine ok_iconst 51 1 dX10_take_50 rfl rfl ?_
        refine ok_iadd 52 dX10_take_51 rfl ?_
        exact ok_iret dX10_take_52 rfl
      · refine ok_iload_n 38 2 dX10_take_37 rfl rfl rfl ?_
        refine ok_goto 42 dX10_take_38 (by decide) ?_
        refine ok_iload_n 43 1 dX10_take_42 rfl rfl rfl ?_
        refine ok_iconst 44 0 dX10_take_43 rfl rfl ?_
        refine ok_iconst 45 0 dX10_take_44 rfl rfl ?_
        refine ok_callVi (np := 4) (M' := m_X9_add) (As := [.int r_2, .int a1, .int 0, .int 0]) (st := []) 48 dX10_take_45 rfl rfl km_X9_add ki_X9_add kv_X9_add ml_Encores_Tape_42 (by decide) sg_101 rfl (Nat.le_of_ble_eq_true rfl) rfl rfl rfl (Nat.le_of_ble_eq_true rfl) (c_X9_add N (d + 5) 101 r_2 a1 0 0 tg_101 m_31) ⟨Nat.le_refl _, Nat.le_refl _⟩ (Or.inl rfl) rfl (fun r_45 m_45 _ => ?_)
        refine ok_pop 49 dX10_take_48 rfl rfl ?_
        refine ok_iload_n 50 1 dX10_take_49 rfl rfl rfl ?_
        refine ok_iconst 51 1 dX10_take_50 rfl rfl ?_
        refine ok_iadd 52 dX10_take_51 rfl ?_
        exact ok_iret dX10_take_52 rfl
  · refine ok_aload_n 14 0 dX10_take_13 rfl rfl rfl ?_
    refine ok_iload_n 15 1 dX10_take_14 rfl rfl rfl ?_
    refine ok_callVi (np := 1) (M' := m_X10_takeNumber) (As := [.int a1]) (st := []) 18 dX10_take_15 rfl rfl km_X10_takeNumber ki_X10_takeNumber kv_X10_takeNumber ml_Encores_Tape_68 (by decide) sg_99 rfl (Nat.le_of_ble_eq_true rfl) rfl rfl rfl (Nat.le_of_ble_eq_true rfl) (c_X10_takeNumber N (d + 4) a1 m_7) ⟨Nat.le_refl _, Nat.le_refl _⟩ (Or.inl rfl) rfl (fun r_15 m_15 _ => ?_)
    exact ok_iret dX10_take_18 rfl

theorem c_X10_take (N d : Nat) (a1 : Int32)  (m : Mem) : CM SX (d + 6) m_X10_take SG SG [.ref 99, .int a1] m (f_X10_take N a1 m) :=
  CM.ofOk km_X10_take ⟨Nat.le_refl _, Nat.le_refl _⟩ (by simp [Value.category]) (Nat.le_of_ble_eq_true rfl) (ok_X10_take N d a1 m)

def f_X10_next (N : Nat)  (m : Mem) : Ans :=
bnd (mset m 99 6 ((m 99 6) + (1 : Int32))) fun m_7 =>
bd (f_X9_at N 101 (m_7 99 6) 0 m_7) fun r_20 m_20 =>
bnd (mset m_20 99 3 r_20) fun m_23 =>
bd (f_X9_at N 101 (m_23 99 6) 1 m_23) fun r_36 m_36 =>
bnd (mset m_36 99 4 r_36) fun m_39 =>
bd (f_X9_at N 101 (m_39 99 6) 2 m_39) fun r_52 m_52 =>
bnd (mset m_52 99 5 r_52) fun m_55 =>
some (0, m_55)

set_option maxRecDepth 100000 in
set_option maxHeartbeats 4000000 in
theorem ok_X10_next (N d : Nat)   (m : Mem) : Ok SX SG (d + 1) m_X10_next 0 [some (.ref 99)] [] SG m (f_X10_next N m) := by
  unfold f_X10_next
  refine ok_aload_n 1 0 dX10_next_0 rfl rfl rfl ?_
  refine ok_dup 2 dX10_next_1 rfl rfl ?_
  refine ok_getI 5 dX10_next_2 rfl rfl F_Encores_Tape_46 sg_99 rfl (Nat.le_of_ble_eq_true rfl) rfl ?_
  refine ok_iconst 6 1 dX10_next_5 rfl rfl ?_
  refine ok_iadd 7 dX10_next_6 rfl ?_
  refine ok_putI 10 dX10_next_7 rfl rfl F_Encores_Tape_46 sg_99 rfl (Nat.le_of_ble_eq_true rfl) rfl rfl pZ_10_6 rfl rfl ?_
  refine ok_bndM (fun m_7 => ?_)
  refine ok_aload_n 11 0 dX10_next_10 rfl rfl rfl ?_
  refine ok_aload_n 12 0 dX10_next_11 rfl rfl rfl ?_
  refine ok_getR 15 dX10_next_12 rfl rfl F_Encores_Tape_20 sg_99 rfl (Nat.le_of_ble_eq_true rfl) rfl rfl ?_
  refine ok_aload_n 16 0 dX10_next_15 rfl rfl rfl ?_
  refine ok_getI 19 dX10_next_16 rfl rfl F_Encores_Tape_46 sg_99 rfl (Nat.le_of_ble_eq_true rfl) rfl ?_
  refine ok_iconst 20 0 dX10_next_19 rfl rfl ?_
  refine ok_callVi (np := 2) (M' := m_X9_at) (As := [.int (m_7 99 6), .int 0]) (st := [.ref 99]) 23 dX10_next_20 rfl rfl km_X9_at ki_X9_at kv_X9_at ml_Encores_Tape_52 (by decide) sg_101 rfl (Nat.le_of_ble_eq_true rfl) rfl rfl rfl (Nat.le_of_ble_eq_true rfl) (c_X9_at N (d + 0) 101 (m_7 99 6) 0 tg_101 m_7) ⟨Nat.le_refl _, Nat.le_refl _⟩ (Or.inl rfl) rfl (fun r_20 m_20 _ => ?_)
  refine ok_putI 26 dX10_next_23 rfl rfl F_Encores_Tape_56 sg_99 rfl (Nat.le_of_ble_eq_true rfl) rfl rfl pZ_10_3 rfl rfl ?_
  refine ok_bndM (fun m_23 => ?_)
  refine ok_aload_n 27 0 dX10_next_26 rfl rfl rfl ?_
  refine ok_aload_n 28 0 dX10_next_27 rfl rfl rfl ?_
  refine ok_getR 31 dX10_next_28 rfl rfl F_Encores_Tape_20 sg_99 rfl (Nat.le_of_ble_eq_true rfl) rfl rfl ?_
  refine ok_aload_n 32 0 dX10_next_31 rfl rfl rfl ?_
  refine ok_getI 35 dX10_next_32 rfl rfl F_Encores_Tape_46 sg_99 rfl (Nat.le_of_ble_eq_true rfl) rfl ?_
  refine ok_iconst 36 1 dX10_next_35 rfl rfl ?_
  refine ok_callVi (np := 2) (M' := m_X9_at) (As := [.int (m_23 99 6), .int 1]) (st := [.ref 99]) 39 dX10_next_36 rfl rfl km_X9_at ki_X9_at kv_X9_at ml_Encores_Tape_52 (by decide) sg_101 rfl (Nat.le_of_ble_eq_true rfl) rfl rfl rfl (Nat.le_of_ble_eq_true rfl) (c_X9_at N (d + 0) 101 (m_23 99 6) 1 tg_101 m_23) ⟨Nat.le_refl _, Nat.le_refl _⟩ (Or.inl rfl) rfl (fun r_36 m_36 _ => ?_)
  refine ok_putI 42 dX10_next_39 rfl rfl F_Encores_Tape_59 sg_99 rfl (Nat.le_of_ble_eq_true rfl) rfl rfl pZ_10_4 rfl rfl ?_
  refine ok_bndM (fun m_39 => ?_)
  refine ok_aload_n 43 0 dX10_next_42 rfl rfl rfl ?_
  refine ok_aload_n 44 0 dX10_next_43 rfl rfl rfl ?_
  refine ok_getR 47 dX10_next_44 rfl rfl F_Encores_Tape_20 sg_99 rfl (Nat.le_of_ble_eq_true rfl) rfl rfl ?_
  refine ok_aload_n 48 0 dX10_next_47 rfl rfl rfl ?_
  refine ok_getI 51 dX10_next_48 rfl rfl F_Encores_Tape_46 sg_99 rfl (Nat.le_of_ble_eq_true rfl) rfl ?_
  refine ok_iconst 52 2 dX10_next_51 rfl rfl ?_
  refine ok_callVi (np := 2) (M' := m_X9_at) (As := [.int (m_39 99 6), .int 2]) (st := [.ref 99]) 55 dX10_next_52 rfl rfl km_X9_at ki_X9_at kv_X9_at ml_Encores_Tape_52 (by decide) sg_101 rfl (Nat.le_of_ble_eq_true rfl) rfl rfl rfl (Nat.le_of_ble_eq_true rfl) (c_X9_at N (d + 0) 101 (m_39 99 6) 2 tg_101 m_39) ⟨Nat.le_refl _, Nat.le_refl _⟩ (Or.inl rfl) rfl (fun r_52 m_52 _ => ?_)
  refine ok_putI 58 dX10_next_55 rfl rfl F_Encores_Tape_62 sg_99 rfl (Nat.le_of_ble_eq_true rfl) rfl rfl pZ_10_5 rfl rfl ?_
  refine ok_bndM (fun m_55 => ?_)
  exact ok_vret dX10_next_58 rfl

theorem c_X10_next (N d : Nat)   (m : Mem) : CM SX (d + 1) m_X10_next SG SG [.ref 99] m (f_X10_next N m) :=
  CM.ofOk km_X10_next ⟨Nat.le_refl _, Nat.le_refl _⟩ (by simp [Value.category]) (Nat.le_of_ble_eq_true rfl) (ok_X10_next N d  m)

def f_X10_scan_L12 (N : Nat)   (K56 : Mem → Ans) (X : Int32 → Int32 → Mem → Ans) (s1_12 : Int32) (s2_12 : Int32) (m : Mem) : Ans :=
if (400 : Int32) ≤ s2_12 then (K56 m)
else (if (m 99 2) ≤ s1_12 then (K56 m)
else (bd (f_X10_byteAt N s1_12 m) fun r_29 m_29 =>
bd (f_X10_isBlank N r_29 m_29) fun r_32 m_32 =>
if r_32 = 0 then (bd (f_X10_take N s1_12 m_32) fun r_46 m_46 =>
X r_46 (s2_12 + 1) m_46)
else (bnd (s1_12 + (1 : Int32)) fun a1_49 =>
X a1_49 (s2_12 + 1) m_32)))

def f_X10_scan_J56 (N : Nat)     (m : Mem) : Ans :=
bd (f_X9_add N 101 0 (m 99 2) 0 0 m) fun r_67 m_67 =>
bnd (mset m_67 99 6 (-1)) fun m_73 =>
bd (f_X10_next N m_73) fun _ m_77 =>
some (0, m_77)

def f_X10_scan (N : Nat)  (m : Mem) : Ans :=
bnd (mset m 101 3 0) fun m_5 =>
it2 (f_X10_scan_L12 N (fun mk56 => f_X10_scan_J56 N mk56)) N 0 0 m_5

set_option maxRecDepth 100000 in
set_option maxHeartbeats 4000000 in
theorem ok_X10_scan_L12 (N d : Nat)    (K56 : Mem → Ans) (hK56 : ∀  (m : Mem), Ok SX SG (d + 7) m_X10_scan 56 [some (.ref 99), none, none] [] SG m (K56 m)) : ∀ (n : Nat) (s1_12 : Int32) (s2_12 : Int32) (m : Mem), Ok SX SG (d + 7) m_X10_scan 12 [some (.ref 99), some (.int s1_12), some (.int s2_12)] [] SG m (it2 (f_X10_scan_L12 N K56) n s1_12 s2_12 m) :=
  ok_it2 (fun s1_12 s2_12 => [some (.ref 99), some (.int s1_12), some (.int s2_12)]) (fun X hX s1_12 s2_12 m => by
    try unfold f_X10_scan_L12
    refine ok_iload_n 13 2 dX10_scan_12 rfl rfl rfl ?_
    refine ok_sipush 16 400 dX10_scan_13 rfl rfl ?_
    refine ok_icmp_ge 56 19 dX10_scan_16 (by decide) rfl (fun _ => ?_) (fun _ => ?_)
    · exact ok_less [some (.ref 99), none, none] (And.intro rfl (trivial)) (hK56 m)
    · refine ok_iload_n 20 1 dX10_scan_19 rfl rfl rfl ?_
      refine ok_aload_n 21 0 dX10_scan_20 rfl rfl rfl ?_
      refine ok_getI 24 dX10_scan_21 rfl rfl F_Encores_Tape_24 sg_99 rfl (Nat.le_of_ble_eq_true rfl) rfl ?_
      refine ok_icmp_ge 56 27 dX10_scan_24 (by decide) rfl (fun _ => ?_) (fun _ => ?_)
      · exact ok_less [some (.ref 99), none, none] (And.intro rfl (trivial)) (hK56 m)
      · refine ok_aload_n 28 0 dX10_scan_27 rfl rfl rfl ?_
        refine ok_iload_n 29 1 dX10_scan_28 rfl rfl rfl ?_
        refine ok_callVi (np := 1) (M' := m_X10_byteAt) (As := [.int s1_12]) (st := []) 32 dX10_scan_29 rfl rfl km_X10_byteAt ki_X10_byteAt kv_X10_byteAt ml_Encores_Tape_31 (by decide) sg_99 rfl (Nat.le_of_ble_eq_true rfl) rfl rfl rfl (Nat.le_of_ble_eq_true rfl) (c_X10_byteAt N (d + 6) s1_12 m) ⟨Nat.le_refl _, Nat.le_refl _⟩ (Or.inl rfl) rfl (fun r_29 m_29 _ => ?_)
        refine ok_callSi (np := 1) (M' := m_X10_isBlank) (As := [.int r_29]) (st := []) 35 dX10_scan_32 rfl rfl km_X10_isBlank ks_X10_isBlank ml_Encores_Tape_35 (by decide) rfl rfl (Nat.le_of_ble_eq_true rfl) (c_X10_isBlank N (d + 6) r_29 m_29) ⟨Nat.le_refl _, Nat.le_refl _⟩ (Or.inl rfl) rfl (fun r_32 m_32 _ => ?_)
        refine ok_if_eq 44 38 dX10_scan_35 (by decide) rfl (fun _ => ?_) (fun _ => ?_)
        · refine ok_aload_n 45 0 dX10_scan_44 rfl rfl rfl ?_
          refine ok_iload_n 46 1 dX10_scan_45 rfl rfl rfl ?_
          refine ok_callVi (np := 1) (M' := m_X10_take) (As := [.int s1_12]) (st := []) 49 dX10_scan_46 rfl rfl km_X10_take ki_X10_take kv_X10_take ml_Encores_Tape_39 (by decide) sg_99 rfl (Nat.le_of_ble_eq_true rfl) rfl rfl rfl (Nat.le_of_ble_eq_true rfl) (c_X10_take N (d + 0) s1_12 m_32) ⟨Nat.le_refl _, Nat.le_refl _⟩ (Or.inl rfl) rfl (fun r_46 m_46 _ => ?_)
          refine ok_istore_n 50 1 [some (.ref 99), some (.int r_46), some (.int s2_12)] dX10_scan_49 rfl rfl (by decide) rfl ?_
          refine ok_iinc 53 2 1 [some (.ref 99), some (.int r_46), some (.int (s2_12 + 1))] dX10_scan_50 rfl rfl rfl (by decide) rfl ?_
          refine ok_goto 12 dX10_scan_53 (by decide) ?_
          exact ok_less [some (.ref 99), some (.int r_46), some (.int (s2_12 + 1))] (And.intro rfl (And.intro rfl (And.intro rfl (trivial)))) (hX r_46 (s2_12 + 1) m_46)
        · refine ok_iload_n 39 1 dX10_scan_38 rfl rfl rfl ?_
          refine ok_iconst 40 1 dX10_scan_39 rfl rfl ?_
          refine ok_iadd 41 dX10_scan_40 rfl ?_
          refine ok_goto 49 dX10_scan_41 (by decide) ?_
          refine ok_bndI (fun a1_49 => ?_)
          refine ok_istore_n 50 1 [some (.ref 99), some (.int a1_49), some (.int s2_12)] dX10_scan_49 rfl rfl (by decide) rfl ?_
          refine ok_iinc 53 2 1 [some (.ref 99), some (.int a1_49), some (.int (s2_12 + 1))] dX10_scan_50 rfl rfl rfl (by decide) rfl ?_
          refine ok_goto 12 dX10_scan_53 (by decide) ?_
          exact ok_less [some (.ref 99), some (.int a1_49), some (.int (s2_12 + 1))] (And.intro rfl (And.intro rfl (And.intro rfl (trivial)))) (hX a1_49 (s2_12 + 1) m_32))

set_option maxRecDepth 100000 in
set_option maxHeartbeats 4000000 in
theorem ok_X10_scan_J56 (N d : Nat)      (m : Mem) : Ok SX SG (d + 7) m_X10_scan 56 [some (.ref 99), none, none] [] SG m (f_X10_scan_J56 N m) := by
  unfold f_X10_scan_J56
  refine ok_aload_n 57 0 dX10_scan_56 rfl rfl rfl ?_
  refine ok_getR 60 dX10_scan_57 rfl rfl F_Encores_Tape_20 sg_99 rfl (Nat.le_of_ble_eq_true rfl) rfl rfl ?_
  refine ok_iconst 61 0 dX10_scan_60 rfl rfl ?_
  refine ok_aload_n 62 0 dX10_scan_61 rfl rfl rfl ?_
  refine ok_getI 65 dX10_scan_62 rfl rfl F_Encores_Tape_24 sg_99 rfl (Nat.le_of_ble_eq_true rfl) rfl ?_
  refine ok_iconst 66 0 dX10_scan_65 rfl rfl ?_
  refine ok_iconst 67 0 dX10_scan_66 rfl rfl ?_
  refine ok_callVi (np := 4) (M' := m_X9_add) (As := [.int 0, .int (m 99 2), .int 0, .int 0]) (st := []) 70 dX10_scan_67 rfl rfl km_X9_add ki_X9_add kv_X9_add ml_Encores_Tape_42 (by decide) sg_101 rfl (Nat.le_of_ble_eq_true rfl) rfl rfl rfl (Nat.le_of_ble_eq_true rfl) (c_X9_add N (d + 6) 101 0 (m 99 2) 0 0 tg_101 m) ⟨Nat.le_refl _, Nat.le_refl _⟩ (Or.inl rfl) rfl (fun r_67 m_67 _ => ?_)
  refine ok_pop 71 dX10_scan_70 rfl rfl ?_
  refine ok_aload_n 72 0 dX10_scan_71 rfl rfl rfl ?_
  refine ok_iconst 73 (-1) dX10_scan_72 rfl rfl ?_
  refine ok_putI 76 dX10_scan_73 rfl rfl F_Encores_Tape_46 sg_99 rfl (Nat.le_of_ble_eq_true rfl) rfl rfl pZ_10_6 rfl rfl ?_
  refine ok_bndM (fun m_73 => ?_)
  refine ok_aload_n 77 0 dX10_scan_76 rfl rfl rfl ?_
  refine ok_callVv (np := 0) (M' := m_X10_next) (As := []) (st := []) 80 dX10_scan_77 rfl rfl km_X10_next ki_X10_next kv_X10_next ml_Encores_Tape_49 (by decide) sg_99 rfl (Nat.le_of_ble_eq_true rfl) rfl rfl rfl (Nat.le_of_ble_eq_true rfl) (c_X10_next N (d + 5) m_73) ⟨Nat.le_refl _, Nat.le_refl _⟩ (Or.inl rfl) rfl (fun _ m_77 _ => ?_)
  exact ok_vret dX10_scan_80 rfl

set_option maxRecDepth 100000 in
set_option maxHeartbeats 4000000 in
theorem ok_X10_scan (N d : Nat)   (m : Mem) : Ok SX SG (d + 7) m_X10_scan 0 [some (.ref 99), none, none] [] SG m (f_X10_scan N m) := by
  unfold f_X10_scan
  refine ok_aload_n 1 0 dX10_scan_0 rfl rfl rfl ?_
  refine ok_getR 4 dX10_scan_1 rfl rfl F_Encores_Tape_20 sg_99 rfl (Nat.le_of_ble_eq_true rfl) rfl rfl ?_
  refine ok_iconst 5 0 dX10_scan_4 rfl rfl ?_
  refine ok_putI 8 dX10_scan_5 rfl rfl F_Encores_Tape_28 sg_101 rfl (Nat.le_of_ble_eq_true rfl) rfl rfl pZ_9_3 rfl rfl ?_
  refine ok_bndM (fun m_5 => ?_)
  refine ok_iconst 9 0 dX10_scan_8 rfl rfl ?_
  refine ok_istore_n 10 1 [some (.ref 99), some (.int 0), none] dX10_scan_9 rfl rfl (by decide) rfl ?_
  refine ok_iconst 11 0 dX10_scan_10 rfl rfl ?_
  refine ok_istore_n 12 2 [some (.ref 99), some (.int 0), some (.int 0)] dX10_scan_11 rfl rfl (by decide) rfl ?_
  refine ok_less [some (.ref 99), some (.int 0), some (.int 0)] (And.intro rfl (And.intro rfl (And.intro rfl (trivial)))) ?_
  exact ok_X10_scan_L12 N d   _ (fun mk56 => by
      exact ok_less [some (.ref 99), none, none] (And.intro rfl (trivial)) (ok_X10_scan_J56 N d    mk56)) N 0 0 m_5

theorem c_X10_scan (N d : Nat)   (m : Mem) : CM SX (d + 7) m_X10_scan SG SG [.ref 99] m (f_X10_scan N m) :=
  CM.ofOk km_X10_scan ⟨Nat.le_refl _, Nat.le_refl _⟩ (by simp [Value.category]) (Nat.le_of_ble_eq_true rfl) (ok_X10_scan N d  m)

def f_X6_begins (N : Nat) (a0 : Int32) (a1 : Int32) (m : Mem) : Ans :=
swt (Int32.toInt a0 - (0)) [(bd (f_X11_within N a1 256 258 m) fun r_35 m_35 =>
chk (isB r_35) (some (r_35, m_35))),
(if a1 = (264 : Int32) then (some (1, m))
else (bd (f_X11_within N a1 274 276 m) fun r_53 m_53 =>
if r_53 = 0 then (some (0, m_53))
else (some (1, m_53)))),
(if a1 = (277 : Int32) then (some (1, m))
else (some (0, m)))] (if a1 = (263 : Int32) then (some (1, m))
else (some (0, m)))

set_option maxRecDepth 100000 in
set_option maxHeartbeats 4000000 in
theorem ok_X6_begins (N d : Nat) (a0 : Int32) (a1 : Int32)  (m : Mem) : Ok SX SG (d + 1) m_X6_begins 0 [some (.int a0), some (.int a1)] [] SG m (f_X6_begins N a0 a1 m) := by
  unfold f_X6_begins
  refine ok_iload_n 1 0 dX6_begins_0 rfl rfl rfl ?_
  refine ok_tsw 78 [28, 39, 65] dX6_begins_1 (by decide) (by decide) (by decide) rfl ?_ ?_
  · refine And.intro ?_ (And.intro ?_ (And.intro ?_ (trivial)))
    · refine ok_iload_n 29 1 dX6_begins_28 rfl rfl rfl ?_
      refine ok_sipush 32 256 dX6_begins_29 rfl rfl ?_
      refine ok_sipush 35 258 dX6_begins_32 rfl rfl ?_
      refine ok_callSNi (np := 3) (M' := m_X11_within) (As := [.int a1, .int 256, .int 258]) (st := []) 38 3 dX6_begins_35 rfl rfl km_X11_within ks_X11_within rfl (by decide) rfl rfl (Nat.le_of_ble_eq_true rfl) (c_X11_within N (d + 0) a1 256 258 m) ⟨Nat.le_refl _, Nat.le_refl _⟩ (Or.inl rfl) rfl (fun r_35 m_35 _ => ?_)
      exact ok_zret dX6_begins_38 rfl
    · refine ok_iload_n 40 1 dX6_begins_39 rfl rfl rfl ?_
      refine ok_sipush 43 264 dX6_begins_40 rfl rfl ?_
      refine ok_icmp_eq 59 46 dX6_begins_43 (by decide) rfl (fun _ => ?_) (fun _ => ?_)
      · refine ok_iconst 60 1 dX6_begins_59 rfl rfl ?_
        refine ok_goto 64 dX6_begins_60 (by decide) ?_
        exact ok_zretc dX6_begins_64 rfl rfl
      · refine ok_iload_n 47 1 dX6_begins_46 rfl rfl rfl ?_
        refine ok_sipush 50 274 dX6_begins_47 rfl rfl ?_
        refine ok_sipush 53 276 dX6_begins_50 rfl rfl ?_
        refine ok_callSNi (np := 3) (M' := m_X11_within) (As := [.int a1, .int 274, .int 276]) (st := []) 56 3 dX6_begins_53 rfl rfl km_X11_within ks_X11_within rfl (by decide) rfl rfl (Nat.le_of_ble_eq_true rfl) (c_X11_within N (d + 0) a1 274 276 m) ⟨Nat.le_refl _, Nat.le_refl _⟩ (Or.inl rfl) rfl (fun r_53 m_53 _ => ?_)
        refine ok_if_eq 63 59 dX6_begins_56 (by decide) rfl (fun _ => ?_) (fun _ => ?_)
        · refine ok_iconst 64 0 dX6_begins_63 rfl rfl ?_
          exact ok_zretc dX6_begins_64 rfl rfl
        · refine ok_iconst 60 1 dX6_begins_59 rfl rfl ?_
          refine ok_goto 64 dX6_begins_60 (by decide) ?_
          exact ok_zretc dX6_begins_64 rfl rfl
    · refine ok_iload_n 66 1 dX6_begins_65 rfl rfl rfl ?_
      refine ok_sipush 69 277 dX6_begins_66 rfl rfl ?_
      refine ok_icmp_ne 76 72 dX6_begins_69 (by decide) rfl (fun _ => ?_) (fun _ => ?_)
      · refine ok_iconst 77 0 dX6_begins_76 rfl rfl ?_
        exact ok_zretc dX6_begins_77 rfl rfl
      · refine ok_iconst 73 1 dX6_begins_72 rfl rfl ?_
        refine ok_goto 77 dX6_begins_73 (by decide) ?_
        exact ok_zretc dX6_begins_77 rfl rfl
  · refine ok_iload_n 79 1 dX6_begins_78 rfl rfl rfl ?_
    refine ok_sipush 82 263 dX6_begins_79 rfl rfl ?_
    refine ok_icmp_ne 89 85 dX6_begins_82 (by decide) rfl (fun _ => ?_) (fun _ => ?_)
    · refine ok_iconst 90 0 dX6_begins_89 rfl rfl ?_
      exact ok_zretc dX6_begins_90 rfl rfl
    · refine ok_iconst 86 1 dX6_begins_85 rfl rfl ?_
      refine ok_goto 90 dX6_begins_86 (by decide) ?_
      exact ok_zretc dX6_begins_90 rfl rfl

theorem c_X6_begins (N d : Nat) (a0 : Int32) (a1 : Int32)  (m : Mem) : CM SX (d + 1) m_X6_begins SG SG [.int a0, .int a1] m (f_X6_begins N a0 a1 m) :=
  CM.ofOk km_X6_begins ⟨Nat.le_refl _, Nat.le_refl _⟩ (by simp [Value.category]) (Nat.le_of_ble_eq_true rfl) (ok_X6_begins N d a0 a1 m)

def f_X6_blame (N : Nat) (a1 : Int32) (m : Mem) : Ans :=
if (m 103 3) = 0 then (bnd (mset m 103 3 a1) fun m_9 =>
bnd (mset m_9 103 4 (m_9 99 4)) fun m_20 =>
some (0, m_20))
else (some (0, m))

set_option maxRecDepth 100000 in
set_option maxHeartbeats 4000000 in
theorem ok_X6_blame (N d : Nat) (a1 : Int32)  (m : Mem) : Ok SX SG (d + 0) m_X6_blame 0 [some (.ref 103), some (.int a1)] [] SG m (f_X6_blame N a1 m) := by
  unfold f_X6_blame
  refine ok_aload_n 1 0 dX6_blame_0 rfl rfl rfl ?_
  refine ok_getI 4 dX6_blame_1 rfl rfl F_Encores_Reader_30 sg_103 rfl (Nat.le_of_ble_eq_true rfl) rfl ?_
  refine ok_if_ne 23 7 dX6_blame_4 (by decide) rfl (fun _ => ?_) (fun _ => ?_)
  · exact ok_vret dX6_blame_23 rfl
  · refine ok_aload_n 8 0 dX6_blame_7 rfl rfl rfl ?_
    refine ok_iload_n 9 1 dX6_blame_8 rfl rfl rfl ?_
    refine ok_putI 12 dX6_blame_9 rfl rfl F_Encores_Reader_30 sg_103 rfl (Nat.le_of_ble_eq_true rfl) rfl rfl pZ_6_3 rfl rfl ?_
    refine ok_bndM (fun m_9 => ?_)
    refine ok_aload_n 13 0 dX6_blame_12 rfl rfl rfl ?_
    refine ok_aload_n 14 0 dX6_blame_13 rfl rfl rfl ?_
    refine ok_getR 17 dX6_blame_14 rfl rfl F_Encores_Reader_26 sg_103 rfl (Nat.le_of_ble_eq_true rfl) rfl rfl ?_
    refine ok_getI 20 dX6_blame_17 rfl rfl F_Encores_Reader_101 sg_99 rfl (Nat.le_of_ble_eq_true rfl) rfl ?_
    refine ok_putI 23 dX6_blame_20 rfl rfl F_Encores_Reader_34 sg_103 rfl (Nat.le_of_ble_eq_true rfl) rfl rfl pZ_6_4 rfl rfl ?_
    refine ok_bndM (fun m_20 => ?_)
    exact ok_vret dX6_blame_23 rfl

theorem c_X6_blame (N d : Nat) (a1 : Int32)  (m : Mem) : CM SX (d + 0) m_X6_blame SG SG [.ref 103, .int a1] m (f_X6_blame N a1 m) :=
  CM.ofOk km_X6_blame ⟨Nat.le_refl _, Nat.le_refl _⟩ (by simp [Value.category]) (Nat.le_of_ble_eq_true rfl) (ok_X6_blame N d a1 m)

def f_X6_failed (N : Nat) (a1 : Int32) (m : Mem) : Ans :=
bd (f_X6_blame N a1 m) fun _ m_2 =>
some (5, m_2)

set_option maxRecDepth 100000 in
set_option maxHeartbeats 4000000 in
theorem ok_X6_failed (N d : Nat) (a1 : Int32)  (m : Mem) : Ok SX SG (d + 1) m_X6_failed 0 [some (.ref 103), some (.int a1)] [] SG m (f_X6_failed N a1 m) := by
  unfold f_X6_failed
  refine ok_aload_n 1 0 dX6_failed_0 rfl rfl rfl ?_
  refine ok_iload_n 2 1 dX6_failed_1 rfl rfl rfl ?_
  refine ok_callVv (np := 1) (M' := m_X6_blame) (As := [.int a1]) (st := []) 5 dX6_failed_2 rfl rfl km_X6_blame ki_X6_blame kv_X6_blame ml_Encores_Reader_65 (by decide) sg_103 rfl (Nat.le_of_ble_eq_true rfl) rfl rfl rfl (Nat.le_of_ble_eq_true rfl) (c_X6_blame N (d + 0) a1 m) ⟨Nat.le_refl _, Nat.le_refl _⟩ (Or.inl rfl) rfl (fun _ m_2 _ => ?_)
  refine ok_iconst 6 5 dX6_failed_5 rfl rfl ?_
  exact ok_iret dX6_failed_6 rfl

theorem c_X6_failed (N d : Nat) (a1 : Int32)  (m : Mem) : CM SX (d + 1) m_X6_failed SG SG [.ref 103, .int a1] m (f_X6_failed N a1 m) :=
  CM.ofOk km_X6_failed ⟨Nat.le_refl _, Nat.le_refl _⟩ (by simp [Value.category]) (Nat.le_of_ble_eq_true rfl) (ok_X6_failed N d a1 m)

def f_X6_readCondition_J72 (N : Nat)    (s1_72 : Int32) (t0_72 : Int32) (m : Mem) : Ans :=
bd (f_X9_add N 108 t0_72 0 0 0 m) fun r_75 m_75 =>
bnd (mset m_75 103 6 ((m_75 103 6) + (1 : Int32))) fun m_86 =>
if s1_72 = 0 then (bnd (mset m_86 103 7 ((m_86 103 7) + (0 : Int32))) fun m_104 =>
bd (f_X10_next N m_104) fun _ m_111 =>
some (0, m_111))
else (bnd (mset m_86 103 7 ((m_86 103 7) + (1 : Int32))) fun m_104 =>
bd (f_X10_next N m_104) fun _ m_111 =>
some (0, m_111))

def f_X6_readCondition_J42 (N : Nat)    (s1_42 : Int32) (m : Mem) : Ans :=
if (m 103 6) < (8 : Int32) then (if s1_42 = 0 then (f_X6_readCondition_J72 N s1_42 9 m)
else (f_X6_readCondition_J72 N s1_42 12 m))
else (bd (f_X6_failed N 3 m) fun r_53 m_53 =>
some (r_53, m_53))

def f_X6_readCondition_J17 (N : Nat)    (t0_17 : Int32) (m : Mem) : Ans :=
if t0_17 = 0 then (if (m 99 3) = (262 : Int32) then (f_X6_readCondition_J42 N t0_17 m)
else (bnd (mset m 103 8 1) fun m_37 =>
some (1, m_37)))
else (f_X6_readCondition_J42 N t0_17 m)

def f_X6_readCondition (N : Nat)  (m : Mem) : Ans :=
if (m 99 3) = (40 : Int32) then (f_X6_readCondition_J17 N 1 m)
else (f_X6_readCondition_J17 N 0 m)

set_option maxRecDepth 100000 in
set_option maxHeartbeats 4000000 in
theorem ok_X6_readCondition_J72 (N d : Nat)     (s1_72 : Int32) (t0_72 : Int32) (m : Mem) : Ok SX SG (d + 2) m_X6_readCondition 72 [some (.ref 103), some (.int s1_72)] [.int t0_72, .ref 108] SG m (f_X6_readCondition_J72 N s1_72 t0_72 m) := by
  unfold f_X6_readCondition_J72
  refine ok_iconst 73 0 dX6_readCondition_72 rfl rfl ?_
  refine ok_iconst 74 0 dX6_readCondition_73 rfl rfl ?_
  refine ok_iconst 75 0 dX6_readCondition_74 rfl rfl ?_
  refine ok_callVi (np := 4) (M' := m_X9_add) (As := [.int t0_72, .int 0, .int 0, .int 0]) (st := []) 78 dX6_readCondition_75 rfl rfl km_X9_add ki_X9_add kv_X9_add ml_Encores_Reader_71 (by decide) sg_108 rfl (Nat.le_of_ble_eq_true rfl) rfl rfl rfl (Nat.le_of_ble_eq_true rfl) (c_X9_add N (d + 1) 108 t0_72 0 0 0 tg_108 m) ⟨Nat.le_refl _, Nat.le_refl _⟩ (Or.inl rfl) rfl (fun r_75 m_75 _ => ?_)
  refine ok_pop 79 dX6_readCondition_78 rfl rfl ?_
  refine ok_aload_n 80 0 dX6_readCondition_79 rfl rfl rfl ?_
  refine ok_dup 81 dX6_readCondition_80 rfl rfl ?_
  refine ok_getI 84 dX6_readCondition_81 rfl rfl F_Encores_Reader_104 sg_103 rfl (Nat.le_of_ble_eq_true rfl) rfl ?_
  refine ok_iconst 85 1 dX6_readCondition_84 rfl rfl ?_
  refine ok_iadd 86 dX6_readCondition_85 rfl ?_
  refine ok_putI 89 dX6_readCondition_86 rfl rfl F_Encores_Reader_104 sg_103 rfl (Nat.le_of_ble_eq_true rfl) rfl rfl pZ_6_6 rfl rfl ?_
  refine ok_bndM (fun m_86 => ?_)
  refine ok_aload_n 90 0 dX6_readCondition_89 rfl rfl rfl ?_
  refine ok_dup 91 dX6_readCondition_90 rfl rfl ?_
  refine ok_getI 94 dX6_readCondition_91 rfl rfl F_Encores_Reader_107 sg_103 rfl (Nat.le_of_ble_eq_true rfl) rfl ?_
  refine ok_iload_n 95 1 dX6_readCondition_94 rfl rfl rfl ?_
  refine ok_if_eq 102 98 dX6_readCondition_95 (by decide) rfl (fun _ => ?_) (fun _ => ?_)
  · refine ok_iconst 103 0 dX6_readCondition_102 rfl rfl ?_
    refine ok_iadd 104 dX6_readCondition_103 rfl ?_
    refine ok_putI 107 dX6_readCondition_104 rfl rfl F_Encores_Reader_107 sg_103 rfl (Nat.le_of_ble_eq_true rfl) rfl rfl pZ_6_7 rfl rfl ?_
    refine ok_bndM (fun m_104 => ?_)
    refine ok_aload_n 108 0 dX6_readCondition_107 rfl rfl rfl ?_
    refine ok_getR 111 dX6_readCondition_108 rfl rfl F_Encores_Reader_26 sg_103 rfl (Nat.le_of_ble_eq_true rfl) rfl rfl ?_
    refine ok_callVv (np := 0) (M' := m_X10_next) (As := []) (st := []) 114 dX6_readCondition_111 rfl rfl km_X10_next ki_X10_next kv_X10_next ml_Encores_Reader_75 (by decide) sg_99 rfl (Nat.le_of_ble_eq_true rfl) rfl rfl rfl (Nat.le_of_ble_eq_true rfl) (c_X10_next N (d + 0) m_104) ⟨Nat.le_refl _, Nat.le_refl _⟩ (Or.inl rfl) rfl (fun _ m_111 _ => ?_)
    refine ok_iconst 115 0 dX6_readCondition_114 rfl rfl ?_
    exact ok_iret dX6_readCondition_115 rfl
  · refine ok_iconst 99 1 dX6_readCondition_98 rfl rfl ?_
    refine ok_goto 103 dX6_readCondition_99 (by decide) ?_
    refine ok_iadd 104 dX6_readCondition_103 rfl ?_
    refine ok_putI 107 dX6_readCondition_104 rfl rfl F_Encores_Reader_107 sg_103 rfl (Nat.le_of_ble_eq_true rfl) rfl rfl pZ_6_7 rfl rfl ?_
    refine ok_bndM (fun m_104 => ?_)
    refine ok_aload_n 108 0 dX6_readCondition_107 rfl rfl rfl ?_
    refine ok_getR 111 dX6_readCondition_108 rfl rfl F_Encores_Reader_26 sg_103 rfl (Nat.le_of_ble_eq_true rfl) rfl rfl ?_
    refine ok_callVv (np := 0) (M' := m_X10_next) (As := []) (st := []) 114 dX6_readCondition_111 rfl rfl km_X10_next ki_X10_next kv_X10_next ml_Encores_Reader_75 (by decide) sg_99 rfl (Nat.le_of_ble_eq_true rfl) rfl rfl rfl (Nat.le_of_ble_eq_true rfl) (c_X10_next N (d + 0) m_104) ⟨Nat.le_refl _, Nat.le_refl _⟩ (Or.inl rfl) rfl (fun _ m_111 _ => ?_)
    refine ok_iconst 115 0 dX6_readCondition_114 rfl rfl ?_
    exact ok_iret dX6_readCondition_115 rfl

set_option maxRecDepth 100000 in
set_option maxHeartbeats 4000000 in
theorem ok_X6_readCondition_J42 (N d : Nat)     (s1_42 : Int32) (m : Mem) : Ok SX SG (d + 2) m_X6_readCondition 42 [some (.ref 103), some (.int s1_42)] [] SG m (f_X6_readCondition_J42 N s1_42 m) := by
  unfold f_X6_readCondition_J42
  refine ok_aload_n 43 0 dX6_readCondition_42 rfl rfl rfl ?_
  refine ok_getI 46 dX6_readCondition_43 rfl rfl F_Encores_Reader_104 sg_103 rfl (Nat.le_of_ble_eq_true rfl) rfl ?_
  refine ok_bipush 48 8 dX6_readCondition_46 rfl rfl ?_
  refine ok_icmp_lt 57 51 dX6_readCondition_48 (by decide) rfl (fun _ => ?_) (fun _ => ?_)
  · refine ok_aload_n 58 0 dX6_readCondition_57 rfl rfl rfl ?_
    refine ok_getR 61 dX6_readCondition_58 rfl rfl F_Encores_Reader_23 sg_103 rfl (Nat.le_of_ble_eq_true rfl) rfl rfl ?_
    refine ok_iload_n 62 1 dX6_readCondition_61 rfl rfl rfl ?_
    refine ok_if_eq 70 65 dX6_readCondition_62 (by decide) rfl (fun _ => ?_) (fun _ => ?_)
    · refine ok_bipush 72 9 dX6_readCondition_70 rfl rfl ?_
      exact ok_less [some (.ref 103), some (.int s1_42)] (And.intro rfl (And.intro rfl (trivial))) (ok_X6_readCondition_J72 N d    s1_42 9 m)
    · refine ok_bipush 67 12 dX6_readCondition_65 rfl rfl ?_
      refine ok_goto 72 dX6_readCondition_67 (by decide) ?_
      exact ok_less [some (.ref 103), some (.int s1_42)] (And.intro rfl (And.intro rfl (trivial))) (ok_X6_readCondition_J72 N d    s1_42 12 m)
  · refine ok_aload_n 52 0 dX6_readCondition_51 rfl rfl rfl ?_
    refine ok_iconst 53 3 dX6_readCondition_52 rfl rfl ?_
    refine ok_callVi (np := 1) (M' := m_X6_failed) (As := [.int 3]) (st := []) 56 dX6_readCondition_53 rfl rfl km_X6_failed ki_X6_failed kv_X6_failed ml_Encores_Reader_129 (by decide) sg_103 rfl (Nat.le_of_ble_eq_true rfl) rfl rfl rfl (Nat.le_of_ble_eq_true rfl) (c_X6_failed N (d + 0) 3 m) ⟨Nat.le_refl _, Nat.le_refl _⟩ (Or.inl rfl) rfl (fun r_53 m_53 _ => ?_)
    exact ok_iret dX6_readCondition_56 rfl

set_option maxRecDepth 100000 in
set_option maxHeartbeats 4000000 in
theorem ok_X6_readCondition_J17 (N d : Nat)     (t0_17 : Int32) (m : Mem) : Ok SX SG (d + 2) m_X6_readCondition 17 [some (.ref 103), none] [.int t0_17] SG m (f_X6_readCondition_J17 N t0_17 m) := by
  unfold f_X6_readCondition_J17
  refine ok_istore_n 18 1 [some (.ref 103), some (.int t0_17)] dX6_readCondition_17 rfl rfl (by decide) rfl ?_
  refine ok_iload_n 19 1 dX6_readCondition_18 rfl rfl rfl ?_
  refine ok_if_ne 42 22 dX6_readCondition_19 (by decide) rfl (fun _ => ?_) (fun _ => ?_)
  · exact ok_less [some (.ref 103), some (.int t0_17)] (And.intro rfl (And.intro rfl (trivial))) (ok_X6_readCondition_J42 N d    t0_17 m)
  · refine ok_aload_n 23 0 dX6_readCondition_22 rfl rfl rfl ?_
    refine ok_getR 26 dX6_readCondition_23 rfl rfl F_Encores_Reader_26 sg_103 rfl (Nat.le_of_ble_eq_true rfl) rfl rfl ?_
    refine ok_getI 29 dX6_readCondition_26 rfl rfl F_Encores_Reader_54 sg_99 rfl (Nat.le_of_ble_eq_true rfl) rfl ?_
    refine ok_sipush 32 262 dX6_readCondition_29 rfl rfl ?_
    refine ok_icmp_eq 42 35 dX6_readCondition_32 (by decide) rfl (fun _ => ?_) (fun _ => ?_)
    · exact ok_less [some (.ref 103), some (.int t0_17)] (And.intro rfl (And.intro rfl (trivial))) (ok_X6_readCondition_J42 N d    t0_17 m)
    · refine ok_aload_n 36 0 dX6_readCondition_35 rfl rfl rfl ?_
      refine ok_iconst 37 1 dX6_readCondition_36 rfl rfl ?_
      refine ok_putI 40 dX6_readCondition_37 rfl rfl F_Encores_Reader_110 sg_103 rfl (Nat.le_of_ble_eq_true rfl) rfl rfl pZ_6_8 rfl rfl ?_
      refine ok_bndM (fun m_37 => ?_)
      refine ok_iconst 41 1 dX6_readCondition_40 rfl rfl ?_
      exact ok_iret dX6_readCondition_41 rfl

set_option maxRecDepth 100000 in
set_option maxHeartbeats 4000000 in
theorem ok_X6_readCondition (N d : Nat)   (m : Mem) : Ok SX SG (d + 2) m_X6_readCondition 0 [some (.ref 103), none] [] SG m (f_X6_readCondition N m) := by
  unfold f_X6_readCondition
  refine ok_aload_n 1 0 dX6_readCondition_0 rfl rfl rfl ?_
  refine ok_getR 4 dX6_readCondition_1 rfl rfl F_Encores_Reader_26 sg_103 rfl (Nat.le_of_ble_eq_true rfl) rfl rfl ?_
  refine ok_getI 7 dX6_readCondition_4 rfl rfl F_Encores_Reader_54 sg_99 rfl (Nat.le_of_ble_eq_true rfl) rfl ?_
  refine ok_bipush 9 40 dX6_readCondition_7 rfl rfl ?_
  refine ok_icmp_ne 16 12 dX6_readCondition_9 (by decide) rfl (fun _ => ?_) (fun _ => ?_)
  · refine ok_iconst 17 0 dX6_readCondition_16 rfl rfl ?_
    exact ok_less [some (.ref 103), none] (And.intro rfl (trivial)) (ok_X6_readCondition_J17 N d    0 m)
  · refine ok_iconst 13 1 dX6_readCondition_12 rfl rfl ?_
    refine ok_goto 17 dX6_readCondition_13 (by decide) ?_
    exact ok_less [some (.ref 103), none] (And.intro rfl (trivial)) (ok_X6_readCondition_J17 N d    1 m)

theorem c_X6_readCondition (N d : Nat)   (m : Mem) : CM SX (d + 2) m_X6_readCondition SG SG [.ref 103] m (f_X6_readCondition N m) :=
  CM.ofOk km_X6_readCondition ⟨Nat.le_refl _, Nat.le_refl _⟩ (by simp [Value.category]) (Nat.le_of_ble_eq_true rfl) (ok_X6_readCondition N d  m)

def f_X6_readUnit (N : Nat)  (m : Mem) : Ans :=
if (m 99 3) = (1 : Int32) then (bd (f_X9_add N 106 0 (m 99 5) 0 0 m) fun r_25 m_25 =>
bd (f_X10_next N m_25) fun _ m_86 =>
some (3, m_86))
else (bd (f_X11_within N (m 99 3) 263 272 m) fun r_45 m_45 =>
if r_45 = 0 then (bd (f_X6_failed N 1 m_45) fun r_78 m_78 =>
some (r_78, m_78))
else (bd (f_X9_add N 106 1 ((m_45 99 3) - (263 : Int32)) 0 0 m_45) fun r_69 m_69 =>
bd (f_X10_next N m_69) fun _ m_86 =>
some (3, m_86)))

set_option maxRecDepth 100000 in
set_option maxHeartbeats 4000000 in
theorem ok_X6_readUnit (N d : Nat)   (m : Mem) : Ok SX SG (d + 2) m_X6_readUnit 0 [some (.ref 103)] [] SG m (f_X6_readUnit N m) := by
  unfold f_X6_readUnit
  refine ok_aload_n 1 0 dX6_readUnit_0 rfl rfl rfl ?_
  refine ok_getR 4 dX6_readUnit_1 rfl rfl F_Encores_Reader_26 sg_103 rfl (Nat.le_of_ble_eq_true rfl) rfl rfl ?_
  refine ok_getI 7 dX6_readUnit_4 rfl rfl F_Encores_Reader_54 sg_99 rfl (Nat.le_of_ble_eq_true rfl) rfl ?_
  refine ok_iconst 8 1 dX6_readUnit_7 rfl rfl ?_
  refine ok_icmp_ne 32 11 dX6_readUnit_8 (by decide) rfl (fun _ => ?_) (fun _ => ?_)
  · refine ok_aload_n 33 0 dX6_readUnit_32 rfl rfl rfl ?_
    refine ok_getR 36 dX6_readUnit_33 rfl rfl F_Encores_Reader_26 sg_103 rfl (Nat.le_of_ble_eq_true rfl) rfl rfl ?_
    refine ok_getI 39 dX6_readUnit_36 rfl rfl F_Encores_Reader_54 sg_99 rfl (Nat.le_of_ble_eq_true rfl) rfl ?_
    refine ok_sipush 42 263 dX6_readUnit_39 rfl rfl ?_
    refine ok_sipush 45 272 dX6_readUnit_42 rfl rfl ?_
    refine ok_callSNi (np := 3) (M' := m_X11_within) (As := [.int (m 99 3), .int 263, .int 272]) (st := []) 48 3 dX6_readUnit_45 rfl rfl km_X11_within ks_X11_within rfl (by decide) rfl rfl (Nat.le_of_ble_eq_true rfl) (c_X11_within N (d + 1) (m 99 3) 263 272 m) ⟨Nat.le_refl _, Nat.le_refl _⟩ (Or.inl rfl) rfl (fun r_45 m_45 _ => ?_)
    refine ok_if_eq 76 51 dX6_readUnit_48 (by decide) rfl (fun _ => ?_) (fun _ => ?_)
    · refine ok_aload_n 77 0 dX6_readUnit_76 rfl rfl rfl ?_
      refine ok_iconst 78 1 dX6_readUnit_77 rfl rfl ?_
      refine ok_callVi (np := 1) (M' := m_X6_failed) (As := [.int 1]) (st := []) 81 dX6_readUnit_78 rfl rfl km_X6_failed ki_X6_failed kv_X6_failed ml_Encores_Reader_129 (by decide) sg_103 rfl (Nat.le_of_ble_eq_true rfl) rfl rfl rfl (Nat.le_of_ble_eq_true rfl) (c_X6_failed N (d + 0) 1 m_45) ⟨Nat.le_refl _, Nat.le_refl _⟩ (Or.inl rfl) rfl (fun r_78 m_78 _ => ?_)
      exact ok_iret dX6_readUnit_81 rfl
    · refine ok_aload_n 52 0 dX6_readUnit_51 rfl rfl rfl ?_
      refine ok_getR 55 dX6_readUnit_52 rfl rfl F_Encores_Reader_20 sg_103 rfl (Nat.le_of_ble_eq_true rfl) rfl rfl ?_
      refine ok_iconst 56 1 dX6_readUnit_55 rfl rfl ?_
      refine ok_aload_n 57 0 dX6_readUnit_56 rfl rfl rfl ?_
      refine ok_getR 60 dX6_readUnit_57 rfl rfl F_Encores_Reader_26 sg_103 rfl (Nat.le_of_ble_eq_true rfl) rfl rfl ?_
      refine ok_getI 63 dX6_readUnit_60 rfl rfl F_Encores_Reader_54 sg_99 rfl (Nat.le_of_ble_eq_true rfl) rfl ?_
      refine ok_sipush 66 263 dX6_readUnit_63 rfl rfl ?_
      refine ok_isub 67 dX6_readUnit_66 rfl ?_
      refine ok_iconst 68 0 dX6_readUnit_67 rfl rfl ?_
      refine ok_iconst 69 0 dX6_readUnit_68 rfl rfl ?_
      refine ok_callVi (np := 4) (M' := m_X9_add) (As := [.int 1, .int ((m_45 99 3) - (263 : Int32)), .int 0, .int 0]) (st := []) 72 dX6_readUnit_69 rfl rfl km_X9_add ki_X9_add kv_X9_add ml_Encores_Reader_71 (by decide) sg_106 rfl (Nat.le_of_ble_eq_true rfl) rfl rfl rfl (Nat.le_of_ble_eq_true rfl) (c_X9_add N (d + 1) 106 1 ((m_45 99 3) - (263 : Int32)) 0 0 tg_106 m_45) ⟨Nat.le_refl _, Nat.le_refl _⟩ (Or.inl rfl) rfl (fun r_69 m_69 _ => ?_)
      refine ok_pop 73 dX6_readUnit_72 rfl rfl ?_
      refine ok_goto 82 dX6_readUnit_73 (by decide) ?_
      refine ok_aload_n 83 0 dX6_readUnit_82 rfl rfl rfl ?_
      refine ok_getR 86 dX6_readUnit_83 rfl rfl F_Encores_Reader_26 sg_103 rfl (Nat.le_of_ble_eq_true rfl) rfl rfl ?_
      refine ok_callVv (np := 0) (M' := m_X10_next) (As := []) (st := []) 89 dX6_readUnit_86 rfl rfl km_X10_next ki_X10_next kv_X10_next ml_Encores_Reader_75 (by decide) sg_99 rfl (Nat.le_of_ble_eq_true rfl) rfl rfl rfl (Nat.le_of_ble_eq_true rfl) (c_X10_next N (d + 0) m_69) ⟨Nat.le_refl _, Nat.le_refl _⟩ (Or.inl rfl) rfl (fun _ m_86 _ => ?_)
      refine ok_iconst 90 3 dX6_readUnit_89 rfl rfl ?_
      exact ok_iret dX6_readUnit_90 rfl
  · refine ok_aload_n 12 0 dX6_readUnit_11 rfl rfl rfl ?_
    refine ok_getR 15 dX6_readUnit_12 rfl rfl F_Encores_Reader_20 sg_103 rfl (Nat.le_of_ble_eq_true rfl) rfl rfl ?_
    refine ok_iconst 16 0 dX6_readUnit_15 rfl rfl ?_
    refine ok_aload_n 17 0 dX6_readUnit_16 rfl rfl rfl ?_
    refine ok_getR 20 dX6_readUnit_17 rfl rfl F_Encores_Reader_26 sg_103 rfl (Nat.le_of_ble_eq_true rfl) rfl rfl ?_
    refine ok_getI 23 dX6_readUnit_20 rfl rfl F_Encores_Reader_95 sg_99 rfl (Nat.le_of_ble_eq_true rfl) rfl ?_
    refine ok_iconst 24 0 dX6_readUnit_23 rfl rfl ?_
    refine ok_iconst 25 0 dX6_readUnit_24 rfl rfl ?_
    refine ok_callVi (np := 4) (M' := m_X9_add) (As := [.int 0, .int (m 99 5), .int 0, .int 0]) (st := []) 28 dX6_readUnit_25 rfl rfl km_X9_add ki_X9_add kv_X9_add ml_Encores_Reader_71 (by decide) sg_106 rfl (Nat.le_of_ble_eq_true rfl) rfl rfl rfl (Nat.le_of_ble_eq_true rfl) (c_X9_add N (d + 1) 106 0 (m 99 5) 0 0 tg_106 m) ⟨Nat.le_refl _, Nat.le_refl _⟩ (Or.inl rfl) rfl (fun r_25 m_25 _ => ?_)
    refine ok_pop 29 dX6_readUnit_28 rfl rfl ?_
    refine ok_goto 82 dX6_readUnit_29 (by decide) ?_
    refine ok_aload_n 83 0 dX6_readUnit_82 rfl rfl rfl ?_
    refine ok_getR 86 dX6_readUnit_83 rfl rfl F_Encores_Reader_26 sg_103 rfl (Nat.le_of_ble_eq_true rfl) rfl rfl ?_
    refine ok_callVv (np := 0) (M' := m_X10_next) (As := []) (st := []) 89 dX6_readUnit_86 rfl rfl km_X10_next ki_X10_next kv_X10_next ml_Encores_Reader_75 (by decide) sg_99 rfl (Nat.le_of_ble_eq_true rfl) rfl rfl rfl (Nat.le_of_ble_eq_true rfl) (c_X10_next N (d + 0) m_25) ⟨Nat.le_refl _, Nat.le_refl _⟩ (Or.inl rfl) rfl (fun _ m_86 _ => ?_)
    refine ok_iconst 90 3 dX6_readUnit_89 rfl rfl ?_
    exact ok_iret dX6_readUnit_90 rfl

theorem c_X6_readUnit (N d : Nat)   (m : Mem) : CM SX (d + 2) m_X6_readUnit SG SG [.ref 103] m (f_X6_readUnit N m) :=
  CM.ofOk km_X6_readUnit ⟨Nat.le_refl _, Nat.le_refl _⟩ (by simp [Value.category]) (Nat.le_of_ble_eq_true rfl) (ok_X6_readUnit N d  m)

def f_X6_readDivisor_J27 (N : Nat)     (m : Mem) : Ans :=
if (m 99 3) = (1 : Int32) then (bd (f_X6_readUnit N m) fun r_39 m_39 =>
some (r_39, m_39))
else (bd (f_X6_failed N 1 m) fun r_47 m_47 =>
some (r_47, m_47))

def f_X6_readDivisor (N : Nat)  (m : Mem) : Ans :=
if (m 99 3) = (1 : Int32) then (if (m 99 5) = 0 then (bd (f_X6_failed N 2 m) fun r_23 m_23 =>
some (r_23, m_23))
else (f_X6_readDivisor_J27 N m))
else (f_X6_readDivisor_J27 N m)

set_option maxRecDepth 100000 in
set_option maxHeartbeats 4000000 in
theorem ok_X6_readDivisor_J27 (N d : Nat)      (m : Mem) : Ok SX SG (d + 3) m_X6_readDivisor 27 [some (.ref 103)] [] SG m (f_X6_readDivisor_J27 N m) := by
  unfold f_X6_readDivisor_J27
  refine ok_aload_n 28 0 dX6_readDivisor_27 rfl rfl rfl ?_
  refine ok_getR 31 dX6_readDivisor_28 rfl rfl F_Encores_Reader_26 sg_103 rfl (Nat.le_of_ble_eq_true rfl) rfl rfl ?_
  refine ok_getI 34 dX6_readDivisor_31 rfl rfl F_Encores_Reader_54 sg_99 rfl (Nat.le_of_ble_eq_true rfl) rfl ?_
  refine ok_iconst 35 1 dX6_readDivisor_34 rfl rfl ?_
  refine ok_icmp_ne 45 38 dX6_readDivisor_35 (by decide) rfl (fun _ => ?_) (fun _ => ?_)
  · refine ok_aload_n 46 0 dX6_readDivisor_45 rfl rfl rfl ?_
    refine ok_iconst 47 1 dX6_readDivisor_46 rfl rfl ?_
    refine ok_callVi (np := 1) (M' := m_X6_failed) (As := [.int 1]) (st := []) 50 dX6_readDivisor_47 rfl rfl km_X6_failed ki_X6_failed kv_X6_failed ml_Encores_Reader_129 (by decide) sg_103 rfl (Nat.le_of_ble_eq_true rfl) rfl rfl rfl (Nat.le_of_ble_eq_true rfl) (c_X6_failed N (d + 1) 1 m) ⟨Nat.le_refl _, Nat.le_refl _⟩ (Or.inl rfl) rfl (fun r_47 m_47 _ => ?_)
    exact ok_iret dX6_readDivisor_50 rfl
  · refine ok_aload_n 39 0 dX6_readDivisor_38 rfl rfl rfl ?_
    refine ok_callVi (np := 0) (M' := m_X6_readUnit) (As := []) (st := []) 42 dX6_readDivisor_39 rfl rfl km_X6_readUnit ki_X6_readUnit kv_X6_readUnit ml_Encores_Reader_117 (by decide) sg_103 rfl (Nat.le_of_ble_eq_true rfl) rfl rfl rfl (Nat.le_of_ble_eq_true rfl) (c_X6_readUnit N (d + 0) m) ⟨Nat.le_refl _, Nat.le_refl _⟩ (Or.inl rfl) rfl (fun r_39 m_39 _ => ?_)
    refine ok_goto 50 dX6_readDivisor_42 (by decide) ?_
    exact ok_iret dX6_readDivisor_50 rfl

set_option maxRecDepth 100000 in
set_option maxHeartbeats 4000000 in
theorem ok_X6_readDivisor (N d : Nat)   (m : Mem) : Ok SX SG (d + 3) m_X6_readDivisor 0 [some (.ref 103)] [] SG m (f_X6_readDivisor N m) := by
  unfold f_X6_readDivisor
  refine ok_aload_n 1 0 dX6_readDivisor_0 rfl rfl rfl ?_
  refine ok_getR 4 dX6_readDivisor_1 rfl rfl F_Encores_Reader_26 sg_103 rfl (Nat.le_of_ble_eq_true rfl) rfl rfl ?_
  refine ok_getI 7 dX6_readDivisor_4 rfl rfl F_Encores_Reader_54 sg_99 rfl (Nat.le_of_ble_eq_true rfl) rfl ?_
  refine ok_iconst 8 1 dX6_readDivisor_7 rfl rfl ?_
  refine ok_icmp_ne 27 11 dX6_readDivisor_8 (by decide) rfl (fun _ => ?_) (fun _ => ?_)
  · exact ok_less [some (.ref 103)] (And.intro rfl (trivial)) (ok_X6_readDivisor_J27 N d    m)
  · refine ok_aload_n 12 0 dX6_readDivisor_11 rfl rfl rfl ?_
    refine ok_getR 15 dX6_readDivisor_12 rfl rfl F_Encores_Reader_26 sg_103 rfl (Nat.le_of_ble_eq_true rfl) rfl rfl ?_
    refine ok_getI 18 dX6_readDivisor_15 rfl rfl F_Encores_Reader_95 sg_99 rfl (Nat.le_of_ble_eq_true rfl) rfl ?_
    refine ok_if_ne 27 21 dX6_readDivisor_18 (by decide) rfl (fun _ => ?_) (fun _ => ?_)
    · exact ok_less [some (.ref 103)] (And.intro rfl (trivial)) (ok_X6_readDivisor_J27 N d    m)
    · refine ok_aload_n 22 0 dX6_readDivisor_21 rfl rfl rfl ?_
      refine ok_iconst 23 2 dX6_readDivisor_22 rfl rfl ?_
      refine ok_callVi (np := 1) (M' := m_X6_failed) (As := [.int 2]) (st := []) 26 dX6_readDivisor_23 rfl rfl km_X6_failed ki_X6_failed kv_X6_failed ml_Encores_Reader_129 (by decide) sg_103 rfl (Nat.le_of_ble_eq_true rfl) rfl rfl rfl (Nat.le_of_ble_eq_true rfl) (c_X6_failed N (d + 1) 2 m) ⟨Nat.le_refl _, Nat.le_refl _⟩ (Or.inl rfl) rfl (fun r_23 m_23 _ => ?_)
      exact ok_iret dX6_readDivisor_26 rfl

theorem c_X6_readDivisor (N d : Nat)   (m : Mem) : CM SX (d + 3) m_X6_readDivisor SG SG [.ref 103] m (f_X6_readDivisor N m) :=
  CM.ofOk km_X6_readDivisor ⟨Nat.le_refl _, Nat.le_refl _⟩ (by simp [Value.category]) (Nat.le_of_ble_eq_true rfl) (ok_X6_readDivisor N d  m)

def f_X6_opOf (N : Nat) (a0 : Int32) (m : Mem) : Ans :=
if a0 = 42 then (some (2, m))
else (if a0 = 43 then (some (4, m))
else (if a0 = 45 then (some (5, m))
else (if a0 = 47 then (some (3, m))
else (if a0 = 60 then (some (6, m))
else (if a0 = 61 then (some (7, m))
else (if a0 = 62 then (some (8, m))
else (if a0 = 260 then (some (11, m))
else (if a0 = 261 then (some (10, m))
else (some ((-1), m))))))))))

set_option maxRecDepth 100000 in
set_option maxHeartbeats 4000000 in
theorem ok_X6_opOf (N d : Nat) (a0 : Int32)  (m : Mem) : Ok SX SG (d + 0) m_X6_opOf 0 [some (.int a0)] [] SG m (f_X6_opOf N a0 m) := by
  unfold f_X6_opOf
  refine ok_iload_n 1 0 dX6_opOf_0 rfl rfl rfl ?_
  refine ok_lsw dX6_opOf_1 (by decide) ?_
  by_cases hq_1_42 : a0 = 42
  · rw [if_pos hq_1_42]
    refine ⟨84, by rw [hq_1_42]; decide, ?_⟩
    refine ok_iconst 85 2 dX6_opOf_84 rfl rfl ?_
    exact ok_iret dX6_opOf_85 rfl
  rw [if_neg hq_1_42]
  by_cases hq_1_43 : a0 = 43
  · rw [if_pos hq_1_43]
    refine ⟨88, by rw [hq_1_43]; decide, ?_⟩
    refine ok_iconst 89 4 dX6_opOf_88 rfl rfl ?_
    exact ok_iret dX6_opOf_89 rfl
  rw [if_neg hq_1_43]
  by_cases hq_1_45 : a0 = 45
  · rw [if_pos hq_1_45]
    refine ⟨90, by rw [hq_1_45]; decide, ?_⟩
    refine ok_iconst 91 5 dX6_opOf_90 rfl rfl ?_
    exact ok_iret dX6_opOf_91 rfl
  rw [if_neg hq_1_45]
  by_cases hq_1_47 : a0 = 47
  · rw [if_pos hq_1_47]
    refine ⟨86, by rw [hq_1_47]; decide, ?_⟩
    refine ok_iconst 87 3 dX6_opOf_86 rfl rfl ?_
    exact ok_iret dX6_opOf_87 rfl
  rw [if_neg hq_1_47]
  by_cases hq_1_60 : a0 = 60
  · rw [if_pos hq_1_60]
    refine ⟨92, by rw [hq_1_60]; decide, ?_⟩
    refine ok_bipush 94 6 dX6_opOf_92 rfl rfl ?_
    exact ok_iret dX6_opOf_94 rfl
  rw [if_neg hq_1_60]
  by_cases hq_1_61 : a0 = 61
  · rw [if_pos hq_1_61]
    refine ⟨95, by rw [hq_1_61]; decide, ?_⟩
    refine ok_bipush 97 7 dX6_opOf_95 rfl rfl ?_
    exact ok_iret dX6_opOf_97 rfl
  rw [if_neg hq_1_61]
  by_cases hq_1_62 : a0 = 62
  · rw [if_pos hq_1_62]
    refine ⟨98, by rw [hq_1_62]; decide, ?_⟩
    refine ok_bipush 100 8 dX6_opOf_98 rfl rfl ?_
    exact ok_iret dX6_opOf_100 rfl
  rw [if_neg hq_1_62]
  by_cases hq_1_260 : a0 = 260
  · rw [if_pos hq_1_260]
    refine ⟨104, by rw [hq_1_260]; decide, ?_⟩
    refine ok_bipush 106 11 dX6_opOf_104 rfl rfl ?_
    exact ok_iret dX6_opOf_106 rfl
  rw [if_neg hq_1_260]
  by_cases hq_1_261 : a0 = 261
  · rw [if_pos hq_1_261]
    refine ⟨101, by rw [hq_1_261]; decide, ?_⟩
    refine ok_bipush 103 10 dX6_opOf_101 rfl rfl ?_
    exact ok_iret dX6_opOf_103 rfl
  rw [if_neg hq_1_261]
  refine ⟨107, ?_, ?_⟩
  · refine lsw_none (by decide) (fun q hq => ?_)
    simp only [List.mem_cons, List.not_mem_nil, or_false] at hq
    rcases hq with rfl | rfl | rfl | rfl | rfl | rfl | rfl | rfl | rfl
    · exact fun h2 => hq_1_42 (Int32.toInt_inj.mp (h2.trans (by decide : (42 : Int) = (42 : Int32).toInt)))
    · exact fun h2 => hq_1_43 (Int32.toInt_inj.mp (h2.trans (by decide : (43 : Int) = (43 : Int32).toInt)))
    · exact fun h2 => hq_1_45 (Int32.toInt_inj.mp (h2.trans (by decide : (45 : Int) = (45 : Int32).toInt)))
    · exact fun h2 => hq_1_47 (Int32.toInt_inj.mp (h2.trans (by decide : (47 : Int) = (47 : Int32).toInt)))
    · exact fun h2 => hq_1_60 (Int32.toInt_inj.mp (h2.trans (by decide : (60 : Int) = (60 : Int32).toInt)))
    · exact fun h2 => hq_1_61 (Int32.toInt_inj.mp (h2.trans (by decide : (61 : Int) = (61 : Int32).toInt)))
    · exact fun h2 => hq_1_62 (Int32.toInt_inj.mp (h2.trans (by decide : (62 : Int) = (62 : Int32).toInt)))
    · exact fun h2 => hq_1_260 (Int32.toInt_inj.mp (h2.trans (by decide : (260 : Int) = (260 : Int32).toInt)))
    · exact fun h2 => hq_1_261 (Int32.toInt_inj.mp (h2.trans (by decide : (261 : Int) = (261 : Int32).toInt)))
  · refine ok_iconst 108 (-1) dX6_opOf_107 rfl rfl ?_
    exact ok_iret dX6_opOf_108 rfl

theorem c_X6_opOf (N d : Nat) (a0 : Int32)  (m : Mem) : CM SX (d + 0) m_X6_opOf SG SG [.int a0] m (f_X6_opOf N a0 m) :=
  CM.ofOk km_X6_opOf ⟨Nat.le_refl _, Nat.le_refl _⟩ (by simp [Value.category]) (Nat.le_of_ble_eq_true rfl) (ok_X6_opOf N d a0 m)

def f_X6_strength (N : Nat) (a0 : Int32) (m : Mem) : Ans :=
swt (Int32.toInt a0 - (2)) [(some (6, m)),
(some (6, m)),
(some (5, m)),
(some (5, m)),
(some (4, m)),
(some (4, m)),
(some (4, m)),
(some (3, m)),
(some (2, m))] (some (1, m))

set_option maxRecDepth 100000 in
set_option maxHeartbeats 4000000 in
theorem ok_X6_strength (N d : Nat) (a0 : Int32)  (m : Mem) : Ok SX SG (d + 0) m_X6_strength 0 [some (.int a0)] [] SG m (f_X6_strength N a0 m) := by
  unfold f_X6_strength
  refine ok_iload_n 1 0 dX6_strength_0 rfl rfl rfl ?_
  refine ok_tsw 63 [52, 52, 55, 55, 57, 57, 57, 59, 61] dX6_strength_1 (by decide) (by decide) (by decide) rfl ?_ ?_
  · refine And.intro ?_ (And.intro ?_ (And.intro ?_ (And.intro ?_ (And.intro ?_ (And.intro ?_ (And.intro ?_ (And.intro ?_ (And.intro ?_ (trivial)))))))))
    · refine ok_bipush 54 6 dX6_strength_52 rfl rfl ?_
      exact ok_iret dX6_strength_54 rfl
    · refine ok_bipush 54 6 dX6_strength_52 rfl rfl ?_
      exact ok_iret dX6_strength_54 rfl
    · refine ok_iconst 56 5 dX6_strength_55 rfl rfl ?_
      exact ok_iret dX6_strength_56 rfl
    · refine ok_iconst 56 5 dX6_strength_55 rfl rfl ?_
      exact ok_iret dX6_strength_56 rfl
    · refine ok_iconst 58 4 dX6_strength_57 rfl rfl ?_
      exact ok_iret dX6_strength_58 rfl
    · refine ok_iconst 58 4 dX6_strength_57 rfl rfl ?_
      exact ok_iret dX6_strength_58 rfl
    · refine ok_iconst 58 4 dX6_strength_57 rfl rfl ?_
      exact ok_iret dX6_strength_58 rfl
    · refine ok_iconst 60 3 dX6_strength_59 rfl rfl ?_
      exact ok_iret dX6_strength_60 rfl
    · refine ok_iconst 62 2 dX6_strength_61 rfl rfl ?_
      exact ok_iret dX6_strength_62 rfl
  · refine ok_iconst 64 1 dX6_strength_63 rfl rfl ?_
    exact ok_iret dX6_strength_64 rfl

theorem c_X6_strength (N d : Nat) (a0 : Int32)  (m : Mem) : CM SX (d + 0) m_X6_strength SG SG [.int a0] m (f_X6_strength N a0 m) :=
  CM.ofOk km_X6_strength ⟨Nat.le_refl _, Nat.le_refl _⟩ (by simp [Value.category]) (Nat.le_of_ble_eq_true rfl) (ok_X6_strength N d a0 m)

def f_X6_dropDownTo_L10 (N : Nat) (a1 : Int32)   (X : Int32 → Mem → Ans) (s2_10 : Int32) (m : Mem) : Ans :=
if s2_10 < 0 then (some (0, m))
else (bd (f_X9_at N 108 s2_10 0 m) fun r_20 m_20 =>
if r_20 = (12 : Int32) then (some (0, m_20))
else (bd (f_X6_strength N r_20 m_20) fun r_31 m_31 =>
if a1 ≤ r_31 then (bd (f_X9_add N 106 r_20 0 0 0 m_31) fun r_47 m_47 =>
bnd (mset m_47 108 3 s2_10) fun m_56 =>
if r_20 = (9 : Int32) then (bnd (mset m_56 103 6 ((m_56 103 6) - (1 : Int32))) fun m_76 =>
X (s2_10 + (-1)) m_76)
else (bnd (mset m_56 103 6 ((m_56 103 6) - (0 : Int32))) fun m_76 =>
X (s2_10 + (-1)) m_76))
else (some (0, m_31))))

def f_X6_dropDownTo (N : Nat) (a1 : Int32) (m : Mem) : Ans :=
bnd ((m 108 3) - (1 : Int32)) fun a2_9 =>
it1 (f_X6_dropDownTo_L10 N a1 ) N a2_9 m

set_option maxRecDepth 100000 in
set_option maxHeartbeats 4000000 in
theorem ok_X6_dropDownTo_L10 (N d : Nat) (a1 : Int32)    : ∀ (n : Nat) (s2_10 : Int32) (m : Mem), Ok SX SG (d + 1) m_X6_dropDownTo 10 [some (.ref 103), some (.int a1), some (.int s2_10), none] [] SG m (it1 (f_X6_dropDownTo_L10 N a1) n s2_10 m) :=
  ok_it1 (fun s2_10 => [some (.ref 103), some (.int a1), some (.int s2_10), none]) (fun X hX s2_10 m => by
    try unfold f_X6_dropDownTo_L10
    refine ok_iload_n 11 2 dX6_dropDownTo_10 rfl rfl rfl ?_
    refine ok_if_lt 85 14 dX6_dropDownTo_11 (by decide) rfl (fun _ => ?_) (fun _ => ?_)
    · exact ok_vret dX6_dropDownTo_85 rfl
    · refine ok_aload_n 15 0 dX6_dropDownTo_14 rfl rfl rfl ?_
      refine ok_getR 18 dX6_dropDownTo_15 rfl rfl F_Encores_Reader_23 sg_103 rfl (Nat.le_of_ble_eq_true rfl) rfl rfl ?_
      refine ok_iload_n 19 2 dX6_dropDownTo_18 rfl rfl rfl ?_
      refine ok_iconst 20 0 dX6_dropDownTo_19 rfl rfl ?_
      refine ok_callVi (np := 2) (M' := m_X9_at) (As := [.int s2_10, .int 0]) (st := []) 23 dX6_dropDownTo_20 rfl rfl km_X9_at ki_X9_at kv_X9_at ml_Encores_Reader_91 (by decide) sg_108 rfl (Nat.le_of_ble_eq_true rfl) rfl rfl rfl (Nat.le_of_ble_eq_true rfl) (c_X9_at N (d + 0) 108 s2_10 0 tg_108 m) ⟨Nat.le_refl _, Nat.le_refl _⟩ (Or.inl rfl) rfl (fun r_20 m_20 _ => ?_)
      refine ok_istore_n 24 3 [some (.ref 103), some (.int a1), some (.int s2_10), some (.int r_20)] dX6_dropDownTo_23 rfl rfl (by decide) rfl ?_
      refine ok_iload_n 25 3 dX6_dropDownTo_24 rfl rfl rfl ?_
      refine ok_bipush 27 12 dX6_dropDownTo_25 rfl rfl ?_
      refine ok_icmp_eq 38 30 dX6_dropDownTo_27 (by decide) rfl (fun _ => ?_) (fun _ => ?_)
      · exact ok_vret dX6_dropDownTo_38 rfl
      · refine ok_iload_n 31 3 dX6_dropDownTo_30 rfl rfl rfl ?_
        refine ok_callSi (np := 1) (M' := m_X6_strength) (As := [.int r_20]) (st := []) 34 dX6_dropDownTo_31 rfl rfl km_X6_strength ks_X6_strength ml_Encores_Reader_150 (by decide) rfl rfl (Nat.le_of_ble_eq_true rfl) (c_X6_strength N (d + 0) r_20 m_20) ⟨Nat.le_refl _, Nat.le_refl _⟩ (Or.inl rfl) rfl (fun r_31 m_31 _ => ?_)
        refine ok_iload_n 35 1 dX6_dropDownTo_34 rfl rfl rfl ?_
        refine ok_icmp_ge 39 38 dX6_dropDownTo_35 (by decide) rfl (fun _ => ?_) (fun _ => ?_)
        · refine ok_aload_n 40 0 dX6_dropDownTo_39 rfl rfl rfl ?_
          refine ok_getR 43 dX6_dropDownTo_40 rfl rfl F_Encores_Reader_20 sg_103 rfl (Nat.le_of_ble_eq_true rfl) rfl rfl ?_
          refine ok_iload_n 44 3 dX6_dropDownTo_43 rfl rfl rfl ?_
          refine ok_iconst 45 0 dX6_dropDownTo_44 rfl rfl ?_
          refine ok_iconst 46 0 dX6_dropDownTo_45 rfl rfl ?_
          refine ok_iconst 47 0 dX6_dropDownTo_46 rfl rfl ?_
          refine ok_callVi (np := 4) (M' := m_X9_add) (As := [.int r_20, .int 0, .int 0, .int 0]) (st := []) 50 dX6_dropDownTo_47 rfl rfl km_X9_add ki_X9_add kv_X9_add ml_Encores_Reader_71 (by decide) sg_106 rfl (Nat.le_of_ble_eq_true rfl) rfl rfl rfl (Nat.le_of_ble_eq_true rfl) (c_X9_add N (d + 0) 106 r_20 0 0 0 tg_106 m_31) ⟨Nat.le_refl _, Nat.le_refl _⟩ (Or.inl rfl) rfl (fun r_47 m_47 _ => ?_)
          refine ok_pop 51 dX6_dropDownTo_50 rfl rfl ?_
          refine ok_aload_n 52 0 dX6_dropDownTo_51 rfl rfl rfl ?_
          refine ok_getR 55 dX6_dropDownTo_52 rfl rfl F_Encores_Reader_23 sg_103 rfl (Nat.le_of_ble_eq_true rfl) rfl rfl ?_
          refine ok_iload_n 56 2 dX6_dropDownTo_55 rfl rfl rfl ?_
          refine ok_putI 59 dX6_dropDownTo_56 rfl rfl F_Encores_Reader_37 sg_108 rfl (Nat.le_of_ble_eq_true rfl) rfl rfl pZ_9_3 rfl rfl ?_
          refine ok_bndM (fun m_56 => ?_)
          refine ok_aload_n 60 0 dX6_dropDownTo_59 rfl rfl rfl ?_
          refine ok_dup 61 dX6_dropDownTo_60 rfl rfl ?_
          refine ok_getI 64 dX6_dropDownTo_61 rfl rfl F_Encores_Reader_104 sg_103 rfl (Nat.le_of_ble_eq_true rfl) rfl ?_
          refine ok_iload_n 65 3 dX6_dropDownTo_64 rfl rfl rfl ?_
          refine ok_bipush 67 9 dX6_dropDownTo_65 rfl rfl ?_
          refine ok_icmp_ne 74 70 dX6_dropDownTo_67 (by decide) rfl (fun _ => ?_) (fun _ => ?_)
          · refine ok_iconst 75 0 dX6_dropDownTo_74 rfl rfl ?_
            refine ok_isub 76 dX6_dropDownTo_75 rfl ?_
            refine ok_putI 79 dX6_dropDownTo_76 rfl rfl F_Encores_Reader_104 sg_103 rfl (Nat.le_of_ble_eq_true rfl) rfl rfl pZ_6_6 rfl rfl ?_
            refine ok_bndM (fun m_76 => ?_)
            refine ok_iinc 82 2 (-1) [some (.ref 103), some (.int a1), some (.int (s2_10 + (-1))), some (.int r_20)] dX6_dropDownTo_79 rfl rfl rfl (by decide) rfl ?_
            refine ok_goto 10 dX6_dropDownTo_82 (by decide) ?_
            exact ok_less [some (.ref 103), some (.int a1), some (.int (s2_10 + (-1))), none] (And.intro rfl (And.intro rfl (And.intro rfl (trivial)))) (hX (s2_10 + (-1)) m_76)
          · refine ok_iconst 71 1 dX6_dropDownTo_70 rfl rfl ?_
            refine ok_goto 75 dX6_dropDownTo_71 (by decide) ?_
            refine ok_isub 76 dX6_dropDownTo_75 rfl ?_
            refine ok_putI 79 dX6_dropDownTo_76 rfl rfl F_Encores_Reader_104 sg_103 rfl (Nat.le_of_ble_eq_true rfl) rfl rfl pZ_6_6 rfl rfl ?_
            refine ok_bndM (fun m_76 => ?_)
            refine ok_iinc 82 2 (-1) [some (.ref 103), some (.int a1), some (.int (s2_10 + (-1))), some (.int r_20)] dX6_dropDownTo_79 rfl rfl rfl (by decide) rfl ?_
            refine ok_goto 10 dX6_dropDownTo_82 (by decide) ?_
            exact ok_less [some (.ref 103), some (.int a1), some (.int (s2_10 + (-1))), none] (And.intro rfl (And.intro rfl (And.intro rfl (trivial)))) (hX (s2_10 + (-1)) m_76)
        · exact ok_vret dX6_dropDownTo_38 rfl)

set_option maxRecDepth 100000 in
set_option maxHeartbeats 4000000 in
theorem ok_X6_dropDownTo (N d : Nat) (a1 : Int32)  (m : Mem) : Ok SX SG (d + 1) m_X6_dropDownTo 0 [some (.ref 103), some (.int a1), none, none] [] SG m (f_X6_dropDownTo N a1 m) := by
  unfold f_X6_dropDownTo
  refine ok_aload_n 1 0 dX6_dropDownTo_0 rfl rfl rfl ?_
  refine ok_getR 4 dX6_dropDownTo_1 rfl rfl F_Encores_Reader_23 sg_103 rfl (Nat.le_of_ble_eq_true rfl) rfl rfl ?_
  refine ok_getI 7 dX6_dropDownTo_4 rfl rfl F_Encores_Reader_37 sg_108 rfl (Nat.le_of_ble_eq_true rfl) rfl ?_
  refine ok_iconst 8 1 dX6_dropDownTo_7 rfl rfl ?_
  refine ok_isub 9 dX6_dropDownTo_8 rfl ?_
  refine ok_bndI (fun a2_9 => ?_)
  refine ok_istore_n 10 2 [some (.ref 103), some (.int a1), some (.int a2_9), none] dX6_dropDownTo_9 rfl rfl (by decide) rfl ?_
  refine ok_less [some (.ref 103), some (.int a1), some (.int a2_9), none] (And.intro rfl (And.intro rfl (And.intro rfl (trivial)))) ?_
  exact ok_X6_dropDownTo_L10 N d a1    N a2_9 m

theorem c_X6_dropDownTo (N d : Nat) (a1 : Int32)  (m : Mem) : CM SX (d + 1) m_X6_dropDownTo SG SG [.ref 103, .int a1] m (f_X6_dropDownTo N a1 m) :=
  CM.ofOk km_X6_dropDownTo ⟨Nat.le_refl _, Nat.le_refl _⟩ (by simp [Value.category]) (Nat.le_of_ble_eq_true rfl) (ok_X6_dropDownTo N d a1 m)

def f_X6_join (N : Nat) (a1 : Int32) (m : Mem) : Ans :=
bd (f_X6_strength N a1 m) fun r_2 m_2 =>
bd (f_X6_dropDownTo N r_2 m_2) fun _ m_5 =>
bd (f_X9_add N 108 a1 0 0 0 m_5) fun r_16 m_16 =>
bd (f_X10_next N m_16) fun _ m_24 =>
some (0, m_24)

set_option maxRecDepth 100000 in
set_option maxHeartbeats 4000000 in
theorem ok_X6_join (N d : Nat) (a1 : Int32)  (m : Mem) : Ok SX SG (d + 2) m_X6_join 0 [some (.ref 103), some (.int a1)] [] SG m (f_X6_join N a1 m) := by
  unfold f_X6_join
  refine ok_aload_n 1 0 dX6_join_0 rfl rfl rfl ?_
  refine ok_iload_n 2 1 dX6_join_1 rfl rfl rfl ?_
  refine ok_callSi (np := 1) (M' := m_X6_strength) (As := [.int a1]) (st := [.ref 103]) 5 dX6_join_2 rfl rfl km_X6_strength ks_X6_strength ml_Encores_Reader_150 (by decide) rfl rfl (Nat.le_of_ble_eq_true rfl) (c_X6_strength N (d + 1) a1 m) ⟨Nat.le_refl _, Nat.le_refl _⟩ (Or.inl rfl) rfl (fun r_2 m_2 _ => ?_)
  refine ok_callVv (np := 1) (M' := m_X6_dropDownTo) (As := [.int r_2]) (st := []) 8 dX6_join_5 rfl rfl km_X6_dropDownTo ki_X6_dropDownTo kv_X6_dropDownTo ml_Encores_Reader_139 (by decide) sg_103 rfl (Nat.le_of_ble_eq_true rfl) rfl rfl rfl (Nat.le_of_ble_eq_true rfl) (c_X6_dropDownTo N (d + 0) r_2 m_2) ⟨Nat.le_refl _, Nat.le_refl _⟩ (Or.inl rfl) rfl (fun _ m_5 _ => ?_)
  refine ok_aload_n 9 0 dX6_join_8 rfl rfl rfl ?_
  refine ok_getR 12 dX6_join_9 rfl rfl F_Encores_Reader_23 sg_103 rfl (Nat.le_of_ble_eq_true rfl) rfl rfl ?_
  refine ok_iload_n 13 1 dX6_join_12 rfl rfl rfl ?_
  refine ok_iconst 14 0 dX6_join_13 rfl rfl ?_
  refine ok_iconst 15 0 dX6_join_14 rfl rfl ?_
  refine ok_iconst 16 0 dX6_join_15 rfl rfl ?_
  refine ok_callVi (np := 4) (M' := m_X9_add) (As := [.int a1, .int 0, .int 0, .int 0]) (st := []) 19 dX6_join_16 rfl rfl km_X9_add ki_X9_add kv_X9_add ml_Encores_Reader_71 (by decide) sg_108 rfl (Nat.le_of_ble_eq_true rfl) rfl rfl rfl (Nat.le_of_ble_eq_true rfl) (c_X9_add N (d + 1) 108 a1 0 0 0 tg_108 m_5) ⟨Nat.le_refl _, Nat.le_refl _⟩ (Or.inl rfl) rfl (fun r_16 m_16 _ => ?_)
  refine ok_pop 20 dX6_join_19 rfl rfl ?_
  refine ok_aload_n 21 0 dX6_join_20 rfl rfl rfl ?_
  refine ok_getR 24 dX6_join_21 rfl rfl F_Encores_Reader_26 sg_103 rfl (Nat.le_of_ble_eq_true rfl) rfl rfl ?_
  refine ok_callVv (np := 0) (M' := m_X10_next) (As := []) (st := []) 27 dX6_join_24 rfl rfl km_X10_next ki_X10_next kv_X10_next ml_Encores_Reader_75 (by decide) sg_99 rfl (Nat.le_of_ble_eq_true rfl) rfl rfl rfl (Nat.le_of_ble_eq_true rfl) (c_X10_next N (d + 0) m_16) ⟨Nat.le_refl _, Nat.le_refl _⟩ (Or.inl rfl) rfl (fun _ m_24 _ => ?_)
  exact ok_vret dX6_join_27 rfl

theorem c_X6_join (N d : Nat) (a1 : Int32)  (m : Mem) : CM SX (d + 2) m_X6_join SG SG [.ref 103, .int a1] m (f_X6_join N a1 m) :=
  CM.ofOk km_X6_join ⟨Nat.le_refl _, Nat.le_refl _⟩ (by simp [Value.category]) (Nat.le_of_ble_eq_true rfl) (ok_X6_join N d a1 m)

def f_X6_finish (N : Nat)  (m : Mem) : Ans :=
bd (f_X9_put N 104 (m 103 9) 3 (m 106 3) m) fun _ m_16 =>
bd (f_X10_next N m_16) fun _ m_23 =>
some (5, m_23)

set_option maxRecDepth 100000 in
set_option maxHeartbeats 4000000 in
theorem ok_X6_finish (N d : Nat)   (m : Mem) : Ok SX SG (d + 2) m_X6_finish 0 [some (.ref 103)] [] SG m (f_X6_finish N m) := by
  unfold f_X6_finish
  refine ok_aload_n 1 0 dX6_finish_0 rfl rfl rfl ?_
  refine ok_getR 4 dX6_finish_1 rfl rfl F_Encores_Reader_14 sg_103 rfl (Nat.le_of_ble_eq_true rfl) rfl rfl ?_
  refine ok_aload_n 5 0 dX6_finish_4 rfl rfl rfl ?_
  refine ok_getI 8 dX6_finish_5 rfl rfl F_Encores_Reader_68 sg_103 rfl (Nat.le_of_ble_eq_true rfl) rfl ?_
  refine ok_iconst 9 3 dX6_finish_8 rfl rfl ?_
  refine ok_aload_n 10 0 dX6_finish_9 rfl rfl rfl ?_
  refine ok_getR 13 dX6_finish_10 rfl rfl F_Encores_Reader_20 sg_103 rfl (Nat.le_of_ble_eq_true rfl) rfl rfl ?_
  refine ok_getI 16 dX6_finish_13 rfl rfl F_Encores_Reader_37 sg_106 rfl (Nat.le_of_ble_eq_true rfl) rfl ?_
  refine ok_callVv (np := 3) (M' := m_X9_put) (As := [.int (m 103 9), .int 3, .int (m 106 3)]) (st := []) 19 dX6_finish_16 rfl rfl km_X9_put ki_X9_put kv_X9_put ml_Encores_Reader_98 (by decide) sg_104 rfl (Nat.le_of_ble_eq_true rfl) rfl rfl rfl (Nat.le_of_ble_eq_true rfl) (c_X9_put N (d + 1) 104 (m 103 9) 3 (m 106 3) tg_104 m) ⟨Nat.le_refl _, Nat.le_refl _⟩ (Or.inl rfl) rfl (fun _ m_16 _ => ?_)
  refine ok_aload_n 20 0 dX6_finish_19 rfl rfl rfl ?_
  refine ok_getR 23 dX6_finish_20 rfl rfl F_Encores_Reader_26 sg_103 rfl (Nat.le_of_ble_eq_true rfl) rfl rfl ?_
  refine ok_callVv (np := 0) (M' := m_X10_next) (As := []) (st := []) 26 dX6_finish_23 rfl rfl km_X10_next ki_X10_next kv_X10_next ml_Encores_Reader_75 (by decide) sg_99 rfl (Nat.le_of_ble_eq_true rfl) rfl rfl rfl (Nat.le_of_ble_eq_true rfl) (c_X10_next N (d + 0) m_16) ⟨Nat.le_refl _, Nat.le_refl _⟩ (Or.inl rfl) rfl (fun _ m_23 _ => ?_)
  refine ok_iconst 27 5 dX6_finish_26 rfl rfl ?_
  exact ok_iret dX6_finish_27 rfl

theorem c_X6_finish (N d : Nat)   (m : Mem) : CM SX (d + 2) m_X6_finish SG SG [.ref 103] m (f_X6_finish N m) :=
  CM.ofOk km_X6_finish ⟨Nat.le_refl _, Nat.le_refl _⟩ (by simp [Value.category]) (Nat.le_of_ble_eq_true rfl) (ok_X6_finish N d  m)

def f_X6_readBehindUnit_J120 (N : Nat)     (m : Mem) : Ans :=
if (m 99 3) = (59 : Int32) then (if (m 103 8) = 0 then (bd (f_X6_dropDownTo N 0 m) fun _ m_141 =>
bd (f_X9_put N 104 (m_141 103 9) 2 (m_141 106 3) m_141) fun _ m_160 =>
bd (f_X6_finish N m_160) fun r_164 m_164 =>
some (r_164, m_164))
else (if (m 103 8) = (2 : Int32) then (some (4, m))
else (bd (f_X6_failed N 1 m) fun r_182 m_182 =>
some (r_182, m_182))))
else (if (m 103 8) = (2 : Int32) then (some (4, m))
else (bd (f_X6_failed N 1 m) fun r_182 m_182 =>
some (r_182, m_182)))

def f_X6_readBehindUnit_J67 (N : Nat)     (m : Mem) : Ans :=
if (m 99 3) = (259 : Int32) then (if (m 103 8) = 0 then (bd (f_X6_dropDownTo N 0 m) fun _ m_89 =>
bd (f_X9_put N 104 (m_89 103 9) 2 (m_89 106 3) m_89) fun _ m_108 =>
bd (f_X10_next N m_108) fun _ m_115 =>
some (0, m_115))
else (f_X6_readBehindUnit_J120 N m))
else (f_X6_readBehindUnit_J120 N m)

def f_X6_readBehindUnit (N : Nat)  (m : Mem) : Ans :=
bd (f_X6_opOf N (m 99 3) m) fun r_7 m_7 =>
bd (f_X11_within N r_7 2 5 m_7) fun r_14 m_14 =>
if r_14 = 0 then (bd (f_X11_within N r_7 6 8 m_14) fun r_41 m_41 =>
if r_41 = 0 then (f_X6_readBehindUnit_J67 N m_41)
else (if (m_41 103 8) = (1 : Int32) then (bnd (mset m_41 103 8 2) fun m_57 =>
bd (f_X6_join N r_7 m_57) fun _ m_62 =>
some (1, m_62))
else (f_X6_readBehindUnit_J67 N m_41)))
else (bd (f_X6_join N r_7 m_14) fun _ m_22 =>
if r_7 = (3 : Int32) then (some (2, m_22))
else (some (1, m_22)))

set_option maxRecDepth 100000 in
set_option maxHeartbeats 4000000 in
theorem ok_X6_readBehindUnit_J120 (N d : Nat)      (m : Mem) : Ok SX SG (d + 3) m_X6_readBehindUnit 120 [some (.ref 103), none] [] SG m (f_X6_readBehindUnit_J120 N m) := by
  unfold f_X6_readBehindUnit_J120
  refine ok_aload_n 121 0 dX6_readBehindUnit_120 rfl rfl rfl ?_
  refine ok_getR 124 dX6_readBehindUnit_121 rfl rfl F_Encores_Reader_26 sg_103 rfl (Nat.le_of_ble_eq_true rfl) rfl rfl ?_
  refine ok_getI 127 dX6_readBehindUnit_124 rfl rfl F_Encores_Reader_54 sg_99 rfl (Nat.le_of_ble_eq_true rfl) rfl ?_
  refine ok_bipush 129 59 dX6_readBehindUnit_127 rfl rfl ?_
  refine ok_icmp_ne 168 132 dX6_readBehindUnit_129 (by decide) rfl (fun _ => ?_) (fun _ => ?_)
  · refine ok_aload_n 169 0 dX6_readBehindUnit_168 rfl rfl rfl ?_
    refine ok_getI 172 dX6_readBehindUnit_169 rfl rfl F_Encores_Reader_110 sg_103 rfl (Nat.le_of_ble_eq_true rfl) rfl ?_
    refine ok_iconst 173 2 dX6_readBehindUnit_172 rfl rfl ?_
    refine ok_icmp_ne 180 176 dX6_readBehindUnit_173 (by decide) rfl (fun _ => ?_) (fun _ => ?_)
    · refine ok_aload_n 181 0 dX6_readBehindUnit_180 rfl rfl rfl ?_
      refine ok_iconst 182 1 dX6_readBehindUnit_181 rfl rfl ?_
      refine ok_callVi (np := 1) (M' := m_X6_failed) (As := [.int 1]) (st := []) 185 dX6_readBehindUnit_182 rfl rfl km_X6_failed ki_X6_failed kv_X6_failed ml_Encores_Reader_129 (by decide) sg_103 rfl (Nat.le_of_ble_eq_true rfl) rfl rfl rfl (Nat.le_of_ble_eq_true rfl) (c_X6_failed N (d + 1) 1 m) ⟨Nat.le_refl _, Nat.le_refl _⟩ (Or.inl rfl) rfl (fun r_182 m_182 _ => ?_)
      exact ok_iret dX6_readBehindUnit_185 rfl
    · refine ok_iconst 177 4 dX6_readBehindUnit_176 rfl rfl ?_
      refine ok_goto 185 dX6_readBehindUnit_177 (by decide) ?_
      exact ok_iret dX6_readBehindUnit_185 rfl
  · refine ok_aload_n 133 0 dX6_readBehindUnit_132 rfl rfl rfl ?_
    refine ok_getI 136 dX6_readBehindUnit_133 rfl rfl F_Encores_Reader_110 sg_103 rfl (Nat.le_of_ble_eq_true rfl) rfl ?_
    refine ok_if_ne 168 139 dX6_readBehindUnit_136 (by decide) rfl (fun _ => ?_) (fun _ => ?_)
    · refine ok_aload_n 169 0 dX6_readBehindUnit_168 rfl rfl rfl ?_
      refine ok_getI 172 dX6_readBehindUnit_169 rfl rfl F_Encores_Reader_110 sg_103 rfl (Nat.le_of_ble_eq_true rfl) rfl ?_
      refine ok_iconst 173 2 dX6_readBehindUnit_172 rfl rfl ?_
      refine ok_icmp_ne 180 176 dX6_readBehindUnit_173 (by decide) rfl (fun _ => ?_) (fun _ => ?_)
      · refine ok_aload_n 181 0 dX6_readBehindUnit_180 rfl rfl rfl ?_
        refine ok_iconst 182 1 dX6_readBehindUnit_181 rfl rfl ?_
        refine ok_callVi (np := 1) (M' := m_X6_failed) (As := [.int 1]) (st := []) 185 dX6_readBehindUnit_182 rfl rfl km_X6_failed ki_X6_failed kv_X6_failed ml_Encores_Reader_129 (by decide) sg_103 rfl (Nat.le_of_ble_eq_true rfl) rfl rfl rfl (Nat.le_of_ble_eq_true rfl) (c_X6_failed N (d + 1) 1 m) ⟨Nat.le_refl _, Nat.le_refl _⟩ (Or.inl rfl) rfl (fun r_182 m_182 _ => ?_)
        exact ok_iret dX6_readBehindUnit_185 rfl
      · refine ok_iconst 177 4 dX6_readBehindUnit_176 rfl rfl ?_
        refine ok_goto 185 dX6_readBehindUnit_177 (by decide) ?_
        exact ok_iret dX6_readBehindUnit_185 rfl
    · refine ok_aload_n 140 0 dX6_readBehindUnit_139 rfl rfl rfl ?_
      refine ok_iconst 141 0 dX6_readBehindUnit_140 rfl rfl ?_
      refine ok_callVv (np := 1) (M' := m_X6_dropDownTo) (As := [.int 0]) (st := []) 144 dX6_readBehindUnit_141 rfl rfl km_X6_dropDownTo ki_X6_dropDownTo kv_X6_dropDownTo ml_Encores_Reader_139 (by decide) sg_103 rfl (Nat.le_of_ble_eq_true rfl) rfl rfl rfl (Nat.le_of_ble_eq_true rfl) (c_X6_dropDownTo N (d + 1) 0 m) ⟨Nat.le_refl _, Nat.le_refl _⟩ (Or.inl rfl) rfl (fun _ m_141 _ => ?_)
      refine ok_aload_n 145 0 dX6_readBehindUnit_144 rfl rfl rfl ?_
      refine ok_getR 148 dX6_readBehindUnit_145 rfl rfl F_Encores_Reader_14 sg_103 rfl (Nat.le_of_ble_eq_true rfl) rfl rfl ?_
      refine ok_aload_n 149 0 dX6_readBehindUnit_148 rfl rfl rfl ?_
      refine ok_getI 152 dX6_readBehindUnit_149 rfl rfl F_Encores_Reader_68 sg_103 rfl (Nat.le_of_ble_eq_true rfl) rfl ?_
      refine ok_iconst 153 2 dX6_readBehindUnit_152 rfl rfl ?_
      refine ok_aload_n 154 0 dX6_readBehindUnit_153 rfl rfl rfl ?_
      refine ok_getR 157 dX6_readBehindUnit_154 rfl rfl F_Encores_Reader_20 sg_103 rfl (Nat.le_of_ble_eq_true rfl) rfl rfl ?_
      refine ok_getI 160 dX6_readBehindUnit_157 rfl rfl F_Encores_Reader_37 sg_106 rfl (Nat.le_of_ble_eq_true rfl) rfl ?_
      refine ok_callVv (np := 3) (M' := m_X9_put) (As := [.int (m_141 103 9), .int 2, .int (m_141 106 3)]) (st := []) 163 dX6_readBehindUnit_160 rfl rfl km_X9_put ki_X9_put kv_X9_put ml_Encores_Reader_98 (by decide) sg_104 rfl (Nat.le_of_ble_eq_true rfl) rfl rfl rfl (Nat.le_of_ble_eq_true rfl) (c_X9_put N (d + 2) 104 (m_141 103 9) 2 (m_141 106 3) tg_104 m_141) ⟨Nat.le_refl _, Nat.le_refl _⟩ (Or.inl rfl) rfl (fun _ m_160 _ => ?_)
      refine ok_aload_n 164 0 dX6_readBehindUnit_163 rfl rfl rfl ?_
      refine ok_callVi (np := 0) (M' := m_X6_finish) (As := []) (st := []) 167 dX6_readBehindUnit_164 rfl rfl km_X6_finish ki_X6_finish kv_X6_finish ml_Encores_Reader_142 (by decide) sg_103 rfl (Nat.le_of_ble_eq_true rfl) rfl rfl rfl (Nat.le_of_ble_eq_true rfl) (c_X6_finish N (d + 0) m_160) ⟨Nat.le_refl _, Nat.le_refl _⟩ (Or.inl rfl) rfl (fun r_164 m_164 _ => ?_)
      exact ok_iret dX6_readBehindUnit_167 rfl

set_option maxRecDepth 100000 in
set_option maxHeartbeats 4000000 in
theorem ok_X6_readBehindUnit_J67 (N d : Nat)      (m : Mem) : Ok SX SG (d + 3) m_X6_readBehindUnit 67 [some (.ref 103), none] [] SG m (f_X6_readBehindUnit_J67 N m) := by
  unfold f_X6_readBehindUnit_J67
  refine ok_aload_n 68 0 dX6_readBehindUnit_67 rfl rfl rfl ?_
  refine ok_getR 71 dX6_readBehindUnit_68 rfl rfl F_Encores_Reader_26 sg_103 rfl (Nat.le_of_ble_eq_true rfl) rfl rfl ?_
  refine ok_getI 74 dX6_readBehindUnit_71 rfl rfl F_Encores_Reader_54 sg_99 rfl (Nat.le_of_ble_eq_true rfl) rfl ?_
  refine ok_sipush 77 259 dX6_readBehindUnit_74 rfl rfl ?_
  refine ok_icmp_ne 120 80 dX6_readBehindUnit_77 (by decide) rfl (fun _ => ?_) (fun _ => ?_)
  · exact ok_less [some (.ref 103), none] (And.intro rfl (trivial)) (ok_X6_readBehindUnit_J120 N d    m)
  · refine ok_aload_n 81 0 dX6_readBehindUnit_80 rfl rfl rfl ?_
    refine ok_getI 84 dX6_readBehindUnit_81 rfl rfl F_Encores_Reader_110 sg_103 rfl (Nat.le_of_ble_eq_true rfl) rfl ?_
    refine ok_if_ne 120 87 dX6_readBehindUnit_84 (by decide) rfl (fun _ => ?_) (fun _ => ?_)
    · exact ok_less [some (.ref 103), none] (And.intro rfl (trivial)) (ok_X6_readBehindUnit_J120 N d    m)
    · refine ok_aload_n 88 0 dX6_readBehindUnit_87 rfl rfl rfl ?_
      refine ok_iconst 89 0 dX6_readBehindUnit_88 rfl rfl ?_
      refine ok_callVv (np := 1) (M' := m_X6_dropDownTo) (As := [.int 0]) (st := []) 92 dX6_readBehindUnit_89 rfl rfl km_X6_dropDownTo ki_X6_dropDownTo kv_X6_dropDownTo ml_Encores_Reader_139 (by decide) sg_103 rfl (Nat.le_of_ble_eq_true rfl) rfl rfl rfl (Nat.le_of_ble_eq_true rfl) (c_X6_dropDownTo N (d + 1) 0 m) ⟨Nat.le_refl _, Nat.le_refl _⟩ (Or.inl rfl) rfl (fun _ m_89 _ => ?_)
      refine ok_aload_n 93 0 dX6_readBehindUnit_92 rfl rfl rfl ?_
      refine ok_getR 96 dX6_readBehindUnit_93 rfl rfl F_Encores_Reader_14 sg_103 rfl (Nat.le_of_ble_eq_true rfl) rfl rfl ?_
      refine ok_aload_n 97 0 dX6_readBehindUnit_96 rfl rfl rfl ?_
      refine ok_getI 100 dX6_readBehindUnit_97 rfl rfl F_Encores_Reader_68 sg_103 rfl (Nat.le_of_ble_eq_true rfl) rfl ?_
      refine ok_iconst 101 2 dX6_readBehindUnit_100 rfl rfl ?_
      refine ok_aload_n 102 0 dX6_readBehindUnit_101 rfl rfl rfl ?_
      refine ok_getR 105 dX6_readBehindUnit_102 rfl rfl F_Encores_Reader_20 sg_103 rfl (Nat.le_of_ble_eq_true rfl) rfl rfl ?_
      refine ok_getI 108 dX6_readBehindUnit_105 rfl rfl F_Encores_Reader_37 sg_106 rfl (Nat.le_of_ble_eq_true rfl) rfl ?_
      refine ok_callVv (np := 3) (M' := m_X9_put) (As := [.int (m_89 103 9), .int 2, .int (m_89 106 3)]) (st := []) 111 dX6_readBehindUnit_108 rfl rfl km_X9_put ki_X9_put kv_X9_put ml_Encores_Reader_98 (by decide) sg_104 rfl (Nat.le_of_ble_eq_true rfl) rfl rfl rfl (Nat.le_of_ble_eq_true rfl) (c_X9_put N (d + 2) 104 (m_89 103 9) 2 (m_89 106 3) tg_104 m_89) ⟨Nat.le_refl _, Nat.le_refl _⟩ (Or.inl rfl) rfl (fun _ m_108 _ => ?_)
      refine ok_aload_n 112 0 dX6_readBehindUnit_111 rfl rfl rfl ?_
      refine ok_getR 115 dX6_readBehindUnit_112 rfl rfl F_Encores_Reader_26 sg_103 rfl (Nat.le_of_ble_eq_true rfl) rfl rfl ?_
      refine ok_callVv (np := 0) (M' := m_X10_next) (As := []) (st := []) 118 dX6_readBehindUnit_115 rfl rfl km_X10_next ki_X10_next kv_X10_next ml_Encores_Reader_75 (by decide) sg_99 rfl (Nat.le_of_ble_eq_true rfl) rfl rfl rfl (Nat.le_of_ble_eq_true rfl) (c_X10_next N (d + 1) m_108) ⟨Nat.le_refl _, Nat.le_refl _⟩ (Or.inl rfl) rfl (fun _ m_115 _ => ?_)
      refine ok_iconst 119 0 dX6_readBehindUnit_118 rfl rfl ?_
      exact ok_iret dX6_readBehindUnit_119 rfl

set_option maxRecDepth 100000 in
set_option maxHeartbeats 4000000 in
theorem ok_X6_readBehindUnit (N d : Nat)   (m : Mem) : Ok SX SG (d + 3) m_X6_readBehindUnit 0 [some (.ref 103), none] [] SG m (f_X6_readBehindUnit N m) := by
  unfold f_X6_readBehindUnit
  refine ok_aload_n 1 0 dX6_readBehindUnit_0 rfl rfl rfl ?_
  refine ok_getR 4 dX6_readBehindUnit_1 rfl rfl F_Encores_Reader_26 sg_103 rfl (Nat.le_of_ble_eq_true rfl) rfl rfl ?_
  refine ok_getI 7 dX6_readBehindUnit_4 rfl rfl F_Encores_Reader_54 sg_99 rfl (Nat.le_of_ble_eq_true rfl) rfl ?_
  refine ok_callSi (np := 1) (M' := m_X6_opOf) (As := [.int (m 99 3)]) (st := []) 10 dX6_readBehindUnit_7 rfl rfl km_X6_opOf ks_X6_opOf ml_Encores_Reader_133 (by decide) rfl rfl (Nat.le_of_ble_eq_true rfl) (c_X6_opOf N (d + 2) (m 99 3) m) ⟨Nat.le_refl _, Nat.le_refl _⟩ (Or.inl rfl) rfl (fun r_7 m_7 _ => ?_)
  refine ok_istore_n 11 1 [some (.ref 103), some (.int r_7)] dX6_readBehindUnit_10 rfl rfl (by decide) rfl ?_
  refine ok_iload_n 12 1 dX6_readBehindUnit_11 rfl rfl rfl ?_
  refine ok_iconst 13 2 dX6_readBehindUnit_12 rfl rfl ?_
  refine ok_iconst 14 5 dX6_readBehindUnit_13 rfl rfl ?_
  refine ok_callSNi (np := 3) (M' := m_X11_within) (As := [.int r_7, .int 2, .int 5]) (st := []) 17 3 dX6_readBehindUnit_14 rfl rfl km_X11_within ks_X11_within rfl (by decide) rfl rfl (Nat.le_of_ble_eq_true rfl) (c_X11_within N (d + 2) r_7 2 5 m_7) ⟨Nat.le_refl _, Nat.le_refl _⟩ (Or.inl rfl) rfl (fun r_14 m_14 _ => ?_)
  refine ok_if_eq 36 20 dX6_readBehindUnit_17 (by decide) rfl (fun _ => ?_) (fun _ => ?_)
  · refine ok_iload_n 37 1 dX6_readBehindUnit_36 rfl rfl rfl ?_
    refine ok_bipush 39 6 dX6_readBehindUnit_37 rfl rfl ?_
    refine ok_bipush 41 8 dX6_readBehindUnit_39 rfl rfl ?_
    refine ok_callSNi (np := 3) (M' := m_X11_within) (As := [.int r_7, .int 6, .int 8]) (st := []) 44 3 dX6_readBehindUnit_41 rfl rfl km_X11_within ks_X11_within rfl (by decide) rfl rfl (Nat.le_of_ble_eq_true rfl) (c_X11_within N (d + 2) r_7 6 8 m_14) ⟨Nat.le_refl _, Nat.le_refl _⟩ (Or.inl rfl) rfl (fun r_41 m_41 _ => ?_)
    refine ok_if_eq 67 47 dX6_readBehindUnit_44 (by decide) rfl (fun _ => ?_) (fun _ => ?_)
    · exact ok_less [some (.ref 103), none] (And.intro rfl (trivial)) (ok_X6_readBehindUnit_J67 N d    m_41)
    · refine ok_aload_n 48 0 dX6_readBehindUnit_47 rfl rfl rfl ?_
      refine ok_getI 51 dX6_readBehindUnit_48 rfl rfl F_Encores_Reader_110 sg_103 rfl (Nat.le_of_ble_eq_true rfl) rfl ?_
      refine ok_iconst 52 1 dX6_readBehindUnit_51 rfl rfl ?_
      refine ok_icmp_ne 67 55 dX6_readBehindUnit_52 (by decide) rfl (fun _ => ?_) (fun _ => ?_)
      · exact ok_less [some (.ref 103), none] (And.intro rfl (trivial)) (ok_X6_readBehindUnit_J67 N d    m_41)
      · refine ok_aload_n 56 0 dX6_readBehindUnit_55 rfl rfl rfl ?_
        refine ok_iconst 57 2 dX6_readBehindUnit_56 rfl rfl ?_
        refine ok_putI 60 dX6_readBehindUnit_57 rfl rfl F_Encores_Reader_110 sg_103 rfl (Nat.le_of_ble_eq_true rfl) rfl rfl pZ_6_8 rfl rfl ?_
        refine ok_bndM (fun m_57 => ?_)
        refine ok_aload_n 61 0 dX6_readBehindUnit_60 rfl rfl rfl ?_
        refine ok_iload_n 62 1 dX6_readBehindUnit_61 rfl rfl rfl ?_
        refine ok_callVv (np := 1) (M' := m_X6_join) (As := [.int r_7]) (st := []) 65 dX6_readBehindUnit_62 rfl rfl km_X6_join ki_X6_join kv_X6_join ml_Encores_Reader_136 (by decide) sg_103 rfl (Nat.le_of_ble_eq_true rfl) rfl rfl rfl (Nat.le_of_ble_eq_true rfl) (c_X6_join N (d + 0) r_7 m_57) ⟨Nat.le_refl _, Nat.le_refl _⟩ (Or.inl rfl) rfl (fun _ m_62 _ => ?_)
        refine ok_iconst 66 1 dX6_readBehindUnit_65 rfl rfl ?_
        exact ok_iret dX6_readBehindUnit_66 rfl
  · refine ok_aload_n 21 0 dX6_readBehindUnit_20 rfl rfl rfl ?_
    refine ok_iload_n 22 1 dX6_readBehindUnit_21 rfl rfl rfl ?_
    refine ok_callVv (np := 1) (M' := m_X6_join) (As := [.int r_7]) (st := []) 25 dX6_readBehindUnit_22 rfl rfl km_X6_join ki_X6_join kv_X6_join ml_Encores_Reader_136 (by decide) sg_103 rfl (Nat.le_of_ble_eq_true rfl) rfl rfl rfl (Nat.le_of_ble_eq_true rfl) (c_X6_join N (d + 0) r_7 m_14) ⟨Nat.le_refl _, Nat.le_refl _⟩ (Or.inl rfl) rfl (fun _ m_22 _ => ?_)
    refine ok_iload_n 26 1 dX6_readBehindUnit_25 rfl rfl rfl ?_
    refine ok_iconst 27 3 dX6_readBehindUnit_26 rfl rfl ?_
    refine ok_icmp_ne 34 30 dX6_readBehindUnit_27 (by decide) rfl (fun _ => ?_) (fun _ => ?_)
    · refine ok_iconst 35 1 dX6_readBehindUnit_34 rfl rfl ?_
      exact ok_iret dX6_readBehindUnit_35 rfl
    · refine ok_iconst 31 2 dX6_readBehindUnit_30 rfl rfl ?_
      refine ok_goto 35 dX6_readBehindUnit_31 (by decide) ?_
      exact ok_iret dX6_readBehindUnit_35 rfl

theorem c_X6_readBehindUnit (N d : Nat)   (m : Mem) : CM SX (d + 3) m_X6_readBehindUnit SG SG [.ref 103] m (f_X6_readBehindUnit N m) :=
  CM.ofOk km_X6_readBehindUnit ⟨Nat.le_refl _, Nat.le_refl _⟩ (by simp [Value.category]) (Nat.le_of_ble_eq_true rfl) (ok_X6_readBehindUnit N d  m)

def f_X6_readBehindCondition_J103 (N : Nat)     (m : Mem) : Ans :=
if (m 99 3) = (59 : Int32) then (if (m 103 7) = 0 then (bd (f_X6_dropDownTo N 0 m) fun _ m_124 =>
bd (f_X6_finish N m_124) fun r_128 m_128 =>
some (r_128, m_128))
else (bd (f_X6_failed N 1 m) fun r_134 m_134 =>
some (r_134, m_134)))
else (bd (f_X6_failed N 1 m) fun r_134 m_134 =>
some (r_134, m_134))

def f_X6_readBehindCondition (N : Nat)  (m : Mem) : Ans :=
bd (f_X6_opOf N (m 99 3) m) fun r_7 m_7 =>
if r_7 = (10 : Int32) then (bd (f_X6_join N r_7 m_7) fun _ m_25 =>
some (0, m_25))
else (if r_7 = (11 : Int32) then (bd (f_X6_join N r_7 m_7) fun _ m_25 =>
some (0, m_25))
else (if (m_7 99 3) = (41 : Int32) then (if (m_7 103 7) ≤ 0 then (f_X6_readBehindCondition_J103 N m_7)
else (bd (f_X6_dropDownTo N 0 m_7) fun _ m_51 =>
bnd (mset m_51 108 3 (if (0 : Int32) < ((m_51 108 3) - (1 : Int32)) then ((m_51 108 3) - (1 : Int32)) else (0 : Int32))) fun m_71 =>
bnd (mset m_71 103 6 ((m_71 103 6) - (1 : Int32))) fun m_81 =>
bnd (mset m_81 103 7 ((m_81 103 7) - (1 : Int32))) fun m_91 =>
bd (f_X10_next N m_91) fun _ m_98 =>
some (4, m_98)))
else (f_X6_readBehindCondition_J103 N m_7)))

set_option maxRecDepth 100000 in
set_option maxHeartbeats 4000000 in
theorem ok_X6_readBehindCondition_J103 (N d : Nat)      (m : Mem) : Ok SX SG (d + 3) m_X6_readBehindCondition 103 [some (.ref 103), none] [] SG m (f_X6_readBehindCondition_J103 N m) := by
  unfold f_X6_readBehindCondition_J103
  refine ok_aload_n 104 0 dX6_readBehindCondition_103 rfl rfl rfl ?_
  refine ok_getR 107 dX6_readBehindCondition_104 rfl rfl F_Encores_Reader_26 sg_103 rfl (Nat.le_of_ble_eq_true rfl) rfl rfl ?_
  refine ok_getI 110 dX6_readBehindCondition_107 rfl rfl F_Encores_Reader_54 sg_99 rfl (Nat.le_of_ble_eq_true rfl) rfl ?_
  refine ok_bipush 112 59 dX6_readBehindCondition_110 rfl rfl ?_
  refine ok_icmp_ne 132 115 dX6_readBehindCondition_112 (by decide) rfl (fun _ => ?_) (fun _ => ?_)
  · refine ok_aload_n 133 0 dX6_readBehindCondition_132 rfl rfl rfl ?_
    refine ok_iconst 134 1 dX6_readBehindCondition_133 rfl rfl ?_
    refine ok_callVi (np := 1) (M' := m_X6_failed) (As := [.int 1]) (st := []) 137 dX6_readBehindCondition_134 rfl rfl km_X6_failed ki_X6_failed kv_X6_failed ml_Encores_Reader_129 (by decide) sg_103 rfl (Nat.le_of_ble_eq_true rfl) rfl rfl rfl (Nat.le_of_ble_eq_true rfl) (c_X6_failed N (d + 1) 1 m) ⟨Nat.le_refl _, Nat.le_refl _⟩ (Or.inl rfl) rfl (fun r_134 m_134 _ => ?_)
    exact ok_iret dX6_readBehindCondition_137 rfl
  · refine ok_aload_n 116 0 dX6_readBehindCondition_115 rfl rfl rfl ?_
    refine ok_getI 119 dX6_readBehindCondition_116 rfl rfl F_Encores_Reader_107 sg_103 rfl (Nat.le_of_ble_eq_true rfl) rfl ?_
    refine ok_if_ne 132 122 dX6_readBehindCondition_119 (by decide) rfl (fun _ => ?_) (fun _ => ?_)
    · refine ok_aload_n 133 0 dX6_readBehindCondition_132 rfl rfl rfl ?_
      refine ok_iconst 134 1 dX6_readBehindCondition_133 rfl rfl ?_
      refine ok_callVi (np := 1) (M' := m_X6_failed) (As := [.int 1]) (st := []) 137 dX6_readBehindCondition_134 rfl rfl km_X6_failed ki_X6_failed kv_X6_failed ml_Encores_Reader_129 (by decide) sg_103 rfl (Nat.le_of_ble_eq_true rfl) rfl rfl rfl (Nat.le_of_ble_eq_true rfl) (c_X6_failed N (d + 1) 1 m) ⟨Nat.le_refl _, Nat.le_refl _⟩ (Or.inl rfl) rfl (fun r_134 m_134 _ => ?_)
      exact ok_iret dX6_readBehindCondition_137 rfl
    · refine ok_aload_n 123 0 dX6_readBehindCondition_122 rfl rfl rfl ?_
      refine ok_iconst 124 0 dX6_readBehindCondition_123 rfl rfl ?_
      refine ok_callVv (np := 1) (M' := m_X6_dropDownTo) (As := [.int 0]) (st := []) 127 dX6_readBehindCondition_124 rfl rfl km_X6_dropDownTo ki_X6_dropDownTo kv_X6_dropDownTo ml_Encores_Reader_139 (by decide) sg_103 rfl (Nat.le_of_ble_eq_true rfl) rfl rfl rfl (Nat.le_of_ble_eq_true rfl) (c_X6_dropDownTo N (d + 1) 0 m) ⟨Nat.le_refl _, Nat.le_refl _⟩ (Or.inl rfl) rfl (fun _ m_124 _ => ?_)
      refine ok_aload_n 128 0 dX6_readBehindCondition_127 rfl rfl rfl ?_
      refine ok_callVi (np := 0) (M' := m_X6_finish) (As := []) (st := []) 131 dX6_readBehindCondition_128 rfl rfl km_X6_finish ki_X6_finish kv_X6_finish ml_Encores_Reader_142 (by decide) sg_103 rfl (Nat.le_of_ble_eq_true rfl) rfl rfl rfl (Nat.le_of_ble_eq_true rfl) (c_X6_finish N (d + 0) m_124) ⟨Nat.le_refl _, Nat.le_refl _⟩ (Or.inl rfl) rfl (fun r_128 m_128 _ => ?_)
      exact ok_iret dX6_readBehindCondition_131 rfl

set_option maxRecDepth 100000 in
set_option maxHeartbeats 4000000 in
theorem ok_X6_readBehindCondition (N d : Nat)   (m : Mem) : Ok SX SG (d + 3) m_X6_readBehindCondition 0 [some (.ref 103), none] [] SG m (f_X6_readBehindCondition N m) := by
  unfold f_X6_readBehindCondition
  refine ok_aload_n 1 0 dX6_readBehindCondition_0 rfl rfl rfl ?_
  refine ok_getR 4 dX6_readBehindCondition_1 rfl rfl F_Encores_Reader_26 sg_103 rfl (Nat.le_of_ble_eq_true rfl) rfl rfl ?_
  refine ok_getI 7 dX6_readBehindCondition_4 rfl rfl F_Encores_Reader_54 sg_99 rfl (Nat.le_of_ble_eq_true rfl) rfl ?_
  refine ok_callSi (np := 1) (M' := m_X6_opOf) (As := [.int (m 99 3)]) (st := []) 10 dX6_readBehindCondition_7 rfl rfl km_X6_opOf ks_X6_opOf ml_Encores_Reader_133 (by decide) rfl rfl (Nat.le_of_ble_eq_true rfl) (c_X6_opOf N (d + 2) (m 99 3) m) ⟨Nat.le_refl _, Nat.le_refl _⟩ (Or.inl rfl) rfl (fun r_7 m_7 _ => ?_)
  refine ok_istore_n 11 1 [some (.ref 103), some (.int r_7)] dX6_readBehindCondition_10 rfl rfl (by decide) rfl ?_
  refine ok_iload_n 12 1 dX6_readBehindCondition_11 rfl rfl rfl ?_
  refine ok_bipush 14 10 dX6_readBehindCondition_12 rfl rfl ?_
  refine ok_icmp_eq 23 17 dX6_readBehindCondition_14 (by decide) rfl (fun _ => ?_) (fun _ => ?_)
  · refine ok_aload_n 24 0 dX6_readBehindCondition_23 rfl rfl rfl ?_
    refine ok_iload_n 25 1 dX6_readBehindCondition_24 rfl rfl rfl ?_
    refine ok_callVv (np := 1) (M' := m_X6_join) (As := [.int r_7]) (st := []) 28 dX6_readBehindCondition_25 rfl rfl km_X6_join ki_X6_join kv_X6_join ml_Encores_Reader_136 (by decide) sg_103 rfl (Nat.le_of_ble_eq_true rfl) rfl rfl rfl (Nat.le_of_ble_eq_true rfl) (c_X6_join N (d + 0) r_7 m_7) ⟨Nat.le_refl _, Nat.le_refl _⟩ (Or.inl rfl) rfl (fun _ m_25 _ => ?_)
    refine ok_iconst 29 0 dX6_readBehindCondition_28 rfl rfl ?_
    exact ok_iret dX6_readBehindCondition_29 rfl
  · refine ok_iload_n 18 1 dX6_readBehindCondition_17 rfl rfl rfl ?_
    refine ok_bipush 20 11 dX6_readBehindCondition_18 rfl rfl ?_
    refine ok_icmp_ne 30 23 dX6_readBehindCondition_20 (by decide) rfl (fun _ => ?_) (fun _ => ?_)
    · refine ok_aload_n 31 0 dX6_readBehindCondition_30 rfl rfl rfl ?_
      refine ok_getR 34 dX6_readBehindCondition_31 rfl rfl F_Encores_Reader_26 sg_103 rfl (Nat.le_of_ble_eq_true rfl) rfl rfl ?_
      refine ok_getI 37 dX6_readBehindCondition_34 rfl rfl F_Encores_Reader_54 sg_99 rfl (Nat.le_of_ble_eq_true rfl) rfl ?_
      refine ok_bipush 39 41 dX6_readBehindCondition_37 rfl rfl ?_
      refine ok_icmp_ne 103 42 dX6_readBehindCondition_39 (by decide) rfl (fun _ => ?_) (fun _ => ?_)
      · exact ok_less [some (.ref 103), none] (And.intro rfl (trivial)) (ok_X6_readBehindCondition_J103 N d    m_7)
      · refine ok_aload_n 43 0 dX6_readBehindCondition_42 rfl rfl rfl ?_
        refine ok_getI 46 dX6_readBehindCondition_43 rfl rfl F_Encores_Reader_107 sg_103 rfl (Nat.le_of_ble_eq_true rfl) rfl ?_
        refine ok_if_le 103 49 dX6_readBehindCondition_46 (by decide) rfl (fun _ => ?_) (fun _ => ?_)
        · exact ok_less [some (.ref 103), none] (And.intro rfl (trivial)) (ok_X6_readBehindCondition_J103 N d    m_7)
        · refine ok_aload_n 50 0 dX6_readBehindCondition_49 rfl rfl rfl ?_
          refine ok_iconst 51 0 dX6_readBehindCondition_50 rfl rfl ?_
          refine ok_callVv (np := 1) (M' := m_X6_dropDownTo) (As := [.int 0]) (st := []) 54 dX6_readBehindCondition_51 rfl rfl km_X6_dropDownTo ki_X6_dropDownTo kv_X6_dropDownTo ml_Encores_Reader_139 (by decide) sg_103 rfl (Nat.le_of_ble_eq_true rfl) rfl rfl rfl (Nat.le_of_ble_eq_true rfl) (c_X6_dropDownTo N (d + 1) 0 m_7) ⟨Nat.le_refl _, Nat.le_refl _⟩ (Or.inl rfl) rfl (fun _ m_51 _ => ?_)
          refine ok_aload_n 55 0 dX6_readBehindCondition_54 rfl rfl rfl ?_
          refine ok_getR 58 dX6_readBehindCondition_55 rfl rfl F_Encores_Reader_23 sg_103 rfl (Nat.le_of_ble_eq_true rfl) rfl rfl ?_
          refine ok_iconst 59 0 dX6_readBehindCondition_58 rfl rfl ?_
          refine ok_aload_n 60 0 dX6_readBehindCondition_59 rfl rfl rfl ?_
          refine ok_getR 63 dX6_readBehindCondition_60 rfl rfl F_Encores_Reader_23 sg_103 rfl (Nat.le_of_ble_eq_true rfl) rfl rfl ?_
          refine ok_getI 66 dX6_readBehindCondition_63 rfl rfl F_Encores_Reader_37 sg_108 rfl (Nat.le_of_ble_eq_true rfl) rfl ?_
          refine ok_iconst 67 1 dX6_readBehindCondition_66 rfl rfl ?_
          refine ok_isub 68 dX6_readBehindCondition_67 rfl ?_
          refine ok_max 71 ⟨Nat.le_refl _, Nat.le_refl _⟩ dX6_readBehindCondition_68 rfl rfl ml_Encores_Reader_145 (Nat.le_of_ble_eq_true rfl) ?_
          refine ok_putI 74 dX6_readBehindCondition_71 rfl rfl F_Encores_Reader_37 sg_108 rfl (Nat.le_of_ble_eq_true rfl) rfl rfl pZ_9_3 rfl rfl ?_
          refine ok_bndM (fun m_71 => ?_)
          refine ok_aload_n 75 0 dX6_readBehindCondition_74 rfl rfl rfl ?_
          refine ok_dup 76 dX6_readBehindCondition_75 rfl rfl ?_
          refine ok_getI 79 dX6_readBehindCondition_76 rfl rfl F_Encores_Reader_104 sg_103 rfl (Nat.le_of_ble_eq_true rfl) rfl ?_
          refine ok_iconst 80 1 dX6_readBehindCondition_79 rfl rfl ?_
          refine ok_isub 81 dX6_readBehindCondition_80 rfl ?_
          refine ok_putI 84 dX6_readBehindCondition_81 rfl rfl F_Encores_Reader_104 sg_103 rfl (Nat.le_of_ble_eq_true rfl) rfl rfl pZ_6_6 rfl rfl ?_
          refine ok_bndM (fun m_81 => ?_)
          refine ok_aload_n 85 0 dX6_readBehindCondition_84 rfl rfl rfl ?_
          refine ok_dup 86 dX6_readBehindCondition_85 rfl rfl ?_
          refine ok_getI 89 dX6_readBehindCondition_86 rfl rfl F_Encores_Reader_107 sg_103 rfl (Nat.le_of_ble_eq_true rfl) rfl ?_
          refine ok_iconst 90 1 dX6_readBehindCondition_89 rfl rfl ?_
          refine ok_isub 91 dX6_readBehindCondition_90 rfl ?_
          refine ok_putI 94 dX6_readBehindCondition_91 rfl rfl F_Encores_Reader_107 sg_103 rfl (Nat.le_of_ble_eq_true rfl) rfl rfl pZ_6_7 rfl rfl ?_
          refine ok_bndM (fun m_91 => ?_)
          refine ok_aload_n 95 0 dX6_readBehindCondition_94 rfl rfl rfl ?_
          refine ok_getR 98 dX6_readBehindCondition_95 rfl rfl F_Encores_Reader_26 sg_103 rfl (Nat.le_of_ble_eq_true rfl) rfl rfl ?_
          refine ok_callVv (np := 0) (M' := m_X10_next) (As := []) (st := []) 101 dX6_readBehindCondition_98 rfl rfl km_X10_next ki_X10_next kv_X10_next ml_Encores_Reader_75 (by decide) sg_99 rfl (Nat.le_of_ble_eq_true rfl) rfl rfl rfl (Nat.le_of_ble_eq_true rfl) (c_X10_next N (d + 1) m_91) ⟨Nat.le_refl _, Nat.le_refl _⟩ (Or.inl rfl) rfl (fun _ m_98 _ => ?_)
          refine ok_iconst 102 4 dX6_readBehindCondition_101 rfl rfl ?_
          exact ok_iret dX6_readBehindCondition_102 rfl
    · refine ok_aload_n 24 0 dX6_readBehindCondition_23 rfl rfl rfl ?_
      refine ok_iload_n 25 1 dX6_readBehindCondition_24 rfl rfl rfl ?_
      refine ok_callVv (np := 1) (M' := m_X6_join) (As := [.int r_7]) (st := []) 28 dX6_readBehindCondition_25 rfl rfl km_X6_join ki_X6_join kv_X6_join ml_Encores_Reader_136 (by decide) sg_103 rfl (Nat.le_of_ble_eq_true rfl) rfl rfl rfl (Nat.le_of_ble_eq_true rfl) (c_X6_join N (d + 0) r_7 m_7) ⟨Nat.le_refl _, Nat.le_refl _⟩ (Or.inl rfl) rfl (fun _ m_25 _ => ?_)
      refine ok_iconst 29 0 dX6_readBehindCondition_28 rfl rfl ?_
      exact ok_iret dX6_readBehindCondition_29 rfl

theorem c_X6_readBehindCondition (N d : Nat)   (m : Mem) : CM SX (d + 3) m_X6_readBehindCondition SG SG [.ref 103] m (f_X6_readBehindCondition N m) :=
  CM.ofOk km_X6_readBehindCondition ⟨Nat.le_refl _, Nat.le_refl _⟩ (by simp [Value.category]) (Nat.le_of_ble_eq_true rfl) (ok_X6_readBehindCondition N d  m)

def f_X6_readLaw_L46 (N : Nat)    (X : Int32 → Int32 → Mem → Ans) (s1_46 : Int32) (s2_46 : Int32) (m : Mem) : Ans :=
if (802 : Int32) ≤ s2_46 then (some (0, m))
else (if s1_46 = (5 : Int32) then (some (0, m))
else (if (m 103 3) = 0 then (swt (Int32.toInt s1_46 - (0)) [(bd (f_X6_readCondition N m) fun r_97 m_97 =>
X r_97 (s2_46 + 1) m_97),
(bd (f_X6_readUnit N m) fun r_105 m_105 =>
X r_105 (s2_46 + 1) m_105),
(bd (f_X6_readDivisor N m) fun r_113 m_113 =>
X r_113 (s2_46 + 1) m_113),
(bd (f_X6_readBehindUnit N m) fun r_121 m_121 =>
X r_121 (s2_46 + 1) m_121)] (bd (f_X6_readBehindCondition N m) fun r_129 m_129 =>
X r_129 (s2_46 + 1) m_129))
else (some (0, m))))

def f_X6_readLaw (N : Nat)  (m : Mem) : Ans :=
bnd (mset m 108 3 0) fun m_5 =>
bnd (mset m_5 103 6 0) fun m_10 =>
bnd (mset m_10 103 7 0) fun m_15 =>
bnd (mset m_15 103 8 0) fun m_20 =>
bd (f_X9_put N 104 (m_20 103 9) 1 (m_20 106 3) m_20) fun _ m_39 =>
it2 (f_X6_readLaw_L46 N ) N 1 0 m_39

set_option maxRecDepth 100000 in
set_option maxHeartbeats 4000000 in
theorem ok_X6_readLaw_L46 (N d : Nat)     : ∀ (n : Nat) (s1_46 : Int32) (s2_46 : Int32) (m : Mem), Ok SX SG (d + 4) m_X6_readLaw 46 [some (.ref 103), some (.int s1_46), some (.int s2_46)] [] SG m (it2 (f_X6_readLaw_L46 N) n s1_46 s2_46 m) :=
  ok_it2 (fun s1_46 s2_46 => [some (.ref 103), some (.int s1_46), some (.int s2_46)]) (fun X hX s1_46 s2_46 m => by
    try unfold f_X6_readLaw_L46
    refine ok_iload_n 47 2 dX6_readLaw_46 rfl rfl rfl ?_
    refine ok_sipush 50 802 dX6_readLaw_47 rfl rfl ?_
    refine ok_icmp_ge 139 53 dX6_readLaw_50 (by decide) rfl (fun _ => ?_) (fun _ => ?_)
    · exact ok_vret dX6_readLaw_139 rfl
    · refine ok_iload_n 54 1 dX6_readLaw_53 rfl rfl rfl ?_
      refine ok_iconst 55 5 dX6_readLaw_54 rfl rfl ?_
      refine ok_icmp_eq 139 58 dX6_readLaw_55 (by decide) rfl (fun _ => ?_) (fun _ => ?_)
      · exact ok_vret dX6_readLaw_139 rfl
      · refine ok_aload_n 59 0 dX6_readLaw_58 rfl rfl rfl ?_
        refine ok_getI 62 dX6_readLaw_59 rfl rfl F_Encores_Reader_30 sg_103 rfl (Nat.le_of_ble_eq_true rfl) rfl ?_
        refine ok_if_ne 139 65 dX6_readLaw_62 (by decide) rfl (fun _ => ?_) (fun _ => ?_)
        · exact ok_vret dX6_readLaw_139 rfl
        · refine ok_iload_n 66 1 dX6_readLaw_65 rfl rfl rfl ?_
          refine ok_tsw 128 [96, 104, 112, 120] dX6_readLaw_66 (by decide) (by decide) (by decide) rfl ?_ ?_
          · refine And.intro ?_ (And.intro ?_ (And.intro ?_ (And.intro ?_ (trivial))))
            · refine ok_aload_n 97 0 dX6_readLaw_96 rfl rfl rfl ?_
              refine ok_callVi (np := 0) (M' := m_X6_readCondition) (As := []) (st := []) 100 dX6_readLaw_97 rfl rfl km_X6_readCondition ki_X6_readCondition kv_X6_readCondition ml_Encores_Reader_113 (by decide) sg_103 rfl (Nat.le_of_ble_eq_true rfl) rfl rfl rfl (Nat.le_of_ble_eq_true rfl) (c_X6_readCondition N (d + 1) m) ⟨Nat.le_refl _, Nat.le_refl _⟩ (Or.inl rfl) rfl (fun r_97 m_97 _ => ?_)
              refine ok_istore_n 101 1 [some (.ref 103), some (.int r_97), some (.int s2_46)] dX6_readLaw_100 rfl rfl (by decide) rfl ?_
              refine ok_goto 133 dX6_readLaw_101 (by decide) ?_
              refine ok_iinc 136 2 1 [some (.ref 103), some (.int r_97), some (.int (s2_46 + 1))] dX6_readLaw_133 rfl rfl rfl (by decide) rfl ?_
              refine ok_goto 46 dX6_readLaw_136 (by decide) ?_
              exact ok_less [some (.ref 103), some (.int r_97), some (.int (s2_46 + 1))] (And.intro rfl (And.intro rfl (And.intro rfl (trivial)))) (hX r_97 (s2_46 + 1) m_97)
            · refine ok_aload_n 105 0 dX6_readLaw_104 rfl rfl rfl ?_
              refine ok_callVi (np := 0) (M' := m_X6_readUnit) (As := []) (st := []) 108 dX6_readLaw_105 rfl rfl km_X6_readUnit ki_X6_readUnit kv_X6_readUnit ml_Encores_Reader_117 (by decide) sg_103 rfl (Nat.le_of_ble_eq_true rfl) rfl rfl rfl (Nat.le_of_ble_eq_true rfl) (c_X6_readUnit N (d + 1) m) ⟨Nat.le_refl _, Nat.le_refl _⟩ (Or.inl rfl) rfl (fun r_105 m_105 _ => ?_)
              refine ok_istore_n 109 1 [some (.ref 103), some (.int r_105), some (.int s2_46)] dX6_readLaw_108 rfl rfl (by decide) rfl ?_
              refine ok_goto 133 dX6_readLaw_109 (by decide) ?_
              refine ok_iinc 136 2 1 [some (.ref 103), some (.int r_105), some (.int (s2_46 + 1))] dX6_readLaw_133 rfl rfl rfl (by decide) rfl ?_
              refine ok_goto 46 dX6_readLaw_136 (by decide) ?_
              exact ok_less [some (.ref 103), some (.int r_105), some (.int (s2_46 + 1))] (And.intro rfl (And.intro rfl (And.intro rfl (trivial)))) (hX r_105 (s2_46 + 1) m_105)
            · refine ok_aload_n 113 0 dX6_readLaw_112 rfl rfl rfl ?_
              refine ok_callVi (np := 0) (M' := m_X6_readDivisor) (As := []) (st := []) 116 dX6_readLaw_113 rfl rfl km_X6_readDivisor ki_X6_readDivisor kv_X6_readDivisor ml_Encores_Reader_120 (by decide) sg_103 rfl (Nat.le_of_ble_eq_true rfl) rfl rfl rfl (Nat.le_of_ble_eq_true rfl) (c_X6_readDivisor N (d + 0) m) ⟨Nat.le_refl _, Nat.le_refl _⟩ (Or.inl rfl) rfl (fun r_113 m_113 _ => ?_)
              refine ok_istore_n 117 1 [some (.ref 103), some (.int r_113), some (.int s2_46)] dX6_readLaw_116 rfl rfl (by decide) rfl ?_
              refine ok_goto 133 dX6_readLaw_117 (by decide) ?_
              refine ok_iinc 136 2 1 [some (.ref 103), some (.int r_113), some (.int (s2_46 + 1))] dX6_readLaw_133 rfl rfl rfl (by decide) rfl ?_
              refine ok_goto 46 dX6_readLaw_136 (by decide) ?_
              exact ok_less [some (.ref 103), some (.int r_113), some (.int (s2_46 + 1))] (And.intro rfl (And.intro rfl (And.intro rfl (trivial)))) (hX r_113 (s2_46 + 1) m_113)
            · refine ok_aload_n 121 0 dX6_readLaw_120 rfl rfl rfl ?_
              refine ok_callVi (np := 0) (M' := m_X6_readBehindUnit) (As := []) (st := []) 124 dX6_readLaw_121 rfl rfl km_X6_readBehindUnit ki_X6_readBehindUnit kv_X6_readBehindUnit ml_Encores_Reader_123 (by decide) sg_103 rfl (Nat.le_of_ble_eq_true rfl) rfl rfl rfl (Nat.le_of_ble_eq_true rfl) (c_X6_readBehindUnit N (d + 0) m) ⟨Nat.le_refl _, Nat.le_refl _⟩ (Or.inl rfl) rfl (fun r_121 m_121 _ => ?_)
              refine ok_istore_n 125 1 [some (.ref 103), some (.int r_121), some (.int s2_46)] dX6_readLaw_124 rfl rfl (by decide) rfl ?_
              refine ok_goto 133 dX6_readLaw_125 (by decide) ?_
              refine ok_iinc 136 2 1 [some (.ref 103), some (.int r_121), some (.int (s2_46 + 1))] dX6_readLaw_133 rfl rfl rfl (by decide) rfl ?_
              refine ok_goto 46 dX6_readLaw_136 (by decide) ?_
              exact ok_less [some (.ref 103), some (.int r_121), some (.int (s2_46 + 1))] (And.intro rfl (And.intro rfl (And.intro rfl (trivial)))) (hX r_121 (s2_46 + 1) m_121)
          · refine ok_aload_n 129 0 dX6_readLaw_128 rfl rfl rfl ?_
            refine ok_callVi (np := 0) (M' := m_X6_readBehindCondition) (As := []) (st := []) 132 dX6_readLaw_129 rfl rfl km_X6_readBehindCondition ki_X6_readBehindCondition kv_X6_readBehindCondition ml_Encores_Reader_126 (by decide) sg_103 rfl (Nat.le_of_ble_eq_true rfl) rfl rfl rfl (Nat.le_of_ble_eq_true rfl) (c_X6_readBehindCondition N (d + 0) m) ⟨Nat.le_refl _, Nat.le_refl _⟩ (Or.inl rfl) rfl (fun r_129 m_129 _ => ?_)
            refine ok_istore_n 133 1 [some (.ref 103), some (.int r_129), some (.int s2_46)] dX6_readLaw_132 rfl rfl (by decide) rfl ?_
            refine ok_iinc 136 2 1 [some (.ref 103), some (.int r_129), some (.int (s2_46 + 1))] dX6_readLaw_133 rfl rfl rfl (by decide) rfl ?_
            refine ok_goto 46 dX6_readLaw_136 (by decide) ?_
            exact ok_less [some (.ref 103), some (.int r_129), some (.int (s2_46 + 1))] (And.intro rfl (And.intro rfl (And.intro rfl (trivial)))) (hX r_129 (s2_46 + 1) m_129))

set_option maxRecDepth 100000 in
set_option maxHeartbeats 4000000 in
theorem ok_X6_readLaw (N d : Nat)   (m : Mem) : Ok SX SG (d + 4) m_X6_readLaw 0 [some (.ref 103), none, none] [] SG m (f_X6_readLaw N m) := by
  unfold f_X6_readLaw
  refine ok_aload_n 1 0 dX6_readLaw_0 rfl rfl rfl ?_
  refine ok_getR 4 dX6_readLaw_1 rfl rfl F_Encores_Reader_23 sg_103 rfl (Nat.le_of_ble_eq_true rfl) rfl rfl ?_
  refine ok_iconst 5 0 dX6_readLaw_4 rfl rfl ?_
  refine ok_putI 8 dX6_readLaw_5 rfl rfl F_Encores_Reader_37 sg_108 rfl (Nat.le_of_ble_eq_true rfl) rfl rfl pZ_9_3 rfl rfl ?_
  refine ok_bndM (fun m_5 => ?_)
  refine ok_aload_n 9 0 dX6_readLaw_8 rfl rfl rfl ?_
  refine ok_iconst 10 0 dX6_readLaw_9 rfl rfl ?_
  refine ok_putI 13 dX6_readLaw_10 rfl rfl F_Encores_Reader_104 sg_103 rfl (Nat.le_of_ble_eq_true rfl) rfl rfl pZ_6_6 rfl rfl ?_
  refine ok_bndM (fun m_10 => ?_)
  refine ok_aload_n 14 0 dX6_readLaw_13 rfl rfl rfl ?_
  refine ok_iconst 15 0 dX6_readLaw_14 rfl rfl ?_
  refine ok_putI 18 dX6_readLaw_15 rfl rfl F_Encores_Reader_107 sg_103 rfl (Nat.le_of_ble_eq_true rfl) rfl rfl pZ_6_7 rfl rfl ?_
  refine ok_bndM (fun m_15 => ?_)
  refine ok_aload_n 19 0 dX6_readLaw_18 rfl rfl rfl ?_
  refine ok_iconst 20 0 dX6_readLaw_19 rfl rfl ?_
  refine ok_putI 23 dX6_readLaw_20 rfl rfl F_Encores_Reader_110 sg_103 rfl (Nat.le_of_ble_eq_true rfl) rfl rfl pZ_6_8 rfl rfl ?_
  refine ok_bndM (fun m_20 => ?_)
  refine ok_aload_n 24 0 dX6_readLaw_23 rfl rfl rfl ?_
  refine ok_getR 27 dX6_readLaw_24 rfl rfl F_Encores_Reader_14 sg_103 rfl (Nat.le_of_ble_eq_true rfl) rfl rfl ?_
  refine ok_aload_n 28 0 dX6_readLaw_27 rfl rfl rfl ?_
  refine ok_getI 31 dX6_readLaw_28 rfl rfl F_Encores_Reader_68 sg_103 rfl (Nat.le_of_ble_eq_true rfl) rfl ?_
  refine ok_iconst 32 1 dX6_readLaw_31 rfl rfl ?_
  refine ok_aload_n 33 0 dX6_readLaw_32 rfl rfl rfl ?_
  refine ok_getR 36 dX6_readLaw_33 rfl rfl F_Encores_Reader_20 sg_103 rfl (Nat.le_of_ble_eq_true rfl) rfl rfl ?_
  refine ok_getI 39 dX6_readLaw_36 rfl rfl F_Encores_Reader_37 sg_106 rfl (Nat.le_of_ble_eq_true rfl) rfl ?_
  refine ok_callVv (np := 3) (M' := m_X9_put) (As := [.int (m_20 103 9), .int 1, .int (m_20 106 3)]) (st := []) 42 dX6_readLaw_39 rfl rfl km_X9_put ki_X9_put kv_X9_put ml_Encores_Reader_98 (by decide) sg_104 rfl (Nat.le_of_ble_eq_true rfl) rfl rfl rfl (Nat.le_of_ble_eq_true rfl) (c_X9_put N (d + 3) 104 (m_20 103 9) 1 (m_20 106 3) tg_104 m_20) ⟨Nat.le_refl _, Nat.le_refl _⟩ (Or.inl rfl) rfl (fun _ m_39 _ => ?_)
  refine ok_iconst 43 1 dX6_readLaw_42 rfl rfl ?_
  refine ok_istore_n 44 1 [some (.ref 103), some (.int 1), none] dX6_readLaw_43 rfl rfl (by decide) rfl ?_
  refine ok_iconst 45 0 dX6_readLaw_44 rfl rfl ?_
  refine ok_istore_n 46 2 [some (.ref 103), some (.int 1), some (.int 0)] dX6_readLaw_45 rfl rfl (by decide) rfl ?_
  refine ok_less [some (.ref 103), some (.int 1), some (.int 0)] (And.intro rfl (And.intro rfl (And.intro rfl (trivial)))) ?_
  exact ok_X6_readLaw_L46 N d     N 1 0 m_39

theorem c_X6_readLaw (N d : Nat)   (m : Mem) : CM SX (d + 4) m_X6_readLaw SG SG [.ref 103] m (f_X6_readLaw N m) :=
  CM.ofOk km_X6_readLaw ⟨Nat.le_refl _, Nat.le_refl _⟩ (by simp [Value.category]) (Nat.le_of_ble_eq_true rfl) (ok_X6_readLaw N d  m)

def f_X6_readNumber_J75 (N : Nat) (a1 : Int32) (a2 : Int32) (a3 : Int32)   (t0_75 : Int32) (m : Mem) : Ans :=
bd (f_X11_within N (m 99 5) a2 a3 m) fun r_86 m_86 =>
if r_86 = 0 then (bd (f_X6_blame N 2 m_86) fun _ m_99 =>
some (0, m_99))
else (if t0_75 = 0 then (bd (f_X9_put N 104 (m_86 103 9) a1 (m_86 99 5) m_86) fun _ m_119 =>
bd (f_X10_next N m_119) fun _ m_126 =>
some (0, m_126))
else (bd (f_X6_blame N 2 m_86) fun _ m_99 =>
some (0, m_99)))

def f_X6_readNumber_J74 (N : Nat) (a1 : Int32) (a2 : Int32) (a3 : Int32)    (m : Mem) : Ans :=
f_X6_readNumber_J75 N a1 a2 a3 0 m

def f_X6_readNumber (N : Nat) (a1 : Int32) (a2 : Int32) (a3 : Int32) (m : Mem) : Ans :=
if (m 103 3) = 0 then (if (m 99 3) = (1 : Int32) then (if a1 = (2 : Int32) then (bd (f_X9_at N 104 (m 103 9) 0 m) fun r_39 m_39 =>
if r_39 = (263 : Int32) then (bd (f_X9_at N 104 (m_39 103 9) 1 m_39) fun r_57 m_57 =>
if r_57 = (m_57 99 5) then (f_X6_readNumber_J75 N a1 a2 a3 1 m_57)
else (f_X6_readNumber_J74 N a1 a2 a3 m_57))
else (f_X6_readNumber_J74 N a1 a2 a3 m_39))
else (f_X6_readNumber_J74 N a1 a2 a3 m))
else (bd (f_X6_blame N 1 m) fun _ m_21 =>
some (0, m_21)))
else (some (0, m))

set_option maxRecDepth 100000 in
set_option maxHeartbeats 4000000 in
theorem ok_X6_readNumber_J75 (N d : Nat) (a1 : Int32) (a2 : Int32) (a3 : Int32)    (t0_75 : Int32) (m : Mem) : Ok SX SG (d + 2) m_X6_readNumber 75 [some (.ref 103), some (.int a1), some (.int a2), some (.int a3), none] [.int t0_75] SG m (f_X6_readNumber_J75 N a1 a2 a3 t0_75 m) := by
  unfold f_X6_readNumber_J75
  refine ok_istore 77 4 [some (.ref 103), some (.int a1), some (.int a2), some (.int a3), some (.int t0_75)] dX6_readNumber_75 rfl (by decide) rfl ?_
  refine ok_aload_n 78 0 dX6_readNumber_77 rfl rfl rfl ?_
  refine ok_getR 81 dX6_readNumber_78 rfl rfl F_Encores_Reader_26 sg_103 rfl (Nat.le_of_ble_eq_true rfl) rfl rfl ?_
  refine ok_getI 84 dX6_readNumber_81 rfl rfl F_Encores_Reader_95 sg_99 rfl (Nat.le_of_ble_eq_true rfl) rfl ?_
  refine ok_iload_n 85 2 dX6_readNumber_84 rfl rfl rfl ?_
  refine ok_iload_n 86 3 dX6_readNumber_85 rfl rfl rfl ?_
  refine ok_callSNi (np := 3) (M' := m_X11_within) (As := [.int (m 99 5), .int a2, .int a3]) (st := []) 89 3 dX6_readNumber_86 rfl rfl km_X11_within ks_X11_within rfl (by decide) rfl rfl (Nat.le_of_ble_eq_true rfl) (c_X11_within N (d + 1) (m 99 5) a2 a3 m) ⟨Nat.le_refl _, Nat.le_refl _⟩ (Or.inl rfl) rfl (fun r_86 m_86 _ => ?_)
  refine ok_if_eq 97 92 dX6_readNumber_89 (by decide) rfl (fun _ => ?_) (fun _ => ?_)
  · refine ok_aload_n 98 0 dX6_readNumber_97 rfl rfl rfl ?_
    refine ok_iconst 99 2 dX6_readNumber_98 rfl rfl ?_
    refine ok_callVv (np := 1) (M' := m_X6_blame) (As := [.int 2]) (st := []) 102 dX6_readNumber_99 rfl rfl km_X6_blame ki_X6_blame kv_X6_blame ml_Encores_Reader_65 (by decide) sg_103 rfl (Nat.le_of_ble_eq_true rfl) rfl rfl rfl (Nat.le_of_ble_eq_true rfl) (c_X6_blame N (d + 1) 2 m_86) ⟨Nat.le_refl _, Nat.le_refl _⟩ (Or.inl rfl) rfl (fun _ m_99 _ => ?_)
    exact ok_vret dX6_readNumber_102 rfl
  · refine ok_iload 94 4 dX6_readNumber_92 rfl rfl ?_
    refine ok_if_eq 103 97 dX6_readNumber_94 (by decide) rfl (fun _ => ?_) (fun _ => ?_)
    · refine ok_aload_n 104 0 dX6_readNumber_103 rfl rfl rfl ?_
      refine ok_getR 107 dX6_readNumber_104 rfl rfl F_Encores_Reader_14 sg_103 rfl (Nat.le_of_ble_eq_true rfl) rfl rfl ?_
      refine ok_aload_n 108 0 dX6_readNumber_107 rfl rfl rfl ?_
      refine ok_getI 111 dX6_readNumber_108 rfl rfl F_Encores_Reader_68 sg_103 rfl (Nat.le_of_ble_eq_true rfl) rfl ?_
      refine ok_iload_n 112 1 dX6_readNumber_111 rfl rfl rfl ?_
      refine ok_aload_n 113 0 dX6_readNumber_112 rfl rfl rfl ?_
      refine ok_getR 116 dX6_readNumber_113 rfl rfl F_Encores_Reader_26 sg_103 rfl (Nat.le_of_ble_eq_true rfl) rfl rfl ?_
      refine ok_getI 119 dX6_readNumber_116 rfl rfl F_Encores_Reader_95 sg_99 rfl (Nat.le_of_ble_eq_true rfl) rfl ?_
      refine ok_callVv (np := 3) (M' := m_X9_put) (As := [.int (m_86 103 9), .int a1, .int (m_86 99 5)]) (st := []) 122 dX6_readNumber_119 rfl rfl km_X9_put ki_X9_put kv_X9_put ml_Encores_Reader_98 (by decide) sg_104 rfl (Nat.le_of_ble_eq_true rfl) rfl rfl rfl (Nat.le_of_ble_eq_true rfl) (c_X9_put N (d + 1) 104 (m_86 103 9) a1 (m_86 99 5) tg_104 m_86) ⟨Nat.le_refl _, Nat.le_refl _⟩ (Or.inl rfl) rfl (fun _ m_119 _ => ?_)
      refine ok_aload_n 123 0 dX6_readNumber_122 rfl rfl rfl ?_
      refine ok_getR 126 dX6_readNumber_123 rfl rfl F_Encores_Reader_26 sg_103 rfl (Nat.le_of_ble_eq_true rfl) rfl rfl ?_
      refine ok_callVv (np := 0) (M' := m_X10_next) (As := []) (st := []) 129 dX6_readNumber_126 rfl rfl km_X10_next ki_X10_next kv_X10_next ml_Encores_Reader_75 (by decide) sg_99 rfl (Nat.le_of_ble_eq_true rfl) rfl rfl rfl (Nat.le_of_ble_eq_true rfl) (c_X10_next N (d + 0) m_119) ⟨Nat.le_refl _, Nat.le_refl _⟩ (Or.inl rfl) rfl (fun _ m_126 _ => ?_)
      exact ok_vret dX6_readNumber_129 rfl
    · refine ok_aload_n 98 0 dX6_readNumber_97 rfl rfl rfl ?_
      refine ok_iconst 99 2 dX6_readNumber_98 rfl rfl ?_
      refine ok_callVv (np := 1) (M' := m_X6_blame) (As := [.int 2]) (st := []) 102 dX6_readNumber_99 rfl rfl km_X6_blame ki_X6_blame kv_X6_blame ml_Encores_Reader_65 (by decide) sg_103 rfl (Nat.le_of_ble_eq_true rfl) rfl rfl rfl (Nat.le_of_ble_eq_true rfl) (c_X6_blame N (d + 1) 2 m_86) ⟨Nat.le_refl _, Nat.le_refl _⟩ (Or.inl rfl) rfl (fun _ m_99 _ => ?_)
      exact ok_vret dX6_readNumber_102 rfl

set_option maxRecDepth 100000 in
set_option maxHeartbeats 4000000 in
theorem ok_X6_readNumber_J74 (N d : Nat) (a1 : Int32) (a2 : Int32) (a3 : Int32)     (m : Mem) : Ok SX SG (d + 2) m_X6_readNumber 74 [some (.ref 103), some (.int a1), some (.int a2), some (.int a3), none] [] SG m (f_X6_readNumber_J74 N a1 a2 a3 m) := by
  unfold f_X6_readNumber_J74
  refine ok_iconst 75 0 dX6_readNumber_74 rfl rfl ?_
  exact ok_less [some (.ref 103), some (.int a1), some (.int a2), some (.int a3), none] (And.intro rfl (And.intro rfl (And.intro rfl (And.intro rfl (trivial))))) (ok_X6_readNumber_J75 N d a1 a2 a3   0 m)

set_option maxRecDepth 100000 in
set_option maxHeartbeats 4000000 in
theorem ok_X6_readNumber (N d : Nat) (a1 : Int32) (a2 : Int32) (a3 : Int32)  (m : Mem) : Ok SX SG (d + 2) m_X6_readNumber 0 [some (.ref 103), some (.int a1), some (.int a2), some (.int a3), none] [] SG m (f_X6_readNumber N a1 a2 a3 m) := by
  unfold f_X6_readNumber
  refine ok_aload_n 1 0 dX6_readNumber_0 rfl rfl rfl ?_
  refine ok_getI 4 dX6_readNumber_1 rfl rfl F_Encores_Reader_30 sg_103 rfl (Nat.le_of_ble_eq_true rfl) rfl ?_
  refine ok_if_eq 8 7 dX6_readNumber_4 (by decide) rfl (fun _ => ?_) (fun _ => ?_)
  · refine ok_aload_n 9 0 dX6_readNumber_8 rfl rfl rfl ?_
    refine ok_getR 12 dX6_readNumber_9 rfl rfl F_Encores_Reader_26 sg_103 rfl (Nat.le_of_ble_eq_true rfl) rfl rfl ?_
    refine ok_getI 15 dX6_readNumber_12 rfl rfl F_Encores_Reader_54 sg_99 rfl (Nat.le_of_ble_eq_true rfl) rfl ?_
    refine ok_iconst 16 1 dX6_readNumber_15 rfl rfl ?_
    refine ok_icmp_eq 25 19 dX6_readNumber_16 (by decide) rfl (fun _ => ?_) (fun _ => ?_)
    · refine ok_iload_n 26 1 dX6_readNumber_25 rfl rfl rfl ?_
      refine ok_iconst 27 2 dX6_readNumber_26 rfl rfl ?_
      refine ok_icmp_ne 74 30 dX6_readNumber_27 (by decide) rfl (fun _ => ?_) (fun _ => ?_)
      · exact ok_less [some (.ref 103), some (.int a1), some (.int a2), some (.int a3), none] (And.intro rfl (And.intro rfl (And.intro rfl (And.intro rfl (trivial))))) (ok_X6_readNumber_J74 N d a1 a2 a3   m)
      · refine ok_aload_n 31 0 dX6_readNumber_30 rfl rfl rfl ?_
        refine ok_getR 34 dX6_readNumber_31 rfl rfl F_Encores_Reader_14 sg_103 rfl (Nat.le_of_ble_eq_true rfl) rfl rfl ?_
        refine ok_aload_n 35 0 dX6_readNumber_34 rfl rfl rfl ?_
        refine ok_getI 38 dX6_readNumber_35 rfl rfl F_Encores_Reader_68 sg_103 rfl (Nat.le_of_ble_eq_true rfl) rfl ?_
        refine ok_iconst 39 0 dX6_readNumber_38 rfl rfl ?_
        refine ok_callVi (np := 2) (M' := m_X9_at) (As := [.int (m 103 9), .int 0]) (st := []) 42 dX6_readNumber_39 rfl rfl km_X9_at ki_X9_at kv_X9_at ml_Encores_Reader_91 (by decide) sg_104 rfl (Nat.le_of_ble_eq_true rfl) rfl rfl rfl (Nat.le_of_ble_eq_true rfl) (c_X9_at N (d + 1) 104 (m 103 9) 0 tg_104 m) ⟨Nat.le_refl _, Nat.le_refl _⟩ (Or.inl rfl) rfl (fun r_39 m_39 _ => ?_)
        refine ok_sipush 45 263 dX6_readNumber_42 rfl rfl ?_
        refine ok_icmp_ne 74 48 dX6_readNumber_45 (by decide) rfl (fun _ => ?_) (fun _ => ?_)
        · exact ok_less [some (.ref 103), some (.int a1), some (.int a2), some (.int a3), none] (And.intro rfl (And.intro rfl (And.intro rfl (And.intro rfl (trivial))))) (ok_X6_readNumber_J74 N d a1 a2 a3   m_39)
        · refine ok_aload_n 49 0 dX6_readNumber_48 rfl rfl rfl ?_
          refine ok_getR 52 dX6_readNumber_49 rfl rfl F_Encores_Reader_14 sg_103 rfl (Nat.le_of_ble_eq_true rfl) rfl rfl ?_
          refine ok_aload_n 53 0 dX6_readNumber_52 rfl rfl rfl ?_
          refine ok_getI 56 dX6_readNumber_53 rfl rfl F_Encores_Reader_68 sg_103 rfl (Nat.le_of_ble_eq_true rfl) rfl ?_
          refine ok_iconst 57 1 dX6_readNumber_56 rfl rfl ?_
          refine ok_callVi (np := 2) (M' := m_X9_at) (As := [.int (m_39 103 9), .int 1]) (st := []) 60 dX6_readNumber_57 rfl rfl km_X9_at ki_X9_at kv_X9_at ml_Encores_Reader_91 (by decide) sg_104 rfl (Nat.le_of_ble_eq_true rfl) rfl rfl rfl (Nat.le_of_ble_eq_true rfl) (c_X9_at N (d + 1) 104 (m_39 103 9) 1 tg_104 m_39) ⟨Nat.le_refl _, Nat.le_refl _⟩ (Or.inl rfl) rfl (fun r_57 m_57 _ => ?_)
          refine ok_aload_n 61 0 dX6_readNumber_60 rfl rfl rfl ?_
          refine ok_getR 64 dX6_readNumber_61 rfl rfl F_Encores_Reader_26 sg_103 rfl (Nat.le_of_ble_eq_true rfl) rfl rfl ?_
          refine ok_getI 67 dX6_readNumber_64 rfl rfl F_Encores_Reader_95 sg_99 rfl (Nat.le_of_ble_eq_true rfl) rfl ?_
          refine ok_icmp_ne 74 70 dX6_readNumber_67 (by decide) rfl (fun _ => ?_) (fun _ => ?_)
          · exact ok_less [some (.ref 103), some (.int a1), some (.int a2), some (.int a3), none] (And.intro rfl (And.intro rfl (And.intro rfl (And.intro rfl (trivial))))) (ok_X6_readNumber_J74 N d a1 a2 a3   m_57)
          · refine ok_iconst 71 1 dX6_readNumber_70 rfl rfl ?_
            refine ok_goto 75 dX6_readNumber_71 (by decide) ?_
            exact ok_less [some (.ref 103), some (.int a1), some (.int a2), some (.int a3), none] (And.intro rfl (And.intro rfl (And.intro rfl (And.intro rfl (trivial))))) (ok_X6_readNumber_J75 N d a1 a2 a3   1 m_57)
    · refine ok_aload_n 20 0 dX6_readNumber_19 rfl rfl rfl ?_
      refine ok_iconst 21 1 dX6_readNumber_20 rfl rfl ?_
      refine ok_callVv (np := 1) (M' := m_X6_blame) (As := [.int 1]) (st := []) 24 dX6_readNumber_21 rfl rfl km_X6_blame ki_X6_blame kv_X6_blame ml_Encores_Reader_65 (by decide) sg_103 rfl (Nat.le_of_ble_eq_true rfl) rfl rfl rfl (Nat.le_of_ble_eq_true rfl) (c_X6_blame N (d + 1) 1 m) ⟨Nat.le_refl _, Nat.le_refl _⟩ (Or.inl rfl) rfl (fun _ m_21 _ => ?_)
      exact ok_vret dX6_readNumber_24 rfl
  · exact ok_vret dX6_readNumber_7 rfl

theorem c_X6_readNumber (N d : Nat) (a1 : Int32) (a2 : Int32) (a3 : Int32)  (m : Mem) : CM SX (d + 2) m_X6_readNumber SG SG [.ref 103, .int a1, .int a2, .int a3] m (f_X6_readNumber N a1 a2 a3 m) :=
  CM.ofOk km_X6_readNumber ⟨Nat.le_refl _, Nat.le_refl _⟩ (by simp [Value.category]) (Nat.le_of_ble_eq_true rfl) (ok_X6_readNumber N d a1 a2 a3 m)

def f_X6_readWord (N : Nat) (a1 : Int32) (m : Mem) : Ans :=
if (m 103 3) = 0 then (if (m 99 3) = a1 then (bd (f_X10_next N m) fun _ m_29 =>
some (0, m_29))
else (bd (f_X6_blame N 1 m) fun _ m_21 =>
some (0, m_21)))
else (some (0, m))

set_option maxRecDepth 100000 in
set_option maxHeartbeats 4000000 in
theorem ok_X6_readWord (N d : Nat) (a1 : Int32)  (m : Mem) : Ok SX SG (d + 2) m_X6_readWord 0 [some (.ref 103), some (.int a1)] [] SG m (f_X6_readWord N a1 m) := by
  unfold f_X6_readWord
  refine ok_aload_n 1 0 dX6_readWord_0 rfl rfl rfl ?_
  refine ok_getI 4 dX6_readWord_1 rfl rfl F_Encores_Reader_30 sg_103 rfl (Nat.le_of_ble_eq_true rfl) rfl ?_
  refine ok_if_eq 8 7 dX6_readWord_4 (by decide) rfl (fun _ => ?_) (fun _ => ?_)
  · refine ok_aload_n 9 0 dX6_readWord_8 rfl rfl rfl ?_
    refine ok_getR 12 dX6_readWord_9 rfl rfl F_Encores_Reader_26 sg_103 rfl (Nat.le_of_ble_eq_true rfl) rfl rfl ?_
    refine ok_getI 15 dX6_readWord_12 rfl rfl F_Encores_Reader_54 sg_99 rfl (Nat.le_of_ble_eq_true rfl) rfl ?_
    refine ok_iload_n 16 1 dX6_readWord_15 rfl rfl rfl ?_
    refine ok_icmp_eq 25 19 dX6_readWord_16 (by decide) rfl (fun _ => ?_) (fun _ => ?_)
    · refine ok_aload_n 26 0 dX6_readWord_25 rfl rfl rfl ?_
      refine ok_getR 29 dX6_readWord_26 rfl rfl F_Encores_Reader_26 sg_103 rfl (Nat.le_of_ble_eq_true rfl) rfl rfl ?_
      refine ok_callVv (np := 0) (M' := m_X10_next) (As := []) (st := []) 32 dX6_readWord_29 rfl rfl km_X10_next ki_X10_next kv_X10_next ml_Encores_Reader_75 (by decide) sg_99 rfl (Nat.le_of_ble_eq_true rfl) rfl rfl rfl (Nat.le_of_ble_eq_true rfl) (c_X10_next N (d + 0) m) ⟨Nat.le_refl _, Nat.le_refl _⟩ (Or.inl rfl) rfl (fun _ m_29 _ => ?_)
      exact ok_vret dX6_readWord_32 rfl
    · refine ok_aload_n 20 0 dX6_readWord_19 rfl rfl rfl ?_
      refine ok_iconst 21 1 dX6_readWord_20 rfl rfl ?_
      refine ok_callVv (np := 1) (M' := m_X6_blame) (As := [.int 1]) (st := []) 24 dX6_readWord_21 rfl rfl km_X6_blame ki_X6_blame kv_X6_blame ml_Encores_Reader_65 (by decide) sg_103 rfl (Nat.le_of_ble_eq_true rfl) rfl rfl rfl (Nat.le_of_ble_eq_true rfl) (c_X6_blame N (d + 1) 1 m) ⟨Nat.le_refl _, Nat.le_refl _⟩ (Or.inl rfl) rfl (fun _ m_21 _ => ?_)
      exact ok_vret dX6_readWord_24 rfl
  · exact ok_vret dX6_readWord_7 rfl

theorem c_X6_readWord (N d : Nat) (a1 : Int32)  (m : Mem) : CM SX (d + 2) m_X6_readWord SG SG [.ref 103, .int a1] m (f_X6_readWord N a1 m) :=
  CM.ofOk km_X6_readWord ⟨Nat.le_refl _, Nat.le_refl _⟩ (by simp [Value.category]) (Nat.le_of_ble_eq_true rfl) (ok_X6_readWord N d a1 m)

