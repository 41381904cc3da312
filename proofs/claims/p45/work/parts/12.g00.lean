variable {SX : SXT}
def f_X9_at (N : Nat) (this : Nat) (a1 : Int32) (a2 : Int32) (m : Mem) : Ans :=
if a1 < 0 then (some ((-1), m))
else (if (m this 3) ≤ a1 then (some ((-1), m))
else (if a2 < 0 then (some ((-1), m))
else (if a2 < (m this 2) then (bnd ((a1 * (m this 2)) + a2) fun a3_34 =>
if a3_34 < 0 then (some ((-1), m))
else (if (Int32.ofNat (al (rq this 0))) ≤ a3_34 then (some ((-1), m))
else (chk (inb a3_34 (al (rq this 0))) <|
some (m (rq this 0) a3_34.toNatClampNeg, m))))
else (some ((-1), m)))))

set_option maxRecDepth 100000 in
set_option maxHeartbeats 4000000 in
theorem ok_X9_at (N d : Nat) (this : Nat) (a1 : Int32) (a2 : Int32) (h0 : tg this = 9) (m : Mem) : Ok SX SG (d + 0) m_X9_at 0 [some (.ref this), some (.int a1), some (.int a2), none] [] SG m (f_X9_at N this a1 a2 m) := by
  unfold f_X9_at
  refine ok_iload_n 1 1 dX9_at_0 rfl rfl rfl ?_
  refine ok_if_lt 24 4 dX9_at_1 (by decide) rfl (fun _ => ?_) (fun _ => ?_)
  · refine ok_iconst 25 (-1) dX9_at_24 rfl rfl ?_
    exact ok_iret dX9_at_25 rfl
  · refine ok_iload_n 5 1 dX9_at_4 rfl rfl rfl ?_
    refine ok_aload_n 6 0 dX9_at_5 rfl rfl rfl ?_
    refine ok_getI 9 dX9_at_6 rfl rfl F_Encores_Table_28 (sg_T _ h0) rfl (Nat.le_of_ble_eq_true rfl) rfl ?_
    refine ok_icmp_ge 24 12 dX9_at_9 (by decide) rfl (fun _ => ?_) (fun _ => ?_)
    · refine ok_iconst 25 (-1) dX9_at_24 rfl rfl ?_
      exact ok_iret dX9_at_25 rfl
    · refine ok_iload_n 13 2 dX9_at_12 rfl rfl rfl ?_
      refine ok_if_lt 24 16 dX9_at_13 (by decide) rfl (fun _ => ?_) (fun _ => ?_)
      · refine ok_iconst 25 (-1) dX9_at_24 rfl rfl ?_
        exact ok_iret dX9_at_25 rfl
      · refine ok_iload_n 17 2 dX9_at_16 rfl rfl rfl ?_
        refine ok_aload_n 18 0 dX9_at_17 rfl rfl rfl ?_
        refine ok_getI 21 dX9_at_18 rfl rfl F_Encores_Table_21 (sg_T _ h0) rfl (Nat.le_of_ble_eq_true rfl) rfl ?_
        refine ok_icmp_lt 26 24 dX9_at_21 (by decide) rfl (fun _ => ?_) (fun _ => ?_)
        · refine ok_iload_n 27 1 dX9_at_26 rfl rfl rfl ?_
          refine ok_aload_n 28 0 dX9_at_27 rfl rfl rfl ?_
          refine ok_getI 31 dX9_at_28 rfl rfl F_Encores_Table_21 (sg_T _ h0) rfl (Nat.le_of_ble_eq_true rfl) rfl ?_
          refine ok_imul 32 dX9_at_31 rfl ?_
          refine ok_iload_n 33 2 dX9_at_32 rfl rfl rfl ?_
          refine ok_iadd 34 dX9_at_33 rfl ?_
          refine ok_bndI (fun a3_34 => ?_)
          refine ok_istore_n 35 3 [some (.ref this), some (.int a1), some (.int a2), some (.int a3_34)] dX9_at_34 rfl rfl (by decide) rfl ?_
          refine ok_iload_n 36 3 dX9_at_35 rfl rfl rfl ?_
          refine ok_if_lt 57 39 dX9_at_36 (by decide) rfl (fun _ => ?_) (fun _ => ?_)
          · refine ok_iconst 58 (-1) dX9_at_57 rfl rfl ?_
            exact ok_iret dX9_at_58 rfl
          · refine ok_iload_n 40 3 dX9_at_39 rfl rfl rfl ?_
            refine ok_aload_n 41 0 dX9_at_40 rfl rfl rfl ?_
            refine ok_getR 44 dX9_at_41 rfl rfl F_Encores_Table_24 (sg_T _ h0) rfl (Nat.le_of_ble_eq_true rfl) rfl rfl ?_
            refine ok_alen 45 dX9_at_44 rfl (sg_A _ (rt_9_0 _ h0)) ?_
            refine ok_icmp_ge 57 48 dX9_at_45 (by decide) rfl (fun _ => ?_) (fun _ => ?_)
            · refine ok_iconst 58 (-1) dX9_at_57 rfl rfl ?_
              exact ok_iret dX9_at_58 rfl
            · refine ok_aload_n 49 0 dX9_at_48 rfl rfl rfl ?_
              refine ok_getR 52 dX9_at_49 rfl rfl F_Encores_Table_24 (sg_T _ h0) rfl (Nat.le_of_ble_eq_true rfl) rfl rfl ?_
              refine ok_iload_n 53 3 dX9_at_52 rfl rfl rfl ?_
              refine ok_iald 54 dX9_at_53 rfl (sg_A _ (rt_9_0 _ h0)) ?_
              refine ok_goto 58 dX9_at_54 (by decide) ?_
              exact ok_iret dX9_at_58 rfl
        · refine ok_iconst 25 (-1) dX9_at_24 rfl rfl ?_
          exact ok_iret dX9_at_25 rfl

theorem c_X9_at (N d : Nat) (this : Nat) (a1 : Int32) (a2 : Int32) (h0 : tg this = 9) (m : Mem) : CM SX (d + 0) m_X9_at SG SG [.ref this, .int a1, .int a2] m (f_X9_at N this a1 a2 m) :=
  CM.ofOk km_X9_at ⟨Nat.le_refl _, Nat.le_refl _⟩ (by simp [Value.category]) (Nat.le_of_ble_eq_true rfl) (ok_X9_at N d this a1 a2 h0 m)

def f_X1_hour (N : Nat) (a1 : Int32) (m : Mem) : Ans :=
bd (f_X9_at N 7 0 a1 m) fun r_6 m_6 =>
some (r_6, m_6)

set_option maxRecDepth 100000 in
set_option maxHeartbeats 4000000 in
theorem ok_X1_hour (N d : Nat) (a1 : Int32)  (m : Mem) : Ok SX SG (d + 1) m_X1_hour 0 [some (.ref 2), some (.int a1)] [] SG m (f_X1_hour N a1 m) := by
  unfold f_X1_hour
  refine ok_aload_n 1 0 dX1_hour_0 rfl rfl rfl ?_
  refine ok_getR 4 dX1_hour_1 rfl rfl F_Encores_House_23 sg_2 rfl (Nat.le_of_ble_eq_true rfl) rfl rfl ?_
  refine ok_iconst 5 0 dX1_hour_4 rfl rfl ?_
  refine ok_iload_n 6 1 dX1_hour_5 rfl rfl rfl ?_
  refine ok_callVi (np := 2) (M' := m_X9_at) (As := [.int 0, .int a1]) (st := []) 9 dX1_hour_6 rfl rfl km_X9_at ki_X9_at kv_X9_at ml_Encores_House_62 (by decide) sg_7 rfl (Nat.le_of_ble_eq_true rfl) rfl rfl rfl (Nat.le_of_ble_eq_true rfl) (c_X9_at N (d + 0) 7 0 a1 tg_7 m) ⟨Nat.le_refl _, Nat.le_refl _⟩ (Or.inl rfl) rfl (fun r_6 m_6 _ => ?_)
  exact ok_iret dX1_hour_9 rfl

theorem c_X1_hour (N d : Nat) (a1 : Int32)  (m : Mem) : CM SX (d + 1) m_X1_hour SG SG [.ref 2, .int a1] m (f_X1_hour N a1 m) :=
  CM.ofOk km_X1_hour ⟨Nat.le_refl _, Nat.le_refl _⟩ (by simp [Value.category]) (Nat.le_of_ble_eq_true rfl) (ok_X1_hour N d a1 m)

def f_X9_put (N : Nat) (this : Nat) (a1 : Int32) (a2 : Int32) (a3 : Int32) (m : Mem) : Ans :=
if a1 < 0 then (some (0, m))
else (if (m this 3) ≤ a1 then (some (0, m))
else (if a2 < 0 then (some (0, m))
else (if a2 < (m this 2) then (bnd ((a1 * (m this 2)) + a2) fun a4_33 =>
if a4_33 < 0 then (some (0, m))
else (if (Int32.ofNat (al (rq this 0))) ≤ a4_33 then (some (0, m))
else (chk (inb a4_33 (al (rq this 0))) <|
bnd (mset m (rq this 0) a4_33.toNatClampNeg a3) fun m_57 =>
some (0, m_57))))
else (some (0, m)))))

set_option maxRecDepth 100000 in
set_option maxHeartbeats 4000000 in
theorem ok_X9_put (N d : Nat) (this : Nat) (a1 : Int32) (a2 : Int32) (a3 : Int32) (h0 : tg this = 9) (m : Mem) : Ok SX SG (d + 0) m_X9_put 0 [some (.ref this), some (.int a1), some (.int a2), some (.int a3), none] [] SG m (f_X9_put N this a1 a2 a3 m) := by
  unfold f_X9_put
  refine ok_iload_n 1 1 dX9_put_0 rfl rfl rfl ?_
  refine ok_if_lt 24 4 dX9_put_1 (by decide) rfl (fun _ => ?_) (fun _ => ?_)
  · exact ok_vret dX9_put_24 rfl
  · refine ok_iload_n 5 1 dX9_put_4 rfl rfl rfl ?_
    refine ok_aload_n 6 0 dX9_put_5 rfl rfl rfl ?_
    refine ok_getI 9 dX9_put_6 rfl rfl F_Encores_Table_28 (sg_T _ h0) rfl (Nat.le_of_ble_eq_true rfl) rfl ?_
    refine ok_icmp_ge 24 12 dX9_put_9 (by decide) rfl (fun _ => ?_) (fun _ => ?_)
    · exact ok_vret dX9_put_24 rfl
    · refine ok_iload_n 13 2 dX9_put_12 rfl rfl rfl ?_
      refine ok_if_lt 24 16 dX9_put_13 (by decide) rfl (fun _ => ?_) (fun _ => ?_)
      · exact ok_vret dX9_put_24 rfl
      · refine ok_iload_n 17 2 dX9_put_16 rfl rfl rfl ?_
        refine ok_aload_n 18 0 dX9_put_17 rfl rfl rfl ?_
        refine ok_getI 21 dX9_put_18 rfl rfl F_Encores_Table_21 (sg_T _ h0) rfl (Nat.le_of_ble_eq_true rfl) rfl ?_
        refine ok_icmp_lt 25 24 dX9_put_21 (by decide) rfl (fun _ => ?_) (fun _ => ?_)
        · refine ok_iload_n 26 1 dX9_put_25 rfl rfl rfl ?_
          refine ok_aload_n 27 0 dX9_put_26 rfl rfl rfl ?_
          refine ok_getI 30 dX9_put_27 rfl rfl F_Encores_Table_21 (sg_T _ h0) rfl (Nat.le_of_ble_eq_true rfl) rfl ?_
          refine ok_imul 31 dX9_put_30 rfl ?_
          refine ok_iload_n 32 2 dX9_put_31 rfl rfl rfl ?_
          refine ok_iadd 33 dX9_put_32 rfl ?_
          refine ok_bndI (fun a4_33 => ?_)
          refine ok_istore 35 4 [some (.ref this), some (.int a1), some (.int a2), some (.int a3), some (.int a4_33)] dX9_put_33 rfl (by decide) rfl ?_
          refine ok_iload 37 4 dX9_put_35 rfl rfl ?_
          refine ok_if_lt 58 40 dX9_put_37 (by decide) rfl (fun _ => ?_) (fun _ => ?_)
          · exact ok_vret dX9_put_58 rfl
          · refine ok_iload 42 4 dX9_put_40 rfl rfl ?_
            refine ok_aload_n 43 0 dX9_put_42 rfl rfl rfl ?_
            refine ok_getR 46 dX9_put_43 rfl rfl F_Encores_Table_24 (sg_T _ h0) rfl (Nat.le_of_ble_eq_true rfl) rfl rfl ?_
            refine ok_alen 47 dX9_put_46 rfl (sg_A _ (rt_9_0 _ h0)) ?_
            refine ok_icmp_ge 58 50 dX9_put_47 (by decide) rfl (fun _ => ?_) (fun _ => ?_)
            · exact ok_vret dX9_put_58 rfl
            · refine ok_aload_n 51 0 dX9_put_50 rfl rfl rfl ?_
              refine ok_getR 54 dX9_put_51 rfl rfl F_Encores_Table_24 (sg_T _ h0) rfl (Nat.le_of_ble_eq_true rfl) rfl rfl ?_
              refine ok_iload 56 4 dX9_put_54 rfl rfl ?_
              refine ok_iload_n 57 3 dX9_put_56 rfl rfl rfl ?_
              refine ok_iast 58 dX9_put_57 rfl (sg_A _ (rt_9_0 _ h0)) ?_
              refine ok_bndM (fun m_57 => ?_)
              exact ok_vret dX9_put_58 rfl
        · exact ok_vret dX9_put_24 rfl

theorem c_X9_put (N d : Nat) (this : Nat) (a1 : Int32) (a2 : Int32) (a3 : Int32) (h0 : tg this = 9) (m : Mem) : CM SX (d + 0) m_X9_put SG SG [.ref this, .int a1, .int a2, .int a3] m (f_X9_put N this a1 a2 a3 m) :=
  CM.ofOk km_X9_put ⟨Nat.le_refl _, Nat.le_refl _⟩ (by simp [Value.category]) (Nat.le_of_ble_eq_true rfl) (ok_X9_put N d this a1 a2 a3 h0 m)

def f_X1_setHour (N : Nat) (a1 : Int32) (a2 : Int32) (m : Mem) : Ans :=
bd (f_X9_put N 7 0 a1 a2 m) fun _ m_7 =>
some (0, m_7)

set_option maxRecDepth 100000 in
set_option maxHeartbeats 4000000 in
theorem ok_X1_setHour (N d : Nat) (a1 : Int32) (a2 : Int32)  (m : Mem) : Ok SX SG (d + 1) m_X1_setHour 0 [some (.ref 2), some (.int a1), some (.int a2)] [] SG m (f_X1_setHour N a1 a2 m) := by
  unfold f_X1_setHour
  refine ok_aload_n 1 0 dX1_setHour_0 rfl rfl rfl ?_
  refine ok_getR 4 dX1_setHour_1 rfl rfl F_Encores_House_23 sg_2 rfl (Nat.le_of_ble_eq_true rfl) rfl rfl ?_
  refine ok_iconst 5 0 dX1_setHour_4 rfl rfl ?_
  refine ok_iload_n 6 1 dX1_setHour_5 rfl rfl rfl ?_
  refine ok_iload_n 7 2 dX1_setHour_6 rfl rfl rfl ?_
  refine ok_callVv (np := 3) (M' := m_X9_put) (As := [.int 0, .int a1, .int a2]) (st := []) 10 dX1_setHour_7 rfl rfl km_X9_put ki_X9_put kv_X9_put ml_Encores_House_54 (by decide) sg_7 rfl (Nat.le_of_ble_eq_true rfl) rfl rfl rfl (Nat.le_of_ble_eq_true rfl) (c_X9_put N (d + 0) 7 0 a1 a2 tg_7 m) ⟨Nat.le_refl _, Nat.le_refl _⟩ (Or.inl rfl) rfl (fun _ m_7 _ => ?_)
  exact ok_vret dX1_setHour_10 rfl

theorem c_X1_setHour (N d : Nat) (a1 : Int32) (a2 : Int32)  (m : Mem) : CM SX (d + 1) m_X1_setHour SG SG [.ref 2, .int a1, .int a2] m (f_X1_setHour N a1 a2 m) :=
  CM.ofOk km_X1_setHour ⟨Nat.le_refl _, Nat.le_refl _⟩ (by simp [Value.category]) (Nat.le_of_ble_eq_true rfl) (ok_X1_setHour N d a1 a2 m)

def f_X9_add_L54 (N : Nat) (this : Nat) (a1 : Int32) (a2 : Int32) (a3 : Int32) (a4 : Int32) (a5_9 : Int32)  (X : Int32 → Mem → Ans) (s6_54 : Int32) (m : Mem) : Ans :=
if (m this 2) ≤ s6_54 then (bnd (mset m this 3 ((m this 3) + (1 : Int32))) fun m_140 =>
some (1, m_140))
else (if (Int32.ofNat (al (rq this 0))) ≤ (a5_9 + s6_54) then (bnd (mset m this 3 ((m this 3) + (1 : Int32))) fun m_140 =>
some (1, m_140))
else (if s6_54 = 0 then (chk (inb (a5_9 + s6_54) (al (rq this 0))) <|
bnd (mset m (rq this 0) (a5_9 + s6_54).toNatClampNeg a1) fun m_126 =>
X (s6_54 + 1) m_126)
else (if s6_54 = (1 : Int32) then (chk (inb (a5_9 + s6_54) (al (rq this 0))) <|
bnd (mset m (rq this 0) (a5_9 + s6_54).toNatClampNeg a2) fun m_126 =>
X (s6_54 + 1) m_126)
else (if s6_54 = (2 : Int32) then (chk (inb (a5_9 + s6_54) (al (rq this 0))) <|
bnd (mset m (rq this 0) (a5_9 + s6_54).toNatClampNeg a3) fun m_126 =>
X (s6_54 + 1) m_126)
else (if s6_54 = (3 : Int32) then (chk (inb (a5_9 + s6_54) (al (rq this 0))) <|
bnd (mset m (rq this 0) (a5_9 + s6_54).toNatClampNeg a4) fun m_126 =>
X (s6_54 + 1) m_126)
else (chk (inb (a5_9 + s6_54) (al (rq this 0))) <|
bnd (mset m (rq this 0) (a5_9 + s6_54).toNatClampNeg 0) fun m_126 =>
X (s6_54 + 1) m_126))))))

def f_X9_add (N : Nat) (this : Nat) (a1 : Int32) (a2 : Int32) (a3 : Int32) (a4 : Int32) (m : Mem) : Ans :=
bnd ((m this 3) * (m this 2)) fun a5_9 =>
if (m this 3) < 0 then (some (0, m))
else (if (m this 1) ≤ (m this 3) then (some (0, m))
else (if a5_9 < 0 then (some (0, m))
else (if a5_9 ≤ ((Int32.ofNat (al (rq this 0))) - (m this 2)) then (it1 (f_X9_add_L54 N this a1 a2 a3 a4 a5_9 ) N 0 m)
else (some (0, m)))))

set_option maxRecDepth 100000 in
set_option maxHeartbeats 4000000 in
theorem ok_X9_add_L54 (N d : Nat) (this : Nat) (a1 : Int32) (a2 : Int32) (a3 : Int32) (a4 : Int32) (h0 : tg this = 9) (a5_9 : Int32)  : ∀ (n : Nat) (s6_54 : Int32) (m : Mem), Ok SX SG (d + 0) m_X9_add 54 [some (.ref this), some (.int a1), some (.int a2), some (.int a3), some (.int a4), some (.int a5_9), some (.int s6_54)] [] SG m (it1 (f_X9_add_L54 N this a1 a2 a3 a4 a5_9) n s6_54 m) :=
  ok_it1 (fun s6_54 => [some (.ref this), some (.int a1), some (.int a2), some (.int a3), some (.int a4), some (.int a5_9), some (.int s6_54)]) (fun X hX s6_54 m => by
    try unfold f_X9_add_L54
    refine ok_iload 56 6 dX9_add_54 rfl rfl ?_
    refine ok_aload_n 57 0 dX9_add_56 rfl rfl rfl ?_
    refine ok_getI 60 dX9_add_57 rfl rfl F_Encores_Table_21 (sg_T _ h0) rfl (Nat.le_of_ble_eq_true rfl) rfl ?_
    refine ok_icmp_ge 133 63 dX9_add_60 (by decide) rfl (fun _ => ?_) (fun _ => ?_)
    · refine ok_aload_n 134 0 dX9_add_133 rfl rfl rfl ?_
      refine ok_dup 135 dX9_add_134 rfl rfl ?_
      refine ok_getI 138 dX9_add_135 rfl rfl F_Encores_Table_28 (sg_T _ h0) rfl (Nat.le_of_ble_eq_true rfl) rfl ?_
      refine ok_iconst 139 1 dX9_add_138 rfl rfl ?_
      refine ok_iadd 140 dX9_add_139 rfl ?_
      refine ok_putI 143 dX9_add_140 rfl rfl F_Encores_Table_28 (sg_T _ h0) rfl (Nat.le_of_ble_eq_true rfl) rfl rfl pZ_9_3 rfl rfl ?_
      refine ok_bndM (fun m_140 => ?_)
      refine ok_iconst 144 1 dX9_add_143 rfl rfl ?_
      exact ok_zretc dX9_add_144 rfl rfl
    · refine ok_iload 65 5 dX9_add_63 rfl rfl ?_
      refine ok_iload 67 6 dX9_add_65 rfl rfl ?_
      refine ok_iadd 68 dX9_add_67 rfl ?_
      refine ok_aload_n 69 0 dX9_add_68 rfl rfl rfl ?_
      refine ok_getR 72 dX9_add_69 rfl rfl F_Encores_Table_24 (sg_T _ h0) rfl (Nat.le_of_ble_eq_true rfl) rfl rfl ?_
      refine ok_alen 73 dX9_add_72 rfl (sg_A _ (rt_9_0 _ h0)) ?_
      refine ok_icmp_ge 133 76 dX9_add_73 (by decide) rfl (fun _ => ?_) (fun _ => ?_)
      · refine ok_aload_n 134 0 dX9_add_133 rfl rfl rfl ?_
        refine ok_dup 135 dX9_add_134 rfl rfl ?_
        refine ok_getI 138 dX9_add_135 rfl rfl F_Encores_Table_28 (sg_T _ h0) rfl (Nat.le_of_ble_eq_true rfl) rfl ?_
        refine ok_iconst 139 1 dX9_add_138 rfl rfl ?_
        refine ok_iadd 140 dX9_add_139 rfl ?_
        refine ok_putI 143 dX9_add_140 rfl rfl F_Encores_Table_28 (sg_T _ h0) rfl (Nat.le_of_ble_eq_true rfl) rfl rfl pZ_9_3 rfl rfl ?_
        refine ok_bndM (fun m_140 => ?_)
        refine ok_iconst 144 1 dX9_add_143 rfl rfl ?_
        exact ok_zretc dX9_add_144 rfl rfl
      · refine ok_aload_n 77 0 dX9_add_76 rfl rfl rfl ?_
        refine ok_getR 80 dX9_add_77 rfl rfl F_Encores_Table_24 (sg_T _ h0) rfl (Nat.le_of_ble_eq_true rfl) rfl rfl ?_
        refine ok_iload 82 5 dX9_add_80 rfl rfl ?_
        refine ok_iload 84 6 dX9_add_82 rfl rfl ?_
        refine ok_iadd 85 dX9_add_84 rfl ?_
        refine ok_iload 87 6 dX9_add_85 rfl rfl ?_
        refine ok_if_ne 94 90 dX9_add_87 (by decide) rfl (fun _ => ?_) (fun _ => ?_)
        · refine ok_iload 96 6 dX9_add_94 rfl rfl ?_
          refine ok_iconst 97 1 dX9_add_96 rfl rfl ?_
          refine ok_icmp_ne 104 100 dX9_add_97 (by decide) rfl (fun _ => ?_) (fun _ => ?_)
          · refine ok_iload 106 6 dX9_add_104 rfl rfl ?_
            refine ok_iconst 107 2 dX9_add_106 rfl rfl ?_
            refine ok_icmp_ne 114 110 dX9_add_107 (by decide) rfl (fun _ => ?_) (fun _ => ?_)
            · refine ok_iload 116 6 dX9_add_114 rfl rfl ?_
              refine ok_iconst 117 3 dX9_add_116 rfl rfl ?_
              refine ok_icmp_ne 125 120 dX9_add_117 (by decide) rfl (fun _ => ?_) (fun _ => ?_)
              · refine ok_iconst 126 0 dX9_add_125 rfl rfl ?_
                refine ok_iast 127 dX9_add_126 rfl (sg_A _ (rt_9_0 _ h0)) ?_
                refine ok_bndM (fun m_126 => ?_)
                refine ok_iinc 130 6 1 [some (.ref this), some (.int a1), some (.int a2), some (.int a3), some (.int a4), some (.int a5_9), some (.int (s6_54 + 1))] dX9_add_127 rfl rfl rfl (by decide) rfl ?_
                refine ok_goto 54 dX9_add_130 (by decide) ?_
                exact ok_less [some (.ref this), some (.int a1), some (.int a2), some (.int a3), some (.int a4), some (.int a5_9), some (.int (s6_54 + 1))] (And.intro rfl (And.intro rfl (And.intro rfl (And.intro rfl (And.intro rfl (And.intro rfl (And.intro rfl (trivial)))))))) (hX (s6_54 + 1) m_126)
              · refine ok_iload 122 4 dX9_add_120 rfl rfl ?_
                refine ok_goto 126 dX9_add_122 (by decide) ?_
                refine ok_iast 127 dX9_add_126 rfl (sg_A _ (rt_9_0 _ h0)) ?_
                refine ok_bndM (fun m_126 => ?_)
                refine ok_iinc 130 6 1 [some (.ref this), some (.int a1), some (.int a2), some (.int a3), some (.int a4), some (.int a5_9), some (.int (s6_54 + 1))] dX9_add_127 rfl rfl rfl (by decide) rfl ?_
                refine ok_goto 54 dX9_add_130 (by decide) ?_
                exact ok_less [some (.ref this), some (.int a1), some (.int a2), some (.int a3), some (.int a4), some (.int a5_9), some (.int (s6_54 + 1))] (And.intro rfl (And.intro rfl (And.intro rfl (And.intro rfl (And.intro rfl (And.intro rfl (And.intro rfl (trivial)))))))) (hX (s6_54 + 1) m_126)
            · refine ok_iload_n 111 3 dX9_add_110 rfl rfl rfl ?_
              refine ok_goto 126 dX9_add_111 (by decide) ?_
              refine ok_iast 127 dX9_add_126 rfl (sg_A _ (rt_9_0 _ h0)) ?_
              refine ok_bndM (fun m_126 => ?_)
              refine ok_iinc 130 6 1 [some (.ref this), some (.int a1), some (.int a2), some (.int a3), some (.int a4), some (.int a5_9), some (.int (s6_54 + 1))] dX9_add_127 rfl rfl rfl (by decide) rfl ?_
              refine ok_goto 54 dX9_add_130 (by decide) ?_
              exact ok_less [some (.ref this), some (.int a1), some (.int a2), some (.int a3), some (.int a4), some (.int a5_9), some (.int (s6_54 + 1))] (And.intro rfl (And.intro rfl (And.intro rfl (And.intro rfl (And.intro rfl (And.intro rfl (And.intro rfl (trivial)))))))) (hX (s6_54 + 1) m_126)
          · refine ok_iload_n 101 2 dX9_add_100 rfl rfl rfl ?_
            refine ok_goto 126 dX9_add_101 (by decide) ?_
            refine ok_iast 127 dX9_add_126 rfl (sg_A _ (rt_9_0 _ h0)) ?_
            refine ok_bndM (fun m_126 => ?_)
            refine ok_iinc 130 6 1 [some (.ref this), some (.int a1), some (.int a2), some (.int a3), some (.int a4), some (.int a5_9), some (.int (s6_54 + 1))] dX9_add_127 rfl rfl rfl (by decide) rfl ?_
            refine ok_goto 54 dX9_add_130 (by decide) ?_
            exact ok_less [some (.ref this), some (.int a1), some (.int a2), some (.int a3), some (.int a4), some (.int a5_9), some (.int (s6_54 + 1))] (And.intro rfl (And.intro rfl (And.intro rfl (And.intro rfl (And.intro rfl (And.intro rfl (And.intro rfl (trivial)))))))) (hX (s6_54 + 1) m_126)
        · refine ok_iload_n 91 1 dX9_add_90 rfl rfl rfl ?_
          refine ok_goto 126 dX9_add_91 (by decide) ?_
          refine ok_iast 127 dX9_add_126 rfl (sg_A _ (rt_9_0 _ h0)) ?_
          refine ok_bndM (fun m_126 => ?_)
          refine ok_iinc 130 6 1 [some (.ref this), some (.int a1), some (.int a2), some (.int a3), some (.int a4), some (.int a5_9), some (.int (s6_54 + 1))] dX9_add_127 rfl rfl rfl (by decide) rfl ?_
          refine ok_goto 54 dX9_add_130 (by decide) ?_
          exact ok_less [some (.ref this), some (.int a1), some (.int a2), some (.int a3), some (.int a4), some (.int a5_9), some (.int (s6_54 + 1))] (And.intro rfl (And.intro rfl (And.intro rfl (And.intro rfl (And.intro rfl (And.intro rfl (And.intro rfl (trivial)))))))) (hX (s6_54 + 1) m_126))

set_option maxRecDepth 100000 in
set_option maxHeartbeats 4000000 in
theorem ok_X9_add (N d : Nat) (this : Nat) (a1 : Int32) (a2 : Int32) (a3 : Int32) (a4 : Int32) (h0 : tg this = 9) (m : Mem) : Ok SX SG (d + 0) m_X9_add 0 [some (.ref this), some (.int a1), some (.int a2), some (.int a3), some (.int a4), none, none] [] SG m (f_X9_add N this a1 a2 a3 a4 m) := by
  unfold f_X9_add
  refine ok_aload_n 1 0 dX9_add_0 rfl rfl rfl ?_
  refine ok_getI 4 dX9_add_1 rfl rfl F_Encores_Table_28 (sg_T _ h0) rfl (Nat.le_of_ble_eq_true rfl) rfl ?_
  refine ok_aload_n 5 0 dX9_add_4 rfl rfl rfl ?_
  refine ok_getI 8 dX9_add_5 rfl rfl F_Encores_Table_21 (sg_T _ h0) rfl (Nat.le_of_ble_eq_true rfl) rfl ?_
  refine ok_imul 9 dX9_add_8 rfl ?_
  refine ok_bndI (fun a5_9 => ?_)
  refine ok_istore 11 5 [some (.ref this), some (.int a1), some (.int a2), some (.int a3), some (.int a4), some (.int a5_9), none] dX9_add_9 rfl (by decide) rfl ?_
  refine ok_aload_n 12 0 dX9_add_11 rfl rfl rfl ?_
  refine ok_getI 15 dX9_add_12 rfl rfl F_Encores_Table_28 (sg_T _ h0) rfl (Nat.le_of_ble_eq_true rfl) rfl ?_
  refine ok_if_lt 49 18 dX9_add_15 (by decide) rfl (fun _ => ?_) (fun _ => ?_)
  · refine ok_iconst 50 0 dX9_add_49 rfl rfl ?_
    exact ok_zretc dX9_add_50 rfl rfl
  · refine ok_aload_n 19 0 dX9_add_18 rfl rfl rfl ?_
    refine ok_getI 22 dX9_add_19 rfl rfl F_Encores_Table_28 (sg_T _ h0) rfl (Nat.le_of_ble_eq_true rfl) rfl ?_
    refine ok_aload_n 23 0 dX9_add_22 rfl rfl rfl ?_
    refine ok_getI 26 dX9_add_23 rfl rfl F_Encores_Table_15 (sg_T _ h0) rfl (Nat.le_of_ble_eq_true rfl) rfl ?_
    refine ok_icmp_ge 49 29 dX9_add_26 (by decide) rfl (fun _ => ?_) (fun _ => ?_)
    · refine ok_iconst 50 0 dX9_add_49 rfl rfl ?_
      exact ok_zretc dX9_add_50 rfl rfl
    · refine ok_iload 31 5 dX9_add_29 rfl rfl ?_
      refine ok_if_lt 49 34 dX9_add_31 (by decide) rfl (fun _ => ?_) (fun _ => ?_)
      · refine ok_iconst 50 0 dX9_add_49 rfl rfl ?_
        exact ok_zretc dX9_add_50 rfl rfl
      · refine ok_iload 36 5 dX9_add_34 rfl rfl ?_
        refine ok_aload_n 37 0 dX9_add_36 rfl rfl rfl ?_
        refine ok_getR 40 dX9_add_37 rfl rfl F_Encores_Table_24 (sg_T _ h0) rfl (Nat.le_of_ble_eq_true rfl) rfl rfl ?_
        refine ok_alen 41 dX9_add_40 rfl (sg_A _ (rt_9_0 _ h0)) ?_
        refine ok_aload_n 42 0 dX9_add_41 rfl rfl rfl ?_
        refine ok_getI 45 dX9_add_42 rfl rfl F_Encores_Table_21 (sg_T _ h0) rfl (Nat.le_of_ble_eq_true rfl) rfl ?_
        refine ok_isub 46 dX9_add_45 rfl ?_
        refine ok_icmp_le 51 49 dX9_add_46 (by decide) rfl (fun _ => ?_) (fun _ => ?_)
        · refine ok_iconst 52 0 dX9_add_51 rfl rfl ?_
          refine ok_istore 54 6 [some (.ref this), some (.int a1), some (.int a2), some (.int a3), some (.int a4), some (.int a5_9), some (.int 0)] dX9_add_52 rfl (by decide) rfl ?_
          refine ok_less [some (.ref this), some (.int a1), some (.int a2), some (.int a3), some (.int a4), some (.int a5_9), some (.int 0)] (And.intro rfl (And.intro rfl (And.intro rfl (And.intro rfl (And.intro rfl (And.intro rfl (And.intro rfl (trivial)))))))) ?_
          exact ok_X9_add_L54 N d this a1 a2 a3 a4 h0 a5_9   N 0 m
        · refine ok_iconst 50 0 dX9_add_49 rfl rfl ?_
          exact ok_zretc dX9_add_50 rfl rfl

theorem c_X9_add (N d : Nat) (this : Nat) (a1 : Int32) (a2 : Int32) (a3 : Int32) (a4 : Int32) (h0 : tg this = 9) (m : Mem) : CM SX (d + 0) m_X9_add SG SG [.ref this, .int a1, .int a2, .int a3, .int a4] m (f_X9_add N this a1 a2 a3 a4 m) :=
  CM.ofOk km_X9_add ⟨Nat.le_refl _, Nat.le_refl _⟩ (by simp [Value.category]) (Nat.le_of_ble_eq_true rfl) (ok_X9_add N d this a1 a2 a3 a4 h0 m)

def f_X1_note (N : Nat) (a1 : Int32) (a2 : Int32) (a3 : Int32) (m : Mem) : Ans :=
bd (f_X9_at N 7 0 1 m) fun r_10 m_10 =>
bd (f_X9_add N 9 r_10 a1 a2 a3 m_10) fun r_16 m_16 =>
some (0, m_16)

set_option maxRecDepth 100000 in
set_option maxHeartbeats 4000000 in
theorem ok_X1_note (N d : Nat) (a1 : Int32) (a2 : Int32) (a3 : Int32)  (m : Mem) : Ok SX SG (d + 1) m_X1_note 0 [some (.ref 2), some (.int a1), some (.int a2), some (.int a3)] [] SG m (f_X1_note N a1 a2 a3 m) := by
  unfold f_X1_note
  refine ok_aload_n 1 0 dX1_note_0 rfl rfl rfl ?_
  refine ok_getR 4 dX1_note_1 rfl rfl F_Encores_House_26 sg_2 rfl (Nat.le_of_ble_eq_true rfl) rfl rfl ?_
  refine ok_aload_n 5 0 dX1_note_4 rfl rfl rfl ?_
  refine ok_getR 8 dX1_note_5 rfl rfl F_Encores_House_23 sg_2 rfl (Nat.le_of_ble_eq_true rfl) rfl rfl ?_
  refine ok_iconst 9 0 dX1_note_8 rfl rfl ?_
  refine ok_iconst 10 1 dX1_note_9 rfl rfl ?_
  refine ok_callVi (np := 2) (M' := m_X9_at) (As := [.int 0, .int 1]) (st := [.ref 9]) 13 dX1_note_10 rfl rfl km_X9_at ki_X9_at kv_X9_at ml_Encores_House_62 (by decide) sg_7 rfl (Nat.le_of_ble_eq_true rfl) rfl rfl rfl (Nat.le_of_ble_eq_true rfl) (c_X9_at N (d + 0) 7 0 1 tg_7 m) ⟨Nat.le_refl _, Nat.le_refl _⟩ (Or.inl rfl) rfl (fun r_10 m_10 _ => ?_)
  refine ok_iload_n 14 1 dX1_note_13 rfl rfl rfl ?_
  refine ok_iload_n 15 2 dX1_note_14 rfl rfl rfl ?_
  refine ok_iload_n 16 3 dX1_note_15 rfl rfl rfl ?_
  refine ok_callVi (np := 4) (M' := m_X9_add) (As := [.int r_10, .int a1, .int a2, .int a3]) (st := []) 19 dX1_note_16 rfl rfl km_X9_add ki_X9_add kv_X9_add ml_Encores_House_50 (by decide) sg_9 rfl (Nat.le_of_ble_eq_true rfl) rfl rfl rfl (Nat.le_of_ble_eq_true rfl) (c_X9_add N (d + 0) 9 r_10 a1 a2 a3 tg_9 m_10) ⟨Nat.le_refl _, Nat.le_refl _⟩ (Or.inl rfl) rfl (fun r_16 m_16 _ => ?_)
  refine ok_pop 20 dX1_note_19 rfl rfl ?_
  exact ok_vret dX1_note_20 rfl

theorem c_X1_note (N d : Nat) (a1 : Int32) (a2 : Int32) (a3 : Int32)  (m : Mem) : CM SX (d + 1) m_X1_note SG SG [.ref 2, .int a1, .int a2, .int a3] m (f_X1_note N a1 a2 a3 m) :=
  CM.ofOk km_X1_note ⟨Nat.le_refl _, Nat.le_refl _⟩ (by simp [Value.category]) (Nat.le_of_ble_eq_true rfl) (ok_X1_note N d a1 a2 a3 m)

def f_X1_those_L4 (N : Nat) (a1 : Int32)   (X : Int32 → Int32 → Mem → Ans) (s2_4 : Int32) (s3_4 : Int32) (m : Mem) : Ans :=
if (m 3 3) ≤ s3_4 then (some (s2_4, m))
else (bd (f_X9_at N 3 s3_4 a1 m) fun r_21 m_21 =>
if r_21 = (1 : Int32) then (bnd (s2_4 ||| ((1 : Int32) <<< (s3_4 &&& 31))) fun a2_33 =>
X a2_33 (s3_4 + 1) m_21)
else (X s2_4 (s3_4 + 1) m_21))

def f_X1_those (N : Nat) (a1 : Int32) (m : Mem) : Ans :=
it2 (f_X1_those_L4 N a1 ) N 0 0 m

set_option maxRecDepth 100000 in
set_option maxHeartbeats 4000000 in
theorem ok_X1_those_L4 (N d : Nat) (a1 : Int32)    : ∀ (n : Nat) (s2_4 : Int32) (s3_4 : Int32) (m : Mem), Ok SX SG (d + 1) m_X1_those 4 [some (.ref 2), some (.int a1), some (.int s2_4), some (.int s3_4)] [] SG m (it2 (f_X1_those_L4 N a1) n s2_4 s3_4 m) :=
  ok_it2 (fun s2_4 s3_4 => [some (.ref 2), some (.int a1), some (.int s2_4), some (.int s3_4)]) (fun X hX s2_4 s3_4 m => by
    try unfold f_X1_those_L4
    refine ok_iload_n 5 3 dX1_those_4 rfl rfl rfl ?_
    refine ok_aload_n 6 0 dX1_those_5 rfl rfl rfl ?_
    refine ok_getR 9 dX1_those_6 rfl rfl F_Encores_House_14 sg_2 rfl (Nat.le_of_ble_eq_true rfl) rfl rfl ?_
    refine ok_getI 12 dX1_those_9 rfl rfl F_Encores_House_66 sg_3 rfl (Nat.le_of_ble_eq_true rfl) rfl ?_
    refine ok_icmp_ge 40 15 dX1_those_12 (by decide) rfl (fun _ => ?_) (fun _ => ?_)
    · refine ok_iload_n 41 2 dX1_those_40 rfl rfl rfl ?_
      exact ok_iret dX1_those_41 rfl
    · refine ok_aload_n 16 0 dX1_those_15 rfl rfl rfl ?_
      refine ok_getR 19 dX1_those_16 rfl rfl F_Encores_House_14 sg_2 rfl (Nat.le_of_ble_eq_true rfl) rfl rfl ?_
      refine ok_iload_n 20 3 dX1_those_19 rfl rfl rfl ?_
      refine ok_iload_n 21 1 dX1_those_20 rfl rfl rfl ?_
      refine ok_callVi (np := 2) (M' := m_X9_at) (As := [.int s3_4, .int a1]) (st := []) 24 dX1_those_21 rfl rfl km_X9_at ki_X9_at kv_X9_at ml_Encores_House_62 (by decide) sg_3 rfl (Nat.le_of_ble_eq_true rfl) rfl rfl rfl (Nat.le_of_ble_eq_true rfl) (c_X9_at N (d + 0) 3 s3_4 a1 tg_3 m) ⟨Nat.le_refl _, Nat.le_refl _⟩ (Or.inl rfl) rfl (fun r_21 m_21 _ => ?_)
      refine ok_iconst 25 1 dX1_those_24 rfl rfl ?_
      refine ok_icmp_ne 34 28 dX1_those_25 (by decide) rfl (fun _ => ?_) (fun _ => ?_)
      · refine ok_iinc 37 3 1 [some (.ref 2), some (.int a1), some (.int s2_4), some (.int (s3_4 + 1))] dX1_those_34 rfl rfl rfl (by decide) rfl ?_
        refine ok_goto 4 dX1_those_37 (by decide) ?_
        exact ok_less [some (.ref 2), some (.int a1), some (.int s2_4), some (.int (s3_4 + 1))] (And.intro rfl (And.intro rfl (And.intro rfl (And.intro rfl (trivial))))) (hX s2_4 (s3_4 + 1) m_21)
      · refine ok_iload_n 29 2 dX1_those_28 rfl rfl rfl ?_
        refine ok_iconst 30 1 dX1_those_29 rfl rfl ?_
        refine ok_iload_n 31 3 dX1_those_30 rfl rfl rfl ?_
        refine ok_ishl 32 dX1_those_31 rfl ?_
        refine ok_ior 33 dX1_those_32 rfl ?_
        refine ok_bndI (fun a2_33 => ?_)
        refine ok_istore_n 34 2 [some (.ref 2), some (.int a1), some (.int a2_33), some (.int s3_4)] dX1_those_33 rfl rfl (by decide) rfl ?_
        refine ok_iinc 37 3 1 [some (.ref 2), some (.int a1), some (.int a2_33), some (.int (s3_4 + 1))] dX1_those_34 rfl rfl rfl (by decide) rfl ?_
        refine ok_goto 4 dX1_those_37 (by decide) ?_
        exact ok_less [some (.ref 2), some (.int a1), some (.int a2_33), some (.int (s3_4 + 1))] (And.intro rfl (And.intro rfl (And.intro rfl (And.intro rfl (trivial))))) (hX a2_33 (s3_4 + 1) m_21))

set_option maxRecDepth 100000 in
set_option maxHeartbeats 4000000 in
theorem ok_X1_those (N d : Nat) (a1 : Int32)  (m : Mem) : Ok SX SG (d + 1) m_X1_those 0 [some (.ref 2), some (.int a1), none, none] [] SG m (f_X1_those N a1 m) := by
  unfold f_X1_those
  refine ok_iconst 1 0 dX1_those_0 rfl rfl ?_
  refine ok_istore_n 2 2 [some (.ref 2), some (.int a1), some (.int 0), none] dX1_those_1 rfl rfl (by decide) rfl ?_
  refine ok_iconst 3 0 dX1_those_2 rfl rfl ?_
  refine ok_istore_n 4 3 [some (.ref 2), some (.int a1), some (.int 0), some (.int 0)] dX1_those_3 rfl rfl (by decide) rfl ?_
  refine ok_less [some (.ref 2), some (.int a1), some (.int 0), some (.int 0)] (And.intro rfl (And.intro rfl (And.intro rfl (And.intro rfl (trivial))))) ?_
  exact ok_X1_those_L4 N d a1    N 0 0 m

theorem c_X1_those (N d : Nat) (a1 : Int32)  (m : Mem) : CM SX (d + 1) m_X1_those SG SG [.ref 2, .int a1] m (f_X1_those N a1 m) :=
  CM.ofOk km_X1_those ⟨Nat.le_refl _, Nat.le_refl _⟩ (by simp [Value.category]) (Nat.le_of_ble_eq_true rfl) (ok_X1_those N d a1 m)

def f_X9_copy (N : Nat) (this : Nat) (a1 : Nat) (m : Mem) : Ans :=
if (Int32.ofNat (al (rq a1 0))) = (Int32.ofNat (al (rq this 0))) then (chk (cpyOk 0 0 (Int32.ofNat (al (rq this 0))) (al (rq a1 0)) (al (rq this 0))) <|
bnd (mcpy m (rq a1 0) (rq this 0) (0 : Int32).toNatClampNeg (0 : Int32).toNatClampNeg ((Int32.ofNat (al (rq this 0))) : Int32).toNatClampNeg) fun m_28 =>
bnd (mset m_28 this 3 (m_28 a1 3)) fun m_36 =>
some (0, m_36))
else (some (0, m))

set_option maxRecDepth 100000 in
set_option maxHeartbeats 4000000 in
theorem ok_X9_copy (N d : Nat) (this : Nat) (a1 : Nat) (h0 : tg this = 9) (h1 : tg a1 = 9) (m : Mem) : Ok SX SG (d + 1) m_X9_copy 0 [some (.ref this), some (.ref a1)] [] SG m (f_X9_copy N this a1 m) := by
  unfold f_X9_copy
  refine ok_aload_n 1 1 dX9_copy_0 rfl rfl rfl ?_
  refine ok_getR 4 dX9_copy_1 rfl rfl F_Encores_Table_24 (sg_T _ h1) rfl (Nat.le_of_ble_eq_true rfl) rfl rfl ?_
  refine ok_alen 5 dX9_copy_4 rfl (sg_A _ (rt_9_0 _ h1)) ?_
  refine ok_aload_n 6 0 dX9_copy_5 rfl rfl rfl ?_
  refine ok_getR 9 dX9_copy_6 rfl rfl F_Encores_Table_24 (sg_T _ h0) rfl (Nat.le_of_ble_eq_true rfl) rfl rfl ?_
  refine ok_alen 10 dX9_copy_9 rfl (sg_A _ (rt_9_0 _ h0)) ?_
  refine ok_icmp_ne 39 13 dX9_copy_10 (by decide) rfl (fun _ => ?_) (fun _ => ?_)
  · exact ok_vret dX9_copy_39 rfl
  · refine ok_aload_n 14 1 dX9_copy_13 rfl rfl rfl ?_
    refine ok_getR 17 dX9_copy_14 rfl rfl F_Encores_Table_24 (sg_T _ h1) rfl (Nat.le_of_ble_eq_true rfl) rfl rfl ?_
    refine ok_iconst 18 0 dX9_copy_17 rfl rfl ?_
    refine ok_aload_n 19 0 dX9_copy_18 rfl rfl rfl ?_
    refine ok_getR 22 dX9_copy_19 rfl rfl F_Encores_Table_24 (sg_T _ h0) rfl (Nat.le_of_ble_eq_true rfl) rfl rfl ?_
    refine ok_iconst 23 0 dX9_copy_22 rfl rfl ?_
    refine ok_aload_n 24 0 dX9_copy_23 rfl rfl rfl ?_
    refine ok_getR 27 dX9_copy_24 rfl rfl F_Encores_Table_24 (sg_T _ h0) rfl (Nat.le_of_ble_eq_true rfl) rfl rfl ?_
    refine ok_alen 28 dX9_copy_27 rfl (sg_A _ (rt_9_0 _ h0)) ?_
    refine ok_copy 31 dX9_copy_28 rfl rfl ml_Encores_Table_31 (Nat.le_of_ble_eq_true rfl) (sg_A _ (rt_9_0 _ h1)) (sg_A _ (rt_9_0 _ h0)) ?_
    refine ok_bndM (fun m_28 => ?_)
    refine ok_aload_n 32 0 dX9_copy_31 rfl rfl rfl ?_
    refine ok_aload_n 33 1 dX9_copy_32 rfl rfl rfl ?_
    refine ok_getI 36 dX9_copy_33 rfl rfl F_Encores_Table_28 (sg_T _ h1) rfl (Nat.le_of_ble_eq_true rfl) rfl ?_
    refine ok_putI 39 dX9_copy_36 rfl rfl F_Encores_Table_28 (sg_T _ h0) rfl (Nat.le_of_ble_eq_true rfl) rfl rfl pZ_9_3 rfl rfl ?_
    refine ok_bndM (fun m_36 => ?_)
    exact ok_vret dX9_copy_39 rfl

theorem c_X9_copy (N d : Nat) (this : Nat) (a1 : Nat) (h0 : tg this = 9) (h1 : tg a1 = 9) (m : Mem) : CM SX (d + 1) m_X9_copy SG SG [.ref this, .ref a1] m (f_X9_copy N this a1 m) :=
  CM.ofOk km_X9_copy ⟨Nat.le_refl _, Nat.le_refl _⟩ (by simp [Value.category]) (Nat.le_of_ble_eq_true rfl) (ok_X9_copy N d this a1 h0 h1 m)

def f_X1_countHands_L2 (N : Nat)   (K30 : Mem → Ans) (X : Int32 → Mem → Ans) (s1_2 : Int32) (m : Mem) : Ans :=
if (m 3 3) ≤ s1_2 then (K30 m)
else (bd (f_X9_put N 3 s1_2 7 1 m) fun _ m_21 =>
X (s1_2 + 1) m_21)

def f_X1_countHands_L32 (N : Nat)    (X : Int32 → Mem → Ans) (s1_32 : Int32) (m : Mem) : Ans :=
if (m 15 3) ≤ s1_32 then (some (0, m))
else (bd (f_X9_at N 15 s1_32 0 m) fun r_49 m_49 =>
if r_49 = (275 : Int32) then (bd (f_X9_at N 15 s1_32 1 m_49) fun r_68 m_68 =>
bd (f_X9_put N 3 r_68 7 2 m_68) fun _ m_74 =>
X (s1_32 + 1) m_74)
else (X (s1_32 + 1) m_49))

def f_X1_countHands (N : Nat)  (m : Mem) : Ans :=
it1 (f_X1_countHands_L2 N (fun mk30 => it1 (f_X1_countHands_L32 N ) N 0 mk30)) N 0 m

set_option maxRecDepth 100000 in
set_option maxHeartbeats 4000000 in
theorem ok_X1_countHands_L2 (N d : Nat)    (K30 : Mem → Ans) (hK30 : ∀  (m : Mem), Ok SX SG (d + 1) m_X1_countHands 30 [some (.ref 2), none] [] SG m (K30 m)) : ∀ (n : Nat) (s1_2 : Int32) (m : Mem), Ok SX SG (d + 1) m_X1_countHands 2 [some (.ref 2), some (.int s1_2)] [] SG m (it1 (f_X1_countHands_L2 N K30) n s1_2 m) :=
  ok_it1 (fun s1_2 => [some (.ref 2), some (.int s1_2)]) (fun X hX s1_2 m => by
    try unfold f_X1_countHands_L2
    refine ok_iload_n 3 1 dX1_countHands_2 rfl rfl rfl ?_
    refine ok_aload_n 4 0 dX1_countHands_3 rfl rfl rfl ?_
    refine ok_getR 7 dX1_countHands_4 rfl rfl F_Encores_House_14 sg_2 rfl (Nat.le_of_ble_eq_true rfl) rfl rfl ?_
    refine ok_getI 10 dX1_countHands_7 rfl rfl F_Encores_House_66 sg_3 rfl (Nat.le_of_ble_eq_true rfl) rfl ?_
    refine ok_icmp_ge 30 13 dX1_countHands_10 (by decide) rfl (fun _ => ?_) (fun _ => ?_)
    · exact ok_less [some (.ref 2), none] (And.intro rfl (trivial)) (hK30 m)
    · refine ok_aload_n 14 0 dX1_countHands_13 rfl rfl rfl ?_
      refine ok_getR 17 dX1_countHands_14 rfl rfl F_Encores_House_14 sg_2 rfl (Nat.le_of_ble_eq_true rfl) rfl rfl ?_
      refine ok_iload_n 18 1 dX1_countHands_17 rfl rfl rfl ?_
      refine ok_bipush 20 7 dX1_countHands_18 rfl rfl ?_
      refine ok_iconst 21 1 dX1_countHands_20 rfl rfl ?_
      refine ok_callVv (np := 3) (M' := m_X9_put) (As := [.int s1_2, .int 7, .int 1]) (st := []) 24 dX1_countHands_21 rfl rfl km_X9_put ki_X9_put kv_X9_put ml_Encores_House_54 (by decide) sg_3 rfl (Nat.le_of_ble_eq_true rfl) rfl rfl rfl (Nat.le_of_ble_eq_true rfl) (c_X9_put N (d + 0) 3 s1_2 7 1 tg_3 m) ⟨Nat.le_refl _, Nat.le_refl _⟩ (Or.inl rfl) rfl (fun _ m_21 _ => ?_)
      refine ok_iinc 27 1 1 [some (.ref 2), some (.int (s1_2 + 1))] dX1_countHands_24 rfl rfl rfl (by decide) rfl ?_
      refine ok_goto 2 dX1_countHands_27 (by decide) ?_
      exact ok_less [some (.ref 2), some (.int (s1_2 + 1))] (And.intro rfl (And.intro rfl (trivial))) (hX (s1_2 + 1) m_21))

set_option maxRecDepth 100000 in
set_option maxHeartbeats 4000000 in
theorem ok_X1_countHands_L32 (N d : Nat)     : ∀ (n : Nat) (s1_32 : Int32) (m : Mem), Ok SX SG (d + 1) m_X1_countHands 32 [some (.ref 2), some (.int s1_32)] [] SG m (it1 (f_X1_countHands_L32 N) n s1_32 m) :=
  ok_it1 (fun s1_32 => [some (.ref 2), some (.int s1_32)]) (fun X hX s1_32 m => by
    try unfold f_X1_countHands_L32
    refine ok_iload_n 33 1 dX1_countHands_32 rfl rfl rfl ?_
    refine ok_aload_n 34 0 dX1_countHands_33 rfl rfl rfl ?_
    refine ok_getR 37 dX1_countHands_34 rfl rfl F_Encores_House_35 sg_2 rfl (Nat.le_of_ble_eq_true rfl) rfl rfl ?_
    refine ok_getI 40 dX1_countHands_37 rfl rfl F_Encores_House_66 sg_15 rfl (Nat.le_of_ble_eq_true rfl) rfl ?_
    refine ok_icmp_ge 83 43 dX1_countHands_40 (by decide) rfl (fun _ => ?_) (fun _ => ?_)
    · exact ok_vret dX1_countHands_83 rfl
    · refine ok_aload_n 44 0 dX1_countHands_43 rfl rfl rfl ?_
      refine ok_getR 47 dX1_countHands_44 rfl rfl F_Encores_House_35 sg_2 rfl (Nat.le_of_ble_eq_true rfl) rfl rfl ?_
      refine ok_iload_n 48 1 dX1_countHands_47 rfl rfl rfl ?_
      refine ok_iconst 49 0 dX1_countHands_48 rfl rfl ?_
      refine ok_callVi (np := 2) (M' := m_X9_at) (As := [.int s1_32, .int 0]) (st := []) 52 dX1_countHands_49 rfl rfl km_X9_at ki_X9_at kv_X9_at ml_Encores_House_62 (by decide) sg_15 rfl (Nat.le_of_ble_eq_true rfl) rfl rfl rfl (Nat.le_of_ble_eq_true rfl) (c_X9_at N (d + 0) 15 s1_32 0 tg_15 m) ⟨Nat.le_refl _, Nat.le_refl _⟩ (Or.inl rfl) rfl (fun r_49 m_49 _ => ?_)
      refine ok_sipush 55 275 dX1_countHands_52 rfl rfl ?_
      refine ok_icmp_ne 77 58 dX1_countHands_55 (by decide) rfl (fun _ => ?_) (fun _ => ?_)
      · refine ok_iinc 80 1 1 [some (.ref 2), some (.int (s1_32 + 1))] dX1_countHands_77 rfl rfl rfl (by decide) rfl ?_
        refine ok_goto 32 dX1_countHands_80 (by decide) ?_
        exact ok_less [some (.ref 2), some (.int (s1_32 + 1))] (And.intro rfl (And.intro rfl (trivial))) (hX (s1_32 + 1) m_49)
      · refine ok_aload_n 59 0 dX1_countHands_58 rfl rfl rfl ?_
        refine ok_getR 62 dX1_countHands_59 rfl rfl F_Encores_House_14 sg_2 rfl (Nat.le_of_ble_eq_true rfl) rfl rfl ?_
        refine ok_aload_n 63 0 dX1_countHands_62 rfl rfl rfl ?_
        refine ok_getR 66 dX1_countHands_63 rfl rfl F_Encores_House_35 sg_2 rfl (Nat.le_of_ble_eq_true rfl) rfl rfl ?_
        refine ok_iload_n 67 1 dX1_countHands_66 rfl rfl rfl ?_
        refine ok_iconst 68 1 dX1_countHands_67 rfl rfl ?_
        refine ok_callVi (np := 2) (M' := m_X9_at) (As := [.int s1_32, .int 1]) (st := [.ref 3]) 71 dX1_countHands_68 rfl rfl km_X9_at ki_X9_at kv_X9_at ml_Encores_House_62 (by decide) sg_15 rfl (Nat.le_of_ble_eq_true rfl) rfl rfl rfl (Nat.le_of_ble_eq_true rfl) (c_X9_at N (d + 0) 15 s1_32 1 tg_15 m_49) ⟨Nat.le_refl _, Nat.le_refl _⟩ (Or.inl rfl) rfl (fun r_68 m_68 _ => ?_)
        refine ok_bipush 73 7 dX1_countHands_71 rfl rfl ?_
        refine ok_iconst 74 2 dX1_countHands_73 rfl rfl ?_
        refine ok_callVv (np := 3) (M' := m_X9_put) (As := [.int r_68, .int 7, .int 2]) (st := []) 77 dX1_countHands_74 rfl rfl km_X9_put ki_X9_put kv_X9_put ml_Encores_House_54 (by decide) sg_3 rfl (Nat.le_of_ble_eq_true rfl) rfl rfl rfl (Nat.le_of_ble_eq_true rfl) (c_X9_put N (d + 0) 3 r_68 7 2 tg_3 m_68) ⟨Nat.le_refl _, Nat.le_refl _⟩ (Or.inl rfl) rfl (fun _ m_74 _ => ?_)
        refine ok_iinc 80 1 1 [some (.ref 2), some (.int (s1_32 + 1))] dX1_countHands_77 rfl rfl rfl (by decide) rfl ?_
        refine ok_goto 32 dX1_countHands_80 (by decide) ?_
        exact ok_less [some (.ref 2), some (.int (s1_32 + 1))] (And.intro rfl (And.intro rfl (trivial))) (hX (s1_32 + 1) m_74))

set_option maxRecDepth 100000 in
set_option maxHeartbeats 4000000 in
theorem ok_X1_countHands (N d : Nat)   (m : Mem) : Ok SX SG (d + 1) m_X1_countHands 0 [some (.ref 2), none] [] SG m (f_X1_countHands N m) := by
  unfold f_X1_countHands
  refine ok_iconst 1 0 dX1_countHands_0 rfl rfl ?_
  refine ok_istore_n 2 1 [some (.ref 2), some (.int 0)] dX1_countHands_1 rfl rfl (by decide) rfl ?_
  refine ok_less [some (.ref 2), some (.int 0)] (And.intro rfl (And.intro rfl (trivial))) ?_
  exact ok_X1_countHands_L2 N d   _ (fun mk30 => by
      refine ok_iconst 31 0 dX1_countHands_30 rfl rfl ?_
      refine ok_istore_n 32 1 [some (.ref 2), some (.int 0)] dX1_countHands_31 rfl rfl (by decide) rfl ?_
      refine ok_less [some (.ref 2), some (.int 0)] (And.intro rfl (And.intro rfl (trivial))) ?_
      exact ok_X1_countHands_L32 N d     N 0 mk30) N 0 m

theorem c_X1_countHands (N d : Nat)   (m : Mem) : CM SX (d + 1) m_X1_countHands SG SG [.ref 2] m (f_X1_countHands N m) :=
  CM.ofOk km_X1_countHands ⟨Nat.le_refl _, Nat.le_refl _⟩ (by simp [Value.category]) (Nat.le_of_ble_eq_true rfl) (ok_X1_countHands N d  m)

def f_X1_seat_J55 (N : Nat)  (s1_2 : Int32) (K88 : Int32 → Mem → Ans) (X : Int32 → Int32 → Mem → Ans) (s2_55 : Int32) (s3_55 : Int32) (m : Mem) : Ans :=
bd (f_X9_at N 19 s3_55 2 m) fun r_61 m_61 =>
if r_61 = s1_2 then (bd (f_X9_at N 19 s3_55 1 m_61) fun r_76 m_76 =>
bnd (s2_55 ||| ((1 : Int32) <<< (r_76 &&& 31))) fun a2_81 =>
X a2_81 (s3_55 + 1) m_76)
else (X s2_55 (s3_55 + 1) m_61)

def f_X1_seat_L17 (N : Nat)  (s1_2 : Int32) (K88 : Int32 → Mem → Ans) (X : Int32 → Int32 → Mem → Ans) (s2_17 : Int32) (s3_17 : Int32) (m : Mem) : Ans :=
if (m 19 3) ≤ s3_17 then (K88 s2_17 m)
else (bd (f_X9_at N 19 s3_17 1 m) fun r_34 m_34 =>
if r_34 = s1_2 then (bd (f_X9_at N 19 s3_17 2 m_34) fun r_49 m_49 =>
bnd (s2_17 ||| ((1 : Int32) <<< (r_49 &&& 31))) fun a2_54 =>
f_X1_seat_J55 N s1_2 K88 X a2_54 s3_17 m_49)
else (f_X1_seat_J55 N s1_2 K88 X s2_17 s3_17 m_34))

def f_X1_seat_L2 (N : Nat)    (X : Int32 → Mem → Ans) (s1_2 : Int32) (m : Mem) : Ans :=
if (m 3 3) ≤ s1_2 then (some (0, m))
else (it2 (f_X1_seat_L17 N s1_2 (fun k2_88 mk88 => bd (f_X9_put N 3 s1_2 6 k2_88 mk88) fun _ m_96 =>
X (s1_2 + 1) m_96)) N 0 0 m)

def f_X1_seat (N : Nat)  (m : Mem) : Ans :=
it1 (f_X1_seat_L2 N ) N 0 m

set_option maxRecDepth 100000 in
set_option maxHeartbeats 4000000 in
theorem ok_X1_seat_J55 (N d : Nat)   (s1_2 : Int32) (K88 : Int32 → Mem → Ans) (X : Int32 → Int32 → Mem → Ans) (hK88 : ∀ (k2 : Int32) (m : Mem), Ok SX SG (d + 1) m_X1_seat 88 [some (.ref 2), some (.int s1_2), some (.int k2), none] [] SG m (K88 k2 m)) (hX : ∀ (k2 : Int32) (k3 : Int32) (m : Mem), Ok SX SG (d + 1) m_X1_seat 17 [some (.ref 2), some (.int s1_2), some (.int k2), some (.int k3)] [] SG m (X k2 k3 m)) (s2_55 : Int32) (s3_55 : Int32) (m : Mem) : Ok SX SG (d + 1) m_X1_seat 55 [some (.ref 2), some (.int s1_2), some (.int s2_55), some (.int s3_55)] [] SG m (f_X1_seat_J55 N s1_2 K88 X s2_55 s3_55 m) := by
  unfold f_X1_seat_J55
  refine ok_aload_n 56 0 dX1_seat_55 rfl rfl rfl ?_
  refine ok_getR 59 dX1_seat_56 rfl rfl F_Encores_House_41 sg_2 rfl (Nat.le_of_ble_eq_true rfl) rfl rfl ?_
  refine ok_iload_n 60 3 dX1_seat_59 rfl rfl rfl ?_
  refine ok_iconst 61 2 dX1_seat_60 rfl rfl ?_
  refine ok_callVi (np := 2) (M' := m_X9_at) (As := [.int s3_55, .int 2]) (st := []) 64 dX1_seat_61 rfl rfl km_X9_at ki_X9_at kv_X9_at ml_Encores_House_62 (by decide) sg_19 rfl (Nat.le_of_ble_eq_true rfl) rfl rfl rfl (Nat.le_of_ble_eq_true rfl) (c_X9_at N (d + 0) 19 s3_55 2 tg_19 m) ⟨Nat.le_refl _, Nat.le_refl _⟩ (Or.inl rfl) rfl (fun r_61 m_61 _ => ?_)
  refine ok_iload_n 65 1 dX1_seat_64 rfl rfl rfl ?_
  refine ok_icmp_ne 82 68 dX1_seat_65 (by decide) rfl (fun _ => ?_) (fun _ => ?_)
  · refine ok_iinc 85 3 1 [some (.ref 2), some (.int s1_2), some (.int s2_55), some (.int (s3_55 + 1))] dX1_seat_82 rfl rfl rfl (by decide) rfl ?_
    refine ok_goto 17 dX1_seat_85 (by decide) ?_
    exact ok_less [some (.ref 2), some (.int s1_2), some (.int s2_55), some (.int (s3_55 + 1))] (And.intro rfl (And.intro rfl (And.intro rfl (And.intro rfl (trivial))))) (hX s2_55 (s3_55 + 1) m_61)
  · refine ok_iload_n 69 2 dX1_seat_68 rfl rfl rfl ?_
    refine ok_iconst 70 1 dX1_seat_69 rfl rfl ?_
    refine ok_aload_n 71 0 dX1_seat_70 rfl rfl rfl ?_
    refine ok_getR 74 dX1_seat_71 rfl rfl F_Encores_House_41 sg_2 rfl (Nat.le_of_ble_eq_true rfl) rfl rfl ?_
    refine ok_iload_n 75 3 dX1_seat_74 rfl rfl rfl ?_
    refine ok_iconst 76 1 dX1_seat_75 rfl rfl ?_
    refine ok_callVi (np := 2) (M' := m_X9_at) (As := [.int s3_55, .int 1]) (st := [.int 1, .int s2_55]) 79 dX1_seat_76 rfl rfl km_X9_at ki_X9_at kv_X9_at ml_Encores_House_62 (by decide) sg_19 rfl (Nat.le_of_ble_eq_true rfl) rfl rfl rfl (Nat.le_of_ble_eq_true rfl) (c_X9_at N (d + 0) 19 s3_55 1 tg_19 m_61) ⟨Nat.le_refl _, Nat.le_refl _⟩ (Or.inl rfl) rfl (fun r_76 m_76 _ => ?_)
    refine ok_ishl 80 dX1_seat_79 rfl ?_
    refine ok_ior 81 dX1_seat_80 rfl ?_
    refine ok_bndI (fun a2_81 => ?_)
    refine ok_istore_n 82 2 [some (.ref 2), some (.int s1_2), some (.int a2_81), some (.int s3_55)] dX1_seat_81 rfl rfl (by decide) rfl ?_
    refine ok_iinc 85 3 1 [some (.ref 2), some (.int s1_2), some (.int a2_81), some (.int (s3_55 + 1))] dX1_seat_82 rfl rfl rfl (by decide) rfl ?_
    refine ok_goto 17 dX1_seat_85 (by decide) ?_
    exact ok_less [some (.ref 2), some (.int s1_2), some (.int a2_81), some (.int (s3_55 + 1))] (And.intro rfl (And.intro rfl (And.intro rfl (And.intro rfl (trivial))))) (hX a2_81 (s3_55 + 1) m_76)

set_option maxRecDepth 100000 in
set_option maxHeartbeats 4000000 in
theorem ok_X1_seat_L17 (N d : Nat)   (s1_2 : Int32) (K88 : Int32 → Mem → Ans) (hK88 : ∀ (k2 : Int32) (m : Mem), Ok SX SG (d + 1) m_X1_seat 88 [some (.ref 2), some (.int s1_2), some (.int k2), none] [] SG m (K88 k2 m)) : ∀ (n : Nat) (s2_17 : Int32) (s3_17 : Int32) (m : Mem), Ok SX SG (d + 1) m_X1_seat 17 [some (.ref 2), some (.int s1_2), some (.int s2_17), some (.int s3_17)] [] SG m (it2 (f_X1_seat_L17 N s1_2 K88) n s2_17 s3_17 m) :=
  ok_it2 (fun s2_17 s3_17 => [some (.ref 2), some (.int s1_2), some (.int s2_17), some (.int s3_17)]) (fun X hX s2_17 s3_17 m => by
    try unfold f_X1_seat_L17
    refine ok_iload_n 18 3 dX1_seat_17 rfl rfl rfl ?_
    refine ok_aload_n 19 0 dX1_seat_18 rfl rfl rfl ?_
    refine ok_getR 22 dX1_seat_19 rfl rfl F_Encores_House_41 sg_2 rfl (Nat.le_of_ble_eq_true rfl) rfl rfl ?_
    refine ok_getI 25 dX1_seat_22 rfl rfl F_Encores_House_66 sg_19 rfl (Nat.le_of_ble_eq_true rfl) rfl ?_
    refine ok_icmp_ge 88 28 dX1_seat_25 (by decide) rfl (fun _ => ?_) (fun _ => ?_)
    · exact ok_less [some (.ref 2), some (.int s1_2), some (.int s2_17), none] (And.intro rfl (And.intro rfl (And.intro rfl (trivial)))) (hK88 s2_17 m)
    · refine ok_aload_n 29 0 dX1_seat_28 rfl rfl rfl ?_
      refine ok_getR 32 dX1_seat_29 rfl rfl F_Encores_House_41 sg_2 rfl (Nat.le_of_ble_eq_true rfl) rfl rfl ?_
      refine ok_iload_n 33 3 dX1_seat_32 rfl rfl rfl ?_
      refine ok_iconst 34 1 dX1_seat_33 rfl rfl ?_
      refine ok_callVi (np := 2) (M' := m_X9_at) (As := [.int s3_17, .int 1]) (st := []) 37 dX1_seat_34 rfl rfl km_X9_at ki_X9_at kv_X9_at ml_Encores_House_62 (by decide) sg_19 rfl (Nat.le_of_ble_eq_true rfl) rfl rfl rfl (Nat.le_of_ble_eq_true rfl) (c_X9_at N (d + 0) 19 s3_17 1 tg_19 m) ⟨Nat.le_refl _, Nat.le_refl _⟩ (Or.inl rfl) rfl (fun r_34 m_34 _ => ?_)
      refine ok_iload_n 38 1 dX1_seat_37 rfl rfl rfl ?_
      refine ok_icmp_ne 55 41 dX1_seat_38 (by decide) rfl (fun _ => ?_) (fun _ => ?_)
      · exact ok_less [some (.ref 2), some (.int s1_2), some (.int s2_17), some (.int s3_17)] (And.intro rfl (And.intro rfl (And.intro rfl (And.intro rfl (trivial))))) (ok_X1_seat_J55 N d  s1_2 K88 X hK88 hX s2_17 s3_17 m_34)
      · refine ok_iload_n 42 2 dX1_seat_41 rfl rfl rfl ?_
        refine ok_iconst 43 1 dX1_seat_42 rfl rfl ?_
        refine ok_aload_n 44 0 dX1_seat_43 rfl rfl rfl ?_
        refine ok_getR 47 dX1_seat_44 rfl rfl F_Encores_House_41 sg_2 rfl (Nat.le_of_ble_eq_true rfl) rfl rfl ?_
        refine ok_iload_n 48 3 dX1_seat_47 rfl rfl rfl ?_
        refine ok_iconst 49 2 dX1_seat_48 rfl rfl ?_
        refine ok_callVi (np := 2) (M' := m_X9_at) (As := [.int s3_17, .int 2]) (st := [.int 1, .int s2_17]) 52 dX1_seat_49 rfl rfl km_X9_at ki_X9_at kv_X9_at ml_Encores_House_62 (by decide) sg_19 rfl (Nat.le_of_ble_eq_true rfl) rfl rfl rfl (Nat.le_of_ble_eq_true rfl) (c_X9_at N (d + 0) 19 s3_17 2 tg_19 m_34) ⟨Nat.le_refl _, Nat.le_refl _⟩ (Or.inl rfl) rfl (fun r_49 m_49 _ => ?_)
        refine ok_ishl 53 dX1_seat_52 rfl ?_
        refine ok_ior 54 dX1_seat_53 rfl ?_
        refine ok_bndI (fun a2_54 => ?_)
        refine ok_istore_n 55 2 [some (.ref 2), some (.int s1_2), some (.int a2_54), some (.int s3_17)] dX1_seat_54 rfl rfl (by decide) rfl ?_
        exact ok_less [some (.ref 2), some (.int s1_2), some (.int a2_54), some (.int s3_17)] (And.intro rfl (And.intro rfl (And.intro rfl (And.intro rfl (trivial))))) (ok_X1_seat_J55 N d  s1_2 K88 X hK88 hX a2_54 s3_17 m_49))

set_option maxRecDepth 100000 in
set_option maxHeartbeats 4000000 in
theorem ok_X1_seat_L2 (N d : Nat)     : ∀ (n : Nat) (s1_2 : Int32) (m : Mem), Ok SX SG (d + 1) m_X1_seat 2 [some (.ref 2), some (.int s1_2), none, none] [] SG m (it1 (f_X1_seat_L2 N) n s1_2 m) :=
  ok_it1 (fun s1_2 => [some (.ref 2), some (.int s1_2), none, none]) (fun X hX s1_2 m => by
    try unfold f_X1_seat_L2
    refine ok_iload_n 3 1 dX1_seat_2 rfl rfl rfl ?_
    refine ok_aload_n 4 0 dX1_seat_3 rfl rfl rfl ?_
    refine ok_getR 7 dX1_seat_4 rfl rfl F_Encores_House_14 sg_2 rfl (Nat.le_of_ble_eq_true rfl) rfl rfl ?_
    refine ok_getI 10 dX1_seat_7 rfl rfl F_Encores_House_66 sg_3 rfl (Nat.le_of_ble_eq_true rfl) rfl ?_
    refine ok_icmp_ge 105 13 dX1_seat_10 (by decide) rfl (fun _ => ?_) (fun _ => ?_)
    · exact ok_vret dX1_seat_105 rfl
    · refine ok_iconst 14 0 dX1_seat_13 rfl rfl ?_
      refine ok_istore_n 15 2 [some (.ref 2), some (.int s1_2), some (.int 0), none] dX1_seat_14 rfl rfl (by decide) rfl ?_
      refine ok_iconst 16 0 dX1_seat_15 rfl rfl ?_
      refine ok_istore_n 17 3 [some (.ref 2), some (.int s1_2), some (.int 0), some (.int 0)] dX1_seat_16 rfl rfl (by decide) rfl ?_
      refine ok_less [some (.ref 2), some (.int s1_2), some (.int 0), some (.int 0)] (And.intro rfl (And.intro rfl (And.intro rfl (And.intro rfl (trivial))))) ?_
      exact ok_X1_seat_L17 N d  s1_2 _ (fun k2_88 mk88 => by
          refine ok_aload_n 89 0 dX1_seat_88 rfl rfl rfl ?_
          refine ok_getR 92 dX1_seat_89 rfl rfl F_Encores_House_14 sg_2 rfl (Nat.le_of_ble_eq_true rfl) rfl rfl ?_
          refine ok_iload_n 93 1 dX1_seat_92 rfl rfl rfl ?_
          refine ok_bipush 95 6 dX1_seat_93 rfl rfl ?_
          refine ok_iload_n 96 2 dX1_seat_95 rfl rfl rfl ?_
          refine ok_callVv (np := 3) (M' := m_X9_put) (As := [.int s1_2, .int 6, .int k2_88]) (st := []) 99 dX1_seat_96 rfl rfl km_X9_put ki_X9_put kv_X9_put ml_Encores_House_54 (by decide) sg_3 rfl (Nat.le_of_ble_eq_true rfl) rfl rfl rfl (Nat.le_of_ble_eq_true rfl) (c_X9_put N (d + 0) 3 s1_2 6 k2_88 tg_3 mk88) ⟨Nat.le_refl _, Nat.le_refl _⟩ (Or.inl rfl) rfl (fun _ m_96 _ => ?_)
          refine ok_iinc 102 1 1 [some (.ref 2), some (.int (s1_2 + 1)), some (.int k2_88), none] dX1_seat_99 rfl rfl rfl (by decide) rfl ?_
          refine ok_goto 2 dX1_seat_102 (by decide) ?_
          exact ok_less [some (.ref 2), some (.int (s1_2 + 1)), none, none] (And.intro rfl (And.intro rfl (trivial))) (hX (s1_2 + 1) m_96)) N 0 0 m)

set_option maxRecDepth 100000 in
set_option maxHeartbeats 4000000 in
theorem ok_X1_seat (N d : Nat)   (m : Mem) : Ok SX SG (d + 1) m_X1_seat 0 [some (.ref 2), none, none, none] [] SG m (f_X1_seat N m) := by
  unfold f_X1_seat
  refine ok_iconst 1 0 dX1_seat_0 rfl rfl ?_
  refine ok_istore_n 2 1 [some (.ref 2), some (.int 0), none, none] dX1_seat_1 rfl rfl (by decide) rfl ?_
  refine ok_less [some (.ref 2), some (.int 0), none, none] (And.intro rfl (And.intro rfl (trivial))) ?_
  exact ok_X1_seat_L2 N d     N 0 m

theorem c_X1_seat (N d : Nat)   (m : Mem) : CM SX (d + 1) m_X1_seat SG SG [.ref 2] m (f_X1_seat N m) :=
  CM.ofOk km_X1_seat ⟨Nat.le_refl _, Nat.le_refl _⟩ (by simp [Value.category]) (Nat.le_of_ble_eq_true rfl) (ok_X1_seat N d  m)

def f_X1_takeText (N : Nat) (a1 : Int32) (m : Mem) : Ans :=
swt (Int32.toInt a1 - (0)) [(bd (f_X9_copy N 11 104 m) fun _ m_37 =>
bd (f_X9_copy N 13 106 m_37) fun _ m_45 =>
some (0, m_45)),
(bd (f_X9_copy N 15 104 m) fun _ m_56 =>
bd (f_X1_countHands N m_56) fun _ m_60 =>
some (0, m_60)),
(bd (f_X9_copy N 17 104 m) fun _ m_71 =>
some (0, m_71)),
(bd (f_X9_copy N 19 104 m) fun _ m_82 =>
bd (f_X1_seat N m_82) fun _ m_86 =>
some (0, m_86))] (some (0, m))

set_option maxRecDepth 100000 in
set_option maxHeartbeats 4000000 in
theorem ok_X1_takeText (N d : Nat) (a1 : Int32)  (m : Mem) : Ok SX SG (d + 2) m_X1_takeText 0 [some (.ref 2), some (.int a1), some (.ref 104), some (.ref 106)] [] SG m (f_X1_takeText N a1 m) := by
  unfold f_X1_takeText
  refine ok_iload_n 1 1 dX1_takeText_0 rfl rfl rfl ?_
  refine ok_tsw 92 [32, 51, 66, 77] dX1_takeText_1 (by decide) (by decide) (by decide) rfl ?_ ?_
  · refine And.intro ?_ (And.intro ?_ (And.intro ?_ (And.intro ?_ (trivial))))
    · refine ok_aload_n 33 0 dX1_takeText_32 rfl rfl rfl ?_
      refine ok_getR 36 dX1_takeText_33 rfl rfl F_Encores_House_29 sg_2 rfl (Nat.le_of_ble_eq_true rfl) rfl rfl ?_
      refine ok_aload_n 37 2 dX1_takeText_36 rfl rfl rfl ?_
      refine ok_callVv (np := 1) (M' := m_X9_copy) (As := [.ref 104]) (st := []) 40 dX1_takeText_37 rfl rfl km_X9_copy ki_X9_copy kv_X9_copy ml_Encores_House_58 (by decide) sg_11 rfl (Nat.le_of_ble_eq_true rfl) rfl rfl rfl (Nat.le_of_ble_eq_true rfl) (c_X9_copy N (d + 0) 11 104 tg_11 tg_104 m) ⟨Nat.le_refl _, Nat.le_refl _⟩ (Or.inl rfl) rfl (fun _ m_37 _ => ?_)
      refine ok_aload_n 41 0 dX1_takeText_40 rfl rfl rfl ?_
      refine ok_getR 44 dX1_takeText_41 rfl rfl F_Encores_House_32 sg_2 rfl (Nat.le_of_ble_eq_true rfl) rfl rfl ?_
      refine ok_aload_n 45 3 dX1_takeText_44 rfl rfl rfl ?_
      refine ok_callVv (np := 1) (M' := m_X9_copy) (As := [.ref 106]) (st := []) 48 dX1_takeText_45 rfl rfl km_X9_copy ki_X9_copy kv_X9_copy ml_Encores_House_58 (by decide) sg_13 rfl (Nat.le_of_ble_eq_true rfl) rfl rfl rfl (Nat.le_of_ble_eq_true rfl) (c_X9_copy N (d + 0) 13 106 tg_13 tg_106 m_37) ⟨Nat.le_refl _, Nat.le_refl _⟩ (Or.inl rfl) rfl (fun _ m_45 _ => ?_)
      refine ok_goto 92 dX1_takeText_48 (by decide) ?_
      exact ok_vret dX1_takeText_92 rfl
    · refine ok_aload_n 52 0 dX1_takeText_51 rfl rfl rfl ?_
      refine ok_getR 55 dX1_takeText_52 rfl rfl F_Encores_House_35 sg_2 rfl (Nat.le_of_ble_eq_true rfl) rfl rfl ?_
      refine ok_aload_n 56 2 dX1_takeText_55 rfl rfl rfl ?_
      refine ok_callVv (np := 1) (M' := m_X9_copy) (As := [.ref 104]) (st := []) 59 dX1_takeText_56 rfl rfl km_X9_copy ki_X9_copy kv_X9_copy ml_Encores_House_58 (by decide) sg_15 rfl (Nat.le_of_ble_eq_true rfl) rfl rfl rfl (Nat.le_of_ble_eq_true rfl) (c_X9_copy N (d + 0) 15 104 tg_15 tg_104 m) ⟨Nat.le_refl _, Nat.le_refl _⟩ (Or.inl rfl) rfl (fun _ m_56 _ => ?_)
      refine ok_aload_n 60 0 dX1_takeText_59 rfl rfl rfl ?_
      refine ok_callVv (np := 0) (M' := m_X1_countHands) (As := []) (st := []) 63 dX1_takeText_60 rfl rfl km_X1_countHands ki_X1_countHands kv_X1_countHands ml_Encores_House_70 (by decide) sg_2 rfl (Nat.le_of_ble_eq_true rfl) rfl rfl rfl (Nat.le_of_ble_eq_true rfl) (c_X1_countHands N (d + 0) m_56) ⟨Nat.le_refl _, Nat.le_refl _⟩ (Or.inl rfl) rfl (fun _ m_60 _ => ?_)
      refine ok_goto 92 dX1_takeText_63 (by decide) ?_
      exact ok_vret dX1_takeText_92 rfl
    · refine ok_aload_n 67 0 dX1_takeText_66 rfl rfl rfl ?_
      refine ok_getR 70 dX1_takeText_67 rfl rfl F_Encores_House_38 sg_2 rfl (Nat.le_of_ble_eq_true rfl) rfl rfl ?_
      refine ok_aload_n 71 2 dX1_takeText_70 rfl rfl rfl ?_
      refine ok_callVv (np := 1) (M' := m_X9_copy) (As := [.ref 104]) (st := []) 74 dX1_takeText_71 rfl rfl km_X9_copy ki_X9_copy kv_X9_copy ml_Encores_House_58 (by decide) sg_17 rfl (Nat.le_of_ble_eq_true rfl) rfl rfl rfl (Nat.le_of_ble_eq_true rfl) (c_X9_copy N (d + 0) 17 104 tg_17 tg_104 m) ⟨Nat.le_refl _, Nat.le_refl _⟩ (Or.inl rfl) rfl (fun _ m_71 _ => ?_)
      refine ok_goto 92 dX1_takeText_74 (by decide) ?_
      exact ok_vret dX1_takeText_92 rfl
    · refine ok_aload_n 78 0 dX1_takeText_77 rfl rfl rfl ?_
      refine ok_getR 81 dX1_takeText_78 rfl rfl F_Encores_House_41 sg_2 rfl (Nat.le_of_ble_eq_true rfl) rfl rfl ?_
      refine ok_aload_n 82 2 dX1_takeText_81 rfl rfl rfl ?_
      refine ok_callVv (np := 1) (M' := m_X9_copy) (As := [.ref 104]) (st := []) 85 dX1_takeText_82 rfl rfl km_X9_copy ki_X9_copy kv_X9_copy ml_Encores_House_58 (by decide) sg_19 rfl (Nat.le_of_ble_eq_true rfl) rfl rfl rfl (Nat.le_of_ble_eq_true rfl) (c_X9_copy N (d + 0) 19 104 tg_19 tg_104 m) ⟨Nat.le_refl _, Nat.le_refl _⟩ (Or.inl rfl) rfl (fun _ m_82 _ => ?_)
      refine ok_aload_n 86 0 dX1_takeText_85 rfl rfl rfl ?_
      refine ok_callVv (np := 0) (M' := m_X1_seat) (As := []) (st := []) 89 dX1_takeText_86 rfl rfl km_X1_seat ki_X1_seat kv_X1_seat ml_Encores_House_73 (by decide) sg_2 rfl (Nat.le_of_ble_eq_true rfl) rfl rfl rfl (Nat.le_of_ble_eq_true rfl) (c_X1_seat N (d + 0) m_82) ⟨Nat.le_refl _, Nat.le_refl _⟩ (Or.inl rfl) rfl (fun _ m_86 _ => ?_)
      refine ok_goto 92 dX1_takeText_89 (by decide) ?_
      exact ok_vret dX1_takeText_92 rfl
  · exact ok_vret dX1_takeText_92 rfl

theorem c_X1_takeText (N d : Nat) (a1 : Int32)  (m : Mem) : CM SX (d + 2) m_X1_takeText SG SG [.ref 2, .int a1, .ref 104, .ref 106] m (f_X1_takeText N a1 m) :=
  CM.ofOk km_X1_takeText ⟨Nat.le_refl _, Nat.le_refl _⟩ (by simp [Value.category]) (Nat.le_of_ble_eq_true rfl) (ok_X1_takeText N d a1 m)

def f_X1_handsDue_L6 (N : Nat)    (X : Int32 → Int32 → Int32 → Mem → Ans) (s1_6 : Int32) (s2_6 : Int32) (s3_6 : Int32) (m : Mem) : Ans :=
if (m 15 3) ≤ s3_6 then (some (s1_6, m))
else (bd (f_X9_at N 15 s3_6 2 m) fun r_23 m_23 =>
bd (f_X9_at N 15 s3_6 0 m_23) fun r_34 m_34 =>
if r_34 = (264 : Int32) then (if r_23 < s2_6 then (X s1_6 s2_6 (s3_6 + 1) m_34)
else (bd (f_X9_at N 7 0 1 m_34) fun r_57 m_57 =>
if r_57 < r_23 then (X s1_6 s2_6 (s3_6 + 1) m_57)
else (bd (f_X9_at N 15 s3_6 1 m_57) fun r_72 m_72 =>
X r_72 r_23 (s3_6 + 1) m_72)))
else (X s1_6 s2_6 (s3_6 + 1) m_34))

def f_X1_handsDue (N : Nat)  (m : Mem) : Ans :=
it3 (f_X1_handsDue_L6 N ) N 5 (-1) 0 m

set_option maxRecDepth 100000 in
set_option maxHeartbeats 4000000 in
theorem ok_X1_handsDue_L6 (N d : Nat)     : ∀ (n : Nat) (s1_6 : Int32) (s2_6 : Int32) (s3_6 : Int32) (m : Mem), Ok SX SG (d + 1) m_X1_handsDue 6 [some (.ref 2), some (.int s1_6), some (.int s2_6), some (.int s3_6), none] [] SG m (it3 (f_X1_handsDue_L6 N) n s1_6 s2_6 s3_6 m) :=
  ok_it3 (fun s1_6 s2_6 s3_6 => [some (.ref 2), some (.int s1_6), some (.int s2_6), some (.int s3_6), none]) (fun X hX s1_6 s2_6 s3_6 m => by
    try unfold f_X1_handsDue_L6
    refine ok_iload_n 7 3 dX1_handsDue_6 rfl rfl rfl ?_
    refine ok_aload_n 8 0 dX1_handsDue_7 rfl rfl rfl ?_
    refine ok_getR 11 dX1_handsDue_8 rfl rfl F_Encores_House_35 sg_2 rfl (Nat.le_of_ble_eq_true rfl) rfl rfl ?_
    refine ok_getI 14 dX1_handsDue_11 rfl rfl F_Encores_House_66 sg_15 rfl (Nat.le_of_ble_eq_true rfl) rfl ?_
    refine ok_icmp_ge 82 17 dX1_handsDue_14 (by decide) rfl (fun _ => ?_) (fun _ => ?_)
    · refine ok_iload_n 83 1 dX1_handsDue_82 rfl rfl rfl ?_
      exact ok_iret dX1_handsDue_83 rfl
    · refine ok_aload_n 18 0 dX1_handsDue_17 rfl rfl rfl ?_
      refine ok_getR 21 dX1_handsDue_18 rfl rfl F_Encores_House_35 sg_2 rfl (Nat.le_of_ble_eq_true rfl) rfl rfl ?_
      refine ok_iload_n 22 3 dX1_handsDue_21 rfl rfl rfl ?_
      refine ok_iconst 23 2 dX1_handsDue_22 rfl rfl ?_
      refine ok_callVi (np := 2) (M' := m_X9_at) (As := [.int s3_6, .int 2]) (st := []) 26 dX1_handsDue_23 rfl rfl km_X9_at ki_X9_at kv_X9_at ml_Encores_House_62 (by decide) sg_15 rfl (Nat.le_of_ble_eq_true rfl) rfl rfl rfl (Nat.le_of_ble_eq_true rfl) (c_X9_at N (d + 0) 15 s3_6 2 tg_15 m) ⟨Nat.le_refl _, Nat.le_refl _⟩ (Or.inl rfl) rfl (fun r_23 m_23 _ => ?_)
      refine ok_istore 28 4 [some (.ref 2), some (.int s1_6), some (.int s2_6), some (.int s3_6), some (.int r_23)] dX1_handsDue_26 rfl (by decide) rfl ?_
      refine ok_aload_n 29 0 dX1_handsDue_28 rfl rfl rfl ?_
      refine ok_getR 32 dX1_handsDue_29 rfl rfl F_Encores_House_35 sg_2 rfl (Nat.le_of_ble_eq_true rfl) rfl rfl ?_
      refine ok_iload_n 33 3 dX1_handsDue_32 rfl rfl rfl ?_
      refine ok_iconst 34 0 dX1_handsDue_33 rfl rfl ?_
      refine ok_callVi (np := 2) (M' := m_X9_at) (As := [.int s3_6, .int 0]) (st := []) 37 dX1_handsDue_34 rfl rfl km_X9_at ki_X9_at kv_X9_at ml_Encores_House_62 (by decide) sg_15 rfl (Nat.le_of_ble_eq_true rfl) rfl rfl rfl (Nat.le_of_ble_eq_true rfl) (c_X9_at N (d + 0) 15 s3_6 0 tg_15 m_23) ⟨Nat.le_refl _, Nat.le_refl _⟩ (Or.inl rfl) rfl (fun r_34 m_34 _ => ?_)
      refine ok_sipush 40 264 dX1_handsDue_37 rfl rfl ?_
      refine ok_icmp_ne 76 43 dX1_handsDue_40 (by decide) rfl (fun _ => ?_) (fun _ => ?_)
      · refine ok_iinc 79 3 1 [some (.ref 2), some (.int s1_6), some (.int s2_6), some (.int (s3_6 + 1)), some (.int r_23)] dX1_handsDue_76 rfl rfl rfl (by decide) rfl ?_
        refine ok_goto 6 dX1_handsDue_79 (by decide) ?_
        exact ok_less [some (.ref 2), some (.int s1_6), some (.int s2_6), some (.int (s3_6 + 1)), none] (And.intro rfl (And.intro rfl (And.intro rfl (And.intro rfl (trivial))))) (hX s1_6 s2_6 (s3_6 + 1) m_34)
      · refine ok_iload 45 4 dX1_handsDue_43 rfl rfl ?_
        refine ok_iload_n 46 2 dX1_handsDue_45 rfl rfl rfl ?_
        refine ok_icmp_lt 76 49 dX1_handsDue_46 (by decide) rfl (fun _ => ?_) (fun _ => ?_)
        · refine ok_iinc 79 3 1 [some (.ref 2), some (.int s1_6), some (.int s2_6), some (.int (s3_6 + 1)), some (.int r_23)] dX1_handsDue_76 rfl rfl rfl (by decide) rfl ?_
          refine ok_goto 6 dX1_handsDue_79 (by decide) ?_
          exact ok_less [some (.ref 2), some (.int s1_6), some (.int s2_6), some (.int (s3_6 + 1)), none] (And.intro rfl (And.intro rfl (And.intro rfl (And.intro rfl (trivial))))) (hX s1_6 s2_6 (s3_6 + 1) m_34)
        · refine ok_iload 51 4 dX1_handsDue_49 rfl rfl ?_
          refine ok_aload_n 52 0 dX1_handsDue_51 rfl rfl rfl ?_
          refine ok_getR 55 dX1_handsDue_52 rfl rfl F_Encores_House_23 sg_2 rfl (Nat.le_of_ble_eq_true rfl) rfl rfl ?_
          refine ok_iconst 56 0 dX1_handsDue_55 rfl rfl ?_
          refine ok_iconst 57 1 dX1_handsDue_56 rfl rfl ?_
          refine ok_callVi (np := 2) (M' := m_X9_at) (As := [.int 0, .int 1]) (st := [.int r_23]) 60 dX1_handsDue_57 rfl rfl km_X9_at ki_X9_at kv_X9_at ml_Encores_House_62 (by decide) sg_7 rfl (Nat.le_of_ble_eq_true rfl) rfl rfl rfl (Nat.le_of_ble_eq_true rfl) (c_X9_at N (d + 0) 7 0 1 tg_7 m_34) ⟨Nat.le_refl _, Nat.le_refl _⟩ (Or.inl rfl) rfl (fun r_57 m_57 _ => ?_)
          refine ok_icmp_gt 76 63 dX1_handsDue_60 (by decide) rfl (fun _ => ?_) (fun _ => ?_)
          · refine ok_iinc 79 3 1 [some (.ref 2), some (.int s1_6), some (.int s2_6), some (.int (s3_6 + 1)), some (.int r_23)] dX1_handsDue_76 rfl rfl rfl (by decide) rfl ?_
            refine ok_goto 6 dX1_handsDue_79 (by decide) ?_
            exact ok_less [some (.ref 2), some (.int s1_6), some (.int s2_6), some (.int (s3_6 + 1)), none] (And.intro rfl (And.intro rfl (And.intro rfl (And.intro rfl (trivial))))) (hX s1_6 s2_6 (s3_6 + 1) m_57)
          · refine ok_iload 65 4 dX1_handsDue_63 rfl rfl ?_
            refine ok_istore_n 66 2 [some (.ref 2), some (.int s1_6), some (.int r_23), some (.int s3_6), some (.int r_23)] dX1_handsDue_65 rfl rfl (by decide) rfl ?_
            refine ok_aload_n 67 0 dX1_handsDue_66 rfl rfl rfl ?_
            refine ok_getR 70 dX1_handsDue_67 rfl rfl F_Encores_House_35 sg_2 rfl (Nat.le_of_ble_eq_true rfl) rfl rfl ?_
            refine ok_iload_n 71 3 dX1_handsDue_70 rfl rfl rfl ?_
            refine ok_iconst 72 1 dX1_handsDue_71 rfl rfl ?_
            refine ok_callVi (np := 2) (M' := m_X9_at) (As := [.int s3_6, .int 1]) (st := []) 75 dX1_handsDue_72 rfl rfl km_X9_at ki_X9_at kv_X9_at ml_Encores_House_62 (by decide) sg_15 rfl (Nat.le_of_ble_eq_true rfl) rfl rfl rfl (Nat.le_of_ble_eq_true rfl) (c_X9_at N (d + 0) 15 s3_6 1 tg_15 m_57) ⟨Nat.le_refl _, Nat.le_refl _⟩ (Or.inl rfl) rfl (fun r_72 m_72 _ => ?_)
            refine ok_istore_n 76 1 [some (.ref 2), some (.int r_72), some (.int r_23), some (.int s3_6), some (.int r_23)] dX1_handsDue_75 rfl rfl (by decide) rfl ?_
            refine ok_iinc 79 3 1 [some (.ref 2), some (.int r_72), some (.int r_23), some (.int (s3_6 + 1)), some (.int r_23)] dX1_handsDue_76 rfl rfl rfl (by decide) rfl ?_
            refine ok_goto 6 dX1_handsDue_79 (by decide) ?_
            exact ok_less [some (.ref 2), some (.int r_72), some (.int r_23), some (.int (s3_6 + 1)), none] (And.intro rfl (And.intro rfl (And.intro rfl (And.intro rfl (trivial))))) (hX r_72 r_23 (s3_6 + 1) m_72))

set_option maxRecDepth 100000 in
set_option maxHeartbeats 4000000 in
theorem ok_X1_handsDue (N d : Nat)   (m : Mem) : Ok SX SG (d + 1) m_X1_handsDue 0 [some (.ref 2), none, none, none, none] [] SG m (f_X1_handsDue N m) := by
  unfold f_X1_handsDue
  refine ok_iconst 1 5 dX1_handsDue_0 rfl rfl ?_
  refine ok_istore_n 2 1 [some (.ref 2), some (.int 5), none, none, none] dX1_handsDue_1 rfl rfl (by decide) rfl ?_
  refine ok_iconst 3 (-1) dX1_handsDue_2 rfl rfl ?_
  refine ok_istore_n 4 2 [some (.ref 2), some (.int 5), some (.int (-1)), none, none] dX1_handsDue_3 rfl rfl (by decide) rfl ?_
  refine ok_iconst 5 0 dX1_handsDue_4 rfl rfl ?_
  refine ok_istore_n 6 3 [some (.ref 2), some (.int 5), some (.int (-1)), some (.int 0), none] dX1_handsDue_5 rfl rfl (by decide) rfl ?_
  refine ok_less [some (.ref 2), some (.int 5), some (.int (-1)), some (.int 0), none] (And.intro rfl (And.intro rfl (And.intro rfl (And.intro rfl (trivial))))) ?_
  exact ok_X1_handsDue_L6 N d     N 5 (-1) 0 m

theorem c_X1_handsDue (N d : Nat)   (m : Mem) : CM SX (d + 1) m_X1_handsDue SG SG [.ref 2] m (f_X1_handsDue N m) :=
  CM.ofOk km_X1_handsDue ⟨Nat.le_refl _, Nat.le_refl _⟩ (by simp [Value.category]) (Nat.le_of_ble_eq_true rfl) (ok_X1_handsDue N d  m)

def f_X1_lastOf_L5 (N : Nat) (a1 : Int32) (a2 : Int32)   (X : Int32 → Int32 → Mem → Ans) (s3_5 : Int32) (s4_5 : Int32) (m : Mem) : Ans :=
if (m 15 3) ≤ s4_5 then (some (s3_5, m))
else (bd (f_X9_at N 15 s4_5 0 m) fun r_24 m_24 =>
if r_24 = a1 then (bd (f_X9_at N 15 s4_5 1 m_24) fun r_38 m_38 =>
X r_38 (s4_5 + 1) m_38)
else (X s3_5 (s4_5 + 1) m_24))

def f_X1_lastOf (N : Nat) (a1 : Int32) (a2 : Int32) (m : Mem) : Ans :=
it2 (f_X1_lastOf_L5 N a1 a2 ) N a2 0 m

set_option maxRecDepth 100000 in
set_option maxHeartbeats 4000000 in
theorem ok_X1_lastOf_L5 (N d : Nat) (a1 : Int32) (a2 : Int32)    : ∀ (n : Nat) (s3_5 : Int32) (s4_5 : Int32) (m : Mem), Ok SX SG (d + 1) m_X1_lastOf 5 [some (.ref 2), some (.int a1), none, some (.int s3_5), some (.int s4_5)] [] SG m (it2 (f_X1_lastOf_L5 N a1 a2) n s3_5 s4_5 m) :=
  ok_it2 (fun s3_5 s4_5 => [some (.ref 2), some (.int a1), none, some (.int s3_5), some (.int s4_5)]) (fun X hX s3_5 s4_5 m => by
    try unfold f_X1_lastOf_L5
    refine ok_iload 7 4 dX1_lastOf_5 rfl rfl ?_
    refine ok_aload_n 8 0 dX1_lastOf_7 rfl rfl rfl ?_
    refine ok_getR 11 dX1_lastOf_8 rfl rfl F_Encores_House_35 sg_2 rfl (Nat.le_of_ble_eq_true rfl) rfl rfl ?_
    refine ok_getI 14 dX1_lastOf_11 rfl rfl F_Encores_House_66 sg_15 rfl (Nat.le_of_ble_eq_true rfl) rfl ?_
    refine ok_icmp_ge 48 17 dX1_lastOf_14 (by decide) rfl (fun _ => ?_) (fun _ => ?_)
    · refine ok_iload_n 49 3 dX1_lastOf_48 rfl rfl rfl ?_
      exact ok_iret dX1_lastOf_49 rfl
    · refine ok_aload_n 18 0 dX1_lastOf_17 rfl rfl rfl ?_
      refine ok_getR 21 dX1_lastOf_18 rfl rfl F_Encores_House_35 sg_2 rfl (Nat.le_of_ble_eq_true rfl) rfl rfl ?_
      refine ok_iload 23 4 dX1_lastOf_21 rfl rfl ?_
      refine ok_iconst 24 0 dX1_lastOf_23 rfl rfl ?_
      refine ok_callVi (np := 2) (M' := m_X9_at) (As := [.int s4_5, .int 0]) (st := []) 27 dX1_lastOf_24 rfl rfl km_X9_at ki_X9_at kv_X9_at ml_Encores_House_62 (by decide) sg_15 rfl (Nat.le_of_ble_eq_true rfl) rfl rfl rfl (Nat.le_of_ble_eq_true rfl) (c_X9_at N (d + 0) 15 s4_5 0 tg_15 m) ⟨Nat.le_refl _, Nat.le_refl _⟩ (Or.inl rfl) rfl (fun r_24 m_24 _ => ?_)
      refine ok_iload_n 28 1 dX1_lastOf_27 rfl rfl rfl ?_
      refine ok_icmp_ne 42 31 dX1_lastOf_28 (by decide) rfl (fun _ => ?_) (fun _ => ?_)
      · refine ok_iinc 45 4 1 [some (.ref 2), some (.int a1), none, some (.int s3_5), some (.int (s4_5 + 1))] dX1_lastOf_42 rfl rfl rfl (by decide) rfl ?_
        refine ok_goto 5 dX1_lastOf_45 (by decide) ?_
        exact ok_less [some (.ref 2), some (.int a1), none, some (.int s3_5), some (.int (s4_5 + 1))] (And.intro rfl (And.intro rfl (And.intro rfl (And.intro rfl (trivial))))) (hX s3_5 (s4_5 + 1) m_24)
      · refine ok_aload_n 32 0 dX1_lastOf_31 rfl rfl rfl ?_
        refine ok_getR 35 dX1_lastOf_32 rfl rfl F_Encores_House_35 sg_2 rfl (Nat.le_of_ble_eq_true rfl) rfl rfl ?_
        refine ok_iload 37 4 dX1_lastOf_35 rfl rfl ?_
        refine ok_iconst 38 1 dX1_lastOf_37 rfl rfl ?_
        refine ok_callVi (np := 2) (M' := m_X9_at) (As := [.int s4_5, .int 1]) (st := []) 41 dX1_lastOf_38 rfl rfl km_X9_at ki_X9_at kv_X9_at ml_Encores_House_62 (by decide) sg_15 rfl (Nat.le_of_ble_eq_true rfl) rfl rfl rfl (Nat.le_of_ble_eq_true rfl) (c_X9_at N (d + 0) 15 s4_5 1 tg_15 m_24) ⟨Nat.le_refl _, Nat.le_refl _⟩ (Or.inl rfl) rfl (fun r_38 m_38 _ => ?_)
        refine ok_istore_n 42 3 [some (.ref 2), some (.int a1), none, some (.int r_38), some (.int s4_5)] dX1_lastOf_41 rfl rfl (by decide) rfl ?_
        refine ok_iinc 45 4 1 [some (.ref 2), some (.int a1), none, some (.int r_38), some (.int (s4_5 + 1))] dX1_lastOf_42 rfl rfl rfl (by decide) rfl ?_
        refine ok_goto 5 dX1_lastOf_45 (by decide) ?_
        exact ok_less [some (.ref 2), some (.int a1), none, some (.int r_38), some (.int (s4_5 + 1))] (And.intro rfl (And.intro rfl (And.intro rfl (And.intro rfl (trivial))))) (hX r_38 (s4_5 + 1) m_38))

set_option maxRecDepth 100000 in
set_option maxHeartbeats 4000000 in
theorem ok_X1_lastOf (N d : Nat) (a1 : Int32) (a2 : Int32)  (m : Mem) : Ok SX SG (d + 1) m_X1_lastOf 0 [some (.ref 2), some (.int a1), some (.int a2), none, none] [] SG m (f_X1_lastOf N a1 a2 m) := by
  unfold f_X1_lastOf
  refine ok_iload_n 1 2 dX1_lastOf_0 rfl rfl rfl ?_
  refine ok_istore_n 2 3 [some (.ref 2), some (.int a1), some (.int a2), some (.int a2), none] dX1_lastOf_1 rfl rfl (by decide) rfl ?_
  refine ok_iconst 3 0 dX1_lastOf_2 rfl rfl ?_
  refine ok_istore 5 4 [some (.ref 2), some (.int a1), some (.int a2), some (.int a2), some (.int 0)] dX1_lastOf_3 rfl (by decide) rfl ?_
  refine ok_less [some (.ref 2), some (.int a1), none, some (.int a2), some (.int 0)] (And.intro rfl (And.intro rfl (And.intro rfl (And.intro rfl (trivial))))) ?_
  exact ok_X1_lastOf_L5 N d a1 a2    N a2 0 m

theorem c_X1_lastOf (N d : Nat) (a1 : Int32) (a2 : Int32)  (m : Mem) : CM SX (d + 1) m_X1_lastOf SG SG [.ref 2, .int a1, .int a2] m (f_X1_lastOf N a1 a2 m) :=
  CM.ofOk km_X1_lastOf ⟨Nat.le_refl _, Nat.le_refl _⟩ (by simp [Value.category]) (Nat.le_of_ble_eq_true rfl) (ok_X1_lastOf N d a1 a2 m)

def f_X1_mostAgains (N : Nat)  (m : Mem) : Ans :=
bd (f_X1_lastOf N 274 9 m) fun r_6 m_6 =>
some (r_6, m_6)

set_option maxRecDepth 100000 in
set_option maxHeartbeats 4000000 in
theorem ok_X1_mostAgains (N d : Nat)   (m : Mem) : Ok SX SG (d + 2) m_X1_mostAgains 0 [some (.ref 2)] [] SG m (f_X1_mostAgains N m) := by
  unfold f_X1_mostAgains
  refine ok_aload_n 1 0 dX1_mostAgains_0 rfl rfl rfl ?_
  refine ok_sipush 4 274 dX1_mostAgains_1 rfl rfl ?_
  refine ok_bipush 6 9 dX1_mostAgains_4 rfl rfl ?_
  refine ok_callVi (np := 2) (M' := m_X1_lastOf) (As := [.int 274, .int 9]) (st := []) 9 dX1_mostAgains_6 rfl rfl km_X1_lastOf ki_X1_lastOf kv_X1_lastOf ml_Encores_House_76 (by decide) sg_2 rfl (Nat.le_of_ble_eq_true rfl) rfl rfl rfl (Nat.le_of_ble_eq_true rfl) (c_X1_lastOf N (d + 0) 274 9 m) ⟨Nat.le_refl _, Nat.le_refl _⟩ (Or.inl rfl) rfl (fun r_6 m_6 _ => ?_)
  exact ok_iret dX1_mostAgains_9 rfl

theorem c_X1_mostAgains (N d : Nat)   (m : Mem) : CM SX (d + 2) m_X1_mostAgains SG SG [.ref 2] m (f_X1_mostAgains N m) :=
  CM.ofOk km_X1_mostAgains ⟨Nat.le_refl _, Nat.le_refl _⟩ (by simp [Value.category]) (Nat.le_of_ble_eq_true rfl) (ok_X1_mostAgains N d  m)

def f_X1_endMinute (N : Nat)  (m : Mem) : Ans :=
bd (f_X1_lastOf N 276 300 m) fun r_7 m_7 =>
some (r_7, m_7)

set_option maxRecDepth 100000 in
set_option maxHeartbeats 4000000 in
theorem ok_X1_endMinute (N d : Nat)   (m : Mem) : Ok SX SG (d + 2) m_X1_endMinute 0 [some (.ref 2)] [] SG m (f_X1_endMinute N m) := by
  unfold f_X1_endMinute
  refine ok_aload_n 1 0 dX1_endMinute_0 rfl rfl rfl ?_
  refine ok_sipush 4 276 dX1_endMinute_1 rfl rfl ?_
  refine ok_sipush 7 300 dX1_endMinute_4 rfl rfl ?_
  refine ok_callVi (np := 2) (M' := m_X1_lastOf) (As := [.int 276, .int 300]) (st := []) 10 dX1_endMinute_7 rfl rfl km_X1_lastOf ki_X1_lastOf kv_X1_lastOf ml_Encores_House_76 (by decide) sg_2 rfl (Nat.le_of_ble_eq_true rfl) rfl rfl rfl (Nat.le_of_ble_eq_true rfl) (c_X1_lastOf N (d + 0) 276 300 m) ⟨Nat.le_refl _, Nat.le_refl _⟩ (Or.inl rfl) rfl (fun r_7 m_7 _ => ?_)
  exact ok_iret dX1_endMinute_10 rfl

theorem c_X1_endMinute (N d : Nat)   (m : Mem) : CM SX (d + 2) m_X1_endMinute SG SG [.ref 2] m (f_X1_endMinute N m) :=
  CM.ofOk km_X1_endMinute ⟨Nat.le_refl _, Nat.le_refl _⟩ (by simp [Value.category]) (Nat.le_of_ble_eq_true rfl) (ok_X1_endMinute N d  m)

def f_X1_mayGoOn (N : Nat)  (m : Mem) : Ans :=
bd (f_X9_at N 7 0 5 m) fun r_6 m_6 =>
bd (f_X1_mostAgains N m_6) fun r_10 m_10 =>
if r_10 ≤ r_6 then (some (0, m_10))
else (bd (f_X9_at N 7 0 0 m_10) fun r_22 m_22 =>
bd (f_X1_endMinute N m_22) fun r_26 m_26 =>
if r_26 ≤ r_22 then (some (0, m_26))
else (some (1, m_26)))

set_option maxRecDepth 100000 in
set_option maxHeartbeats 4000000 in
theorem ok_X1_mayGoOn (N d : Nat)   (m : Mem) : Ok SX SG (d + 3) m_X1_mayGoOn 0 [some (.ref 2)] [] SG m (f_X1_mayGoOn N m) := by
  unfold f_X1_mayGoOn
  refine ok_aload_n 1 0 dX1_mayGoOn_0 rfl rfl rfl ?_
  refine ok_getR 4 dX1_mayGoOn_1 rfl rfl F_Encores_House_23 sg_2 rfl (Nat.le_of_ble_eq_true rfl) rfl rfl ?_
  refine ok_iconst 5 0 dX1_mayGoOn_4 rfl rfl ?_
  refine ok_iconst 6 5 dX1_mayGoOn_5 rfl rfl ?_
  refine ok_callVi (np := 2) (M' := m_X9_at) (As := [.int 0, .int 5]) (st := []) 9 dX1_mayGoOn_6 rfl rfl km_X9_at ki_X9_at kv_X9_at ml_Encores_House_62 (by decide) sg_7 rfl (Nat.le_of_ble_eq_true rfl) rfl rfl rfl (Nat.le_of_ble_eq_true rfl) (c_X9_at N (d + 2) 7 0 5 tg_7 m) ⟨Nat.le_refl _, Nat.le_refl _⟩ (Or.inl rfl) rfl (fun r_6 m_6 _ => ?_)
  refine ok_aload_n 10 0 dX1_mayGoOn_9 rfl rfl rfl ?_
  refine ok_callVi (np := 0) (M' := m_X1_mostAgains) (As := []) (st := [.int r_6]) 13 dX1_mayGoOn_10 rfl rfl km_X1_mostAgains ki_X1_mostAgains kv_X1_mostAgains ml_Encores_House_79 (by decide) sg_2 rfl (Nat.le_of_ble_eq_true rfl) rfl rfl rfl (Nat.le_of_ble_eq_true rfl) (c_X1_mostAgains N (d + 0) m_6) ⟨Nat.le_refl _, Nat.le_refl _⟩ (Or.inl rfl) rfl (fun r_10 m_10 _ => ?_)
  refine ok_icmp_ge 36 16 dX1_mayGoOn_13 (by decide) rfl (fun _ => ?_) (fun _ => ?_)
  · refine ok_iconst 37 0 dX1_mayGoOn_36 rfl rfl ?_
    exact ok_zretc dX1_mayGoOn_37 rfl rfl
  · refine ok_aload_n 17 0 dX1_mayGoOn_16 rfl rfl rfl ?_
    refine ok_getR 20 dX1_mayGoOn_17 rfl rfl F_Encores_House_23 sg_2 rfl (Nat.le_of_ble_eq_true rfl) rfl rfl ?_
    refine ok_iconst 21 0 dX1_mayGoOn_20 rfl rfl ?_
    refine ok_iconst 22 0 dX1_mayGoOn_21 rfl rfl ?_
    refine ok_callVi (np := 2) (M' := m_X9_at) (As := [.int 0, .int 0]) (st := []) 25 dX1_mayGoOn_22 rfl rfl km_X9_at ki_X9_at kv_X9_at ml_Encores_House_62 (by decide) sg_7 rfl (Nat.le_of_ble_eq_true rfl) rfl rfl rfl (Nat.le_of_ble_eq_true rfl) (c_X9_at N (d + 2) 7 0 0 tg_7 m_10) ⟨Nat.le_refl _, Nat.le_refl _⟩ (Or.inl rfl) rfl (fun r_22 m_22 _ => ?_)
    refine ok_aload_n 26 0 dX1_mayGoOn_25 rfl rfl rfl ?_
    refine ok_callVi (np := 0) (M' := m_X1_endMinute) (As := []) (st := [.int r_22]) 29 dX1_mayGoOn_26 rfl rfl km_X1_endMinute ki_X1_endMinute kv_X1_endMinute ml_Encores_House_83 (by decide) sg_2 rfl (Nat.le_of_ble_eq_true rfl) rfl rfl rfl (Nat.le_of_ble_eq_true rfl) (c_X1_endMinute N (d + 0) m_22) ⟨Nat.le_refl _, Nat.le_refl _⟩ (Or.inl rfl) rfl (fun r_26 m_26 _ => ?_)
    refine ok_icmp_ge 36 32 dX1_mayGoOn_29 (by decide) rfl (fun _ => ?_) (fun _ => ?_)
    · refine ok_iconst 37 0 dX1_mayGoOn_36 rfl rfl ?_
      exact ok_zretc dX1_mayGoOn_37 rfl rfl
    · refine ok_iconst 33 1 dX1_mayGoOn_32 rfl rfl ?_
      refine ok_goto 37 dX1_mayGoOn_33 (by decide) ?_
      exact ok_zretc dX1_mayGoOn_37 rfl rfl

theorem c_X1_mayGoOn (N d : Nat)   (m : Mem) : CM SX (d + 3) m_X1_mayGoOn SG SG [.ref 2] m (f_X1_mayGoOn N m) :=
  CM.ofOk km_X1_mayGoOn ⟨Nat.le_refl _, Nat.le_refl _⟩ (by simp [Value.category]) (Nat.le_of_ble_eq_true rfl) (ok_X1_mayGoOn N d  m)

def f_X9_has (N : Nat) (this : Nat) (a1 : Int32) (m : Mem) : Ans :=
if a1 < 0 then (some (0, m))
else (if (m this 3) ≤ a1 then (some (0, m))
else (if (m this 1) ≤ a1 then (some (0, m))
else (some (1, m))))

set_option maxRecDepth 100000 in
set_option maxHeartbeats 4000000 in
theorem ok_X9_has (N d : Nat) (this : Nat) (a1 : Int32) (h0 : tg this = 9) (m : Mem) : Ok SX SG (d + 0) m_X9_has 0 [some (.ref this), some (.int a1)] [] SG m (f_X9_has N this a1 m) := by
  unfold f_X9_has
  refine ok_iload_n 1 1 dX9_has_0 rfl rfl rfl ?_
  refine ok_if_lt 24 4 dX9_has_1 (by decide) rfl (fun _ => ?_) (fun _ => ?_)
  · refine ok_iconst 25 0 dX9_has_24 rfl rfl ?_
    exact ok_zretc dX9_has_25 rfl rfl
  · refine ok_iload_n 5 1 dX9_has_4 rfl rfl rfl ?_
    refine ok_aload_n 6 0 dX9_has_5 rfl rfl rfl ?_
    refine ok_getI 9 dX9_has_6 rfl rfl F_Encores_Table_28 (sg_T _ h0) rfl (Nat.le_of_ble_eq_true rfl) rfl ?_
    refine ok_icmp_ge 24 12 dX9_has_9 (by decide) rfl (fun _ => ?_) (fun _ => ?_)
    · refine ok_iconst 25 0 dX9_has_24 rfl rfl ?_
      exact ok_zretc dX9_has_25 rfl rfl
    · refine ok_iload_n 13 1 dX9_has_12 rfl rfl rfl ?_
      refine ok_aload_n 14 0 dX9_has_13 rfl rfl rfl ?_
      refine ok_getI 17 dX9_has_14 rfl rfl F_Encores_Table_15 (sg_T _ h0) rfl (Nat.le_of_ble_eq_true rfl) rfl ?_
      refine ok_icmp_ge 24 20 dX9_has_17 (by decide) rfl (fun _ => ?_) (fun _ => ?_)
      · refine ok_iconst 25 0 dX9_has_24 rfl rfl ?_
        exact ok_zretc dX9_has_25 rfl rfl
      · refine ok_iconst 21 1 dX9_has_20 rfl rfl ?_
        refine ok_goto 25 dX9_has_21 (by decide) ?_
        exact ok_zretc dX9_has_25 rfl rfl

theorem c_X9_has (N d : Nat) (this : Nat) (a1 : Int32) (h0 : tg this = 9) (m : Mem) : CM SX (d + 0) m_X9_has SG SG [.ref this, .int a1] m (f_X9_has N this a1 m) :=
  CM.ofOk km_X9_has ⟨Nat.le_refl _, Nat.le_refl _⟩ (by simp [Value.category]) (Nat.le_of_ble_eq_true rfl) (ok_X9_has N d this a1 h0 m)

def f_X2_ask (N : Nat) (a1 : Int32) (a2 : Int32) (m : Mem) : Ans :=
if a1 < 0 then (some (0, m))
else (if (10 : Int32) ≤ a1 then (some (0, m))
else (chk (inb a1 10) <|
bnd (mset m 111 a1.toNatClampNeg a2) fun m_19 =>
some (0, m_19)))

set_option maxRecDepth 100000 in
set_option maxHeartbeats 4000000 in
theorem ok_X2_ask (N d : Nat) (a1 : Int32) (a2 : Int32)  (m : Mem) : Ok SX SG (d + 0) m_X2_ask 0 [some (.ref 110), some (.int a1), some (.int a2)] [] SG m (f_X2_ask N a1 a2 m) := by
  unfold f_X2_ask
  refine ok_iload_n 1 1 dX2_ask_0 rfl rfl rfl ?_
  refine ok_if_lt 20 4 dX2_ask_1 (by decide) rfl (fun _ => ?_) (fun _ => ?_)
  · exact ok_vret dX2_ask_20 rfl
  · refine ok_iload_n 5 1 dX2_ask_4 rfl rfl rfl ?_
    refine ok_aload_n 6 0 dX2_ask_5 rfl rfl rfl ?_
    refine ok_getR 9 dX2_ask_6 rfl rfl F_Encores_Law_9 sg_110 rfl (Nat.le_of_ble_eq_true rfl) rfl rfl ?_
    refine ok_alen 10 dX2_ask_9 rfl sg_111 ?_
    rw [show Int32.ofNat 10 = 10 from rfl]
    refine ok_icmp_ge 20 13 dX2_ask_10 (by decide) rfl (fun _ => ?_) (fun _ => ?_)
    · exact ok_vret dX2_ask_20 rfl
    · refine ok_aload_n 14 0 dX2_ask_13 rfl rfl rfl ?_
      refine ok_getR 17 dX2_ask_14 rfl rfl F_Encores_Law_9 sg_110 rfl (Nat.le_of_ble_eq_true rfl) rfl rfl ?_
      refine ok_iload_n 18 1 dX2_ask_17 rfl rfl rfl ?_
      refine ok_iload_n 19 2 dX2_ask_18 rfl rfl rfl ?_
      refine ok_iast 20 dX2_ask_19 rfl sg_111 ?_
      refine ok_bndM (fun m_19 => ?_)
      exact ok_vret dX2_ask_20 rfl

theorem c_X2_ask (N d : Nat) (a1 : Int32) (a2 : Int32)  (m : Mem) : CM SX (d + 0) m_X2_ask SG SG [.ref 110, .int a1, .int a2] m (f_X2_ask N a1 a2 m) :=
  CM.ofOk km_X2_ask ⟨Nat.le_refl _, Nat.le_refl _⟩ (by simp [Value.category]) (Nat.le_of_ble_eq_true rfl) (ok_X2_ask N d a1 a2 m)

def f_X2_askOf_J129 (N : Nat) (a1 : Int32) (a2 : Int32) (a3 : Int32)   (t0_129 : Int32) (t1_129 : Int32) (m : Mem) : Ans :=
bd (f_X2_ask N t1_129 t0_129 m) fun _ m_129 =>
bd (f_X9_at N 5 a2 0 m_129) fun r_143 m_143 =>
bd (f_X2_ask N 5 r_143 m_143) fun _ m_146 =>
bd (f_X9_at N 5 a2 3 m_146) fun r_161 m_161 =>
bd (f_X2_ask N 6 r_161 m_161) fun _ m_164 =>
bd (f_X9_at N 7 0 5 m_164) fun r_179 m_179 =>
bd (f_X2_ask N 7 r_179 m_179) fun _ m_182 =>
bd (f_X2_ask N 8 a3 m_182) fun _ m_189 =>
bd (f_X9_at N 7 0 0 m_189) fun r_204 m_204 =>
bd (f_X2_ask N 9 (r_204 / (60 : Int32)) m_204) fun _ m_210 =>
some (0, m_210)

def f_X2_askOf_J103 (N : Nat) (a1 : Int32) (a2 : Int32) (a3 : Int32)   (s4_103 : Int32) (t0_103 : Int32) (t1_103 : Int32) (m : Mem) : Ans :=
bd (f_X2_ask N t1_103 t0_103 m) fun _ m_103 =>
if s4_103 = 0 then (f_X2_askOf_J129 N a1 a2 a3 0 4 m_103)
else (bd (f_X9_at N 3 a1 5 m_103) fun r_122 m_122 =>
f_X2_askOf_J129 N a1 a2 a3 r_122 4 m_122)

def f_X2_askOf_J77 (N : Nat) (a1 : Int32) (a2 : Int32) (a3 : Int32)   (s4_77 : Int32) (t0_77 : Int32) (t1_77 : Int32) (m : Mem) : Ans :=
bd (f_X2_ask N t1_77 t0_77 m) fun _ m_77 =>
if s4_77 = 0 then (f_X2_askOf_J103 N a1 a2 a3 s4_77 0 3 m_77)
else (bd (f_X9_at N 3 a1 2 m_77) fun r_96 m_96 =>
f_X2_askOf_J103 N a1 a2 a3 s4_77 r_96 3 m_96)

def f_X2_askOf_J51 (N : Nat) (a1 : Int32) (a2 : Int32) (a3 : Int32)   (s4_51 : Int32) (t0_51 : Int32) (t1_51 : Int32) (m : Mem) : Ans :=
bd (f_X2_ask N t1_51 t0_51 m) fun _ m_51 =>
if s4_51 = 0 then (f_X2_askOf_J77 N a1 a2 a3 s4_51 0 2 m_51)
else (bd (f_X9_at N 3 a1 1 m_51) fun r_70 m_70 =>
f_X2_askOf_J77 N a1 a2 a3 s4_51 r_70 2 m_70)

def f_X2_askOf_J25 (N : Nat) (a1 : Int32) (a2 : Int32) (a3 : Int32)   (s4_25 : Int32) (t0_25 : Int32) (t1_25 : Int32) (m : Mem) : Ans :=
bd (f_X2_ask N t1_25 t0_25 m) fun _ m_25 =>
if s4_25 = 0 then (f_X2_askOf_J51 N a1 a2 a3 s4_25 0 1 m_25)
else (bd (f_X9_at N 3 a1 0 m_25) fun r_44 m_44 =>
f_X2_askOf_J51 N a1 a2 a3 s4_25 r_44 1 m_44)

def f_X2_askOf (N : Nat) (a1 : Int32) (a2 : Int32) (a3 : Int32) (m : Mem) : Ans :=
bd (f_X9_has N 3 a1 m) fun r_8 m_8 =>
if r_8 = 0 then (f_X2_askOf_J25 N a1 a2 a3 r_8 0 0 m_8)
else (f_X2_askOf_J25 N a1 a2 a3 r_8 a1 0 m_8)

set_option maxRecDepth 100000 in
set_option maxHeartbeats 4000000 in
theorem ok_X2_askOf_J129 (N d : Nat) (a1 : Int32) (a2 : Int32) (a3 : Int32)    (t0_129 : Int32) (t1_129 : Int32) (m : Mem) : Ok SX SG (d + 1) m_X2_askOf 129 [some (.ref 110), none, some (.int a2), some (.int a3), none] [.int t0_129, .int t1_129, .ref 110] SG m (f_X2_askOf_J129 N a1 a2 a3 t0_129 t1_129 m) := by
  unfold f_X2_askOf_J129
  refine ok_callVv (np := 2) (M' := m_X2_ask) (As := [.int t1_129, .int t0_129]) (st := []) 132 dX2_askOf_129 rfl rfl km_X2_ask ki_X2_ask kv_X2_ask ml_Encores_Law_30 (by decide) sg_110 rfl (Nat.le_of_ble_eq_true rfl) rfl rfl rfl (Nat.le_of_ble_eq_true rfl) (c_X2_ask N (d + 0) t1_129 t0_129 m) ⟨Nat.le_refl _, Nat.le_refl _⟩ (Or.inl rfl) rfl (fun _ m_129 _ => ?_)
  refine ok_aload_n 133 0 dX2_askOf_132 rfl rfl rfl ?_
  refine ok_iconst 134 5 dX2_askOf_133 rfl rfl ?_
  refine ok_aload_n 135 0 dX2_askOf_134 rfl rfl rfl ?_
  refine ok_getR 138 dX2_askOf_135 rfl rfl F_Encores_Law_18 sg_110 rfl (Nat.le_of_ble_eq_true rfl) rfl rfl ?_
  refine ok_getR 141 dX2_askOf_138 rfl rfl F_Encores_Law_50 sg_2 rfl (Nat.le_of_ble_eq_true rfl) rfl rfl ?_
  refine ok_iload_n 142 2 dX2_askOf_141 rfl rfl rfl ?_
  refine ok_iconst 143 0 dX2_askOf_142 rfl rfl ?_
  refine ok_callVi (np := 2) (M' := m_X9_at) (As := [.int a2, .int 0]) (st := [.int 5, .ref 110]) 146 dX2_askOf_143 rfl rfl km_X9_at ki_X9_at kv_X9_at ml_Encores_Law_46 (by decide) sg_5 rfl (Nat.le_of_ble_eq_true rfl) rfl rfl rfl (Nat.le_of_ble_eq_true rfl) (c_X9_at N (d + 0) 5 a2 0 tg_5 m_129) ⟨Nat.le_refl _, Nat.le_refl _⟩ (Or.inl rfl) rfl (fun r_143 m_143 _ => ?_)
  refine ok_callVv (np := 2) (M' := m_X2_ask) (As := [.int 5, .int r_143]) (st := []) 149 dX2_askOf_146 rfl rfl km_X2_ask ki_X2_ask kv_X2_ask ml_Encores_Law_30 (by decide) sg_110 rfl (Nat.le_of_ble_eq_true rfl) rfl rfl rfl (Nat.le_of_ble_eq_true rfl) (c_X2_ask N (d + 0) 5 r_143 m_143) ⟨Nat.le_refl _, Nat.le_refl _⟩ (Or.inl rfl) rfl (fun _ m_146 _ => ?_)
  refine ok_aload_n 150 0 dX2_askOf_149 rfl rfl rfl ?_
  refine ok_bipush 152 6 dX2_askOf_150 rfl rfl ?_
  refine ok_aload_n 153 0 dX2_askOf_152 rfl rfl rfl ?_
  refine ok_getR 156 dX2_askOf_153 rfl rfl F_Encores_Law_18 sg_110 rfl (Nat.le_of_ble_eq_true rfl) rfl rfl ?_
  refine ok_getR 159 dX2_askOf_156 rfl rfl F_Encores_Law_50 sg_2 rfl (Nat.le_of_ble_eq_true rfl) rfl rfl ?_
  refine ok_iload_n 160 2 dX2_askOf_159 rfl rfl rfl ?_
  refine ok_iconst 161 3 dX2_askOf_160 rfl rfl ?_
  refine ok_callVi (np := 2) (M' := m_X9_at) (As := [.int a2, .int 3]) (st := [.int 6, .ref 110]) 164 dX2_askOf_161 rfl rfl km_X9_at ki_X9_at kv_X9_at ml_Encores_Law_46 (by decide) sg_5 rfl (Nat.le_of_ble_eq_true rfl) rfl rfl rfl (Nat.le_of_ble_eq_true rfl) (c_X9_at N (d + 0) 5 a2 3 tg_5 m_146) ⟨Nat.le_refl _, Nat.le_refl _⟩ (Or.inl rfl) rfl (fun r_161 m_161 _ => ?_)
  refine ok_callVv (np := 2) (M' := m_X2_ask) (As := [.int 6, .int r_161]) (st := []) 167 dX2_askOf_164 rfl rfl km_X2_ask ki_X2_ask kv_X2_ask ml_Encores_Law_30 (by decide) sg_110 rfl (Nat.le_of_ble_eq_true rfl) rfl rfl rfl (Nat.le_of_ble_eq_true rfl) (c_X2_ask N (d + 0) 6 r_161 m_161) ⟨Nat.le_refl _, Nat.le_refl _⟩ (Or.inl rfl) rfl (fun _ m_164 _ => ?_)
  refine ok_aload_n 168 0 dX2_askOf_167 rfl rfl rfl ?_
  refine ok_bipush 170 7 dX2_askOf_168 rfl rfl ?_
  refine ok_aload_n 171 0 dX2_askOf_170 rfl rfl rfl ?_
  refine ok_getR 174 dX2_askOf_171 rfl rfl F_Encores_Law_18 sg_110 rfl (Nat.le_of_ble_eq_true rfl) rfl rfl ?_
  refine ok_getR 177 dX2_askOf_174 rfl rfl F_Encores_Law_53 sg_2 rfl (Nat.le_of_ble_eq_true rfl) rfl rfl ?_
  refine ok_iconst 178 0 dX2_askOf_177 rfl rfl ?_
  refine ok_iconst 179 5 dX2_askOf_178 rfl rfl ?_
  refine ok_callVi (np := 2) (M' := m_X9_at) (As := [.int 0, .int 5]) (st := [.int 7, .ref 110]) 182 dX2_askOf_179 rfl rfl km_X9_at ki_X9_at kv_X9_at ml_Encores_Law_46 (by decide) sg_7 rfl (Nat.le_of_ble_eq_true rfl) rfl rfl rfl (Nat.le_of_ble_eq_true rfl) (c_X9_at N (d + 0) 7 0 5 tg_7 m_164) ⟨Nat.le_refl _, Nat.le_refl _⟩ (Or.inl rfl) rfl (fun r_179 m_179 _ => ?_)
  refine ok_callVv (np := 2) (M' := m_X2_ask) (As := [.int 7, .int r_179]) (st := []) 185 dX2_askOf_182 rfl rfl km_X2_ask ki_X2_ask kv_X2_ask ml_Encores_Law_30 (by decide) sg_110 rfl (Nat.le_of_ble_eq_true rfl) rfl rfl rfl (Nat.le_of_ble_eq_true rfl) (c_X2_ask N (d + 0) 7 r_179 m_179) ⟨Nat.le_refl _, Nat.le_refl _⟩ (Or.inl rfl) rfl (fun _ m_182 _ => ?_)
  refine ok_aload_n 186 0 dX2_askOf_185 rfl rfl rfl ?_
  refine ok_bipush 188 8 dX2_askOf_186 rfl rfl ?_
  refine ok_iload_n 189 3 dX2_askOf_188 rfl rfl rfl ?_
  refine ok_callVv (np := 2) (M' := m_X2_ask) (As := [.int 8, .int a3]) (st := []) 192 dX2_askOf_189 rfl rfl km_X2_ask ki_X2_ask kv_X2_ask ml_Encores_Law_30 (by decide) sg_110 rfl (Nat.le_of_ble_eq_true rfl) rfl rfl rfl (Nat.le_of_ble_eq_true rfl) (c_X2_ask N (d + 0) 8 a3 m_182) ⟨Nat.le_refl _, Nat.le_refl _⟩ (Or.inl rfl) rfl (fun _ m_189 _ => ?_)
  refine ok_aload_n 193 0 dX2_askOf_192 rfl rfl rfl ?_
  refine ok_bipush 195 9 dX2_askOf_193 rfl rfl ?_
  refine ok_aload_n 196 0 dX2_askOf_195 rfl rfl rfl ?_
  refine ok_getR 199 dX2_askOf_196 rfl rfl F_Encores_Law_18 sg_110 rfl (Nat.le_of_ble_eq_true rfl) rfl rfl ?_
  refine ok_getR 202 dX2_askOf_199 rfl rfl F_Encores_Law_53 sg_2 rfl (Nat.le_of_ble_eq_true rfl) rfl rfl ?_
  refine ok_iconst 203 0 dX2_askOf_202 rfl rfl ?_
  refine ok_iconst 204 0 dX2_askOf_203 rfl rfl ?_
  refine ok_callVi (np := 2) (M' := m_X9_at) (As := [.int 0, .int 0]) (st := [.int 9, .ref 110]) 207 dX2_askOf_204 rfl rfl km_X9_at ki_X9_at kv_X9_at ml_Encores_Law_46 (by decide) sg_7 rfl (Nat.le_of_ble_eq_true rfl) rfl rfl rfl (Nat.le_of_ble_eq_true rfl) (c_X9_at N (d + 0) 7 0 0 tg_7 m_189) ⟨Nat.le_refl _, Nat.le_refl _⟩ (Or.inl rfl) rfl (fun r_204 m_204 _ => ?_)
  refine ok_bipush 209 60 dX2_askOf_207 rfl rfl ?_
  refine ok_idivc 210 dX2_askOf_209 rfl (by decide) ?_
  refine ok_callVv (np := 2) (M' := m_X2_ask) (As := [.int 9, .int (r_204 / (60 : Int32))]) (st := []) 213 dX2_askOf_210 rfl rfl km_X2_ask ki_X2_ask kv_X2_ask ml_Encores_Law_30 (by decide) sg_110 rfl (Nat.le_of_ble_eq_true rfl) rfl rfl rfl (Nat.le_of_ble_eq_true rfl) (c_X2_ask N (d + 0) 9 (r_204 / (60 : Int32)) m_204) ⟨Nat.le_refl _, Nat.le_refl _⟩ (Or.inl rfl) rfl (fun _ m_210 _ => ?_)
  exact ok_vret dX2_askOf_213 rfl

set_option maxRecDepth 100000 in
set_option maxHeartbeats 4000000 in
theorem ok_X2_askOf_J103 (N d : Nat) (a1 : Int32) (a2 : Int32) (a3 : Int32)    (s4_103 : Int32) (t0_103 : Int32) (t1_103 : Int32) (m : Mem) : Ok SX SG (d + 1) m_X2_askOf 103 [some (.ref 110), some (.int a1), some (.int a2), some (.int a3), some (.int s4_103)] [.int t0_103, .int t1_103, .ref 110] SG m (f_X2_askOf_J103 N a1 a2 a3 s4_103 t0_103 t1_103 m) := by
  unfold f_X2_askOf_J103
  refine ok_callVv (np := 2) (M' := m_X2_ask) (As := [.int t1_103, .int t0_103]) (st := []) 106 dX2_askOf_103 rfl rfl km_X2_ask ki_X2_ask kv_X2_ask ml_Encores_Law_30 (by decide) sg_110 rfl (Nat.le_of_ble_eq_true rfl) rfl rfl rfl (Nat.le_of_ble_eq_true rfl) (c_X2_ask N (d + 0) t1_103 t0_103 m) ⟨Nat.le_refl _, Nat.le_refl _⟩ (Or.inl rfl) rfl (fun _ m_103 _ => ?_)
  refine ok_aload_n 107 0 dX2_askOf_106 rfl rfl rfl ?_
  refine ok_iconst 108 4 dX2_askOf_107 rfl rfl ?_
  refine ok_iload 110 4 dX2_askOf_108 rfl rfl ?_
  refine ok_if_eq 128 113 dX2_askOf_110 (by decide) rfl (fun _ => ?_) (fun _ => ?_)
  · refine ok_iconst 129 0 dX2_askOf_128 rfl rfl ?_
    exact ok_less [some (.ref 110), none, some (.int a2), some (.int a3), none] (And.intro rfl (And.intro rfl (And.intro rfl (trivial)))) (ok_X2_askOf_J129 N d a1 a2 a3   0 4 m_103)
  · refine ok_aload_n 114 0 dX2_askOf_113 rfl rfl rfl ?_
    refine ok_getR 117 dX2_askOf_114 rfl rfl F_Encores_Law_18 sg_110 rfl (Nat.le_of_ble_eq_true rfl) rfl rfl ?_
    refine ok_getR 120 dX2_askOf_117 rfl rfl F_Encores_Law_34 sg_2 rfl (Nat.le_of_ble_eq_true rfl) rfl rfl ?_
    refine ok_iload_n 121 1 dX2_askOf_120 rfl rfl rfl ?_
    refine ok_iconst 122 5 dX2_askOf_121 rfl rfl ?_
    refine ok_callVi (np := 2) (M' := m_X9_at) (As := [.int a1, .int 5]) (st := [.int 4, .ref 110]) 125 dX2_askOf_122 rfl rfl km_X9_at ki_X9_at kv_X9_at ml_Encores_Law_46 (by decide) sg_3 rfl (Nat.le_of_ble_eq_true rfl) rfl rfl rfl (Nat.le_of_ble_eq_true rfl) (c_X9_at N (d + 0) 3 a1 5 tg_3 m_103) ⟨Nat.le_refl _, Nat.le_refl _⟩ (Or.inl rfl) rfl (fun r_122 m_122 _ => ?_)
    refine ok_goto 129 dX2_askOf_125 (by decide) ?_
    exact ok_less [some (.ref 110), none, some (.int a2), some (.int a3), none] (And.intro rfl (And.intro rfl (And.intro rfl (trivial)))) (ok_X2_askOf_J129 N d a1 a2 a3   r_122 4 m_122)

set_option maxRecDepth 100000 in
set_option maxHeartbeats 4000000 in
theorem ok_X2_askOf_J77 (N d : Nat) (a1 : Int32) (a2 : Int32) (a3 : Int32)    (s4_77 : Int32) (t0_77 : Int32) (t1_77 : Int32) (m : Mem) : Ok SX SG (d + 1) m_X2_askOf 77 [some (.ref 110), some (.int a1), some (.int a2), some (.int a3), some (.int s4_77)] [.int t0_77, .int t1_77, .ref 110] SG m (f_X2_askOf_J77 N a1 a2 a3 s4_77 t0_77 t1_77 m) := by
  unfold f_X2_askOf_J77
  refine ok_callVv (np := 2) (M' := m_X2_ask) (As := [.int t1_77, .int t0_77]) (st := []) 80 dX2_askOf_77 rfl rfl km_X2_ask ki_X2_ask kv_X2_ask ml_Encores_Law_30 (by decide) sg_110 rfl (Nat.le_of_ble_eq_true rfl) rfl rfl rfl (Nat.le_of_ble_eq_true rfl) (c_X2_ask N (d + 0) t1_77 t0_77 m) ⟨Nat.le_refl _, Nat.le_refl _⟩ (Or.inl rfl) rfl (fun _ m_77 _ => ?_)
  refine ok_aload_n 81 0 dX2_askOf_80 rfl rfl rfl ?_
  refine ok_iconst 82 3 dX2_askOf_81 rfl rfl ?_
  refine ok_iload 84 4 dX2_askOf_82 rfl rfl ?_
  refine ok_if_eq 102 87 dX2_askOf_84 (by decide) rfl (fun _ => ?_) (fun _ => ?_)
  · refine ok_iconst 103 0 dX2_askOf_102 rfl rfl ?_
    exact ok_less [some (.ref 110), some (.int a1), some (.int a2), some (.int a3), some (.int s4_77)] (And.intro rfl (And.intro rfl (And.intro rfl (And.intro rfl (And.intro rfl (trivial)))))) (ok_X2_askOf_J103 N d a1 a2 a3   s4_77 0 3 m_77)
  · refine ok_aload_n 88 0 dX2_askOf_87 rfl rfl rfl ?_
    refine ok_getR 91 dX2_askOf_88 rfl rfl F_Encores_Law_18 sg_110 rfl (Nat.le_of_ble_eq_true rfl) rfl rfl ?_
    refine ok_getR 94 dX2_askOf_91 rfl rfl F_Encores_Law_34 sg_2 rfl (Nat.le_of_ble_eq_true rfl) rfl rfl ?_
    refine ok_iload_n 95 1 dX2_askOf_94 rfl rfl rfl ?_
    refine ok_iconst 96 2 dX2_askOf_95 rfl rfl ?_
    refine ok_callVi (np := 2) (M' := m_X9_at) (As := [.int a1, .int 2]) (st := [.int 3, .ref 110]) 99 dX2_askOf_96 rfl rfl km_X9_at ki_X9_at kv_X9_at ml_Encores_Law_46 (by decide) sg_3 rfl (Nat.le_of_ble_eq_true rfl) rfl rfl rfl (Nat.le_of_ble_eq_true rfl) (c_X9_at N (d + 0) 3 a1 2 tg_3 m_77) ⟨Nat.le_refl _, Nat.le_refl _⟩ (Or.inl rfl) rfl (fun r_96 m_96 _ => ?_)
    refine ok_goto 103 dX2_askOf_99 (by decide) ?_
    exact ok_less [some (.ref 110), some (.int a1), some (.int a2), some (.int a3), some (.int s4_77)] (And.intro rfl (And.intro rfl (And.intro rfl (And.intro rfl (And.intro rfl (trivial)))))) (ok_X2_askOf_J103 N d a1 a2 a3   s4_77 r_96 3 m_96)

set_option maxRecDepth 100000 in
set_option maxHeartbeats 4000000 in
theorem ok_X2_askOf_J51 (N d : Nat) (a1 : Int32) (a2 : Int32) (a3 : Int32)    (s4_51 : Int32) (t0_51 : Int32) (t1_51 : Int32) (m : Mem) : Ok SX SG (d + 1) m_X2_askOf 51 [some (.ref 110), some (.int a1), some (.int a2), some (.int a3), some (.int s4_51)] [.int t0_51, .int t1_51, .ref 110] SG m (f_X2_askOf_J51 N a1 a2 a3 s4_51 t0_51 t1_51 m) := by
  unfold f_X2_askOf_J51
  refine ok_callVv (np := 2) (M' := m_X2_ask) (As := [.int t1_51, .int t0_51]) (st := []) 54 dX2_askOf_51 rfl rfl km_X2_ask ki_X2_ask kv_X2_ask ml_Encores_Law_30 (by decide) sg_110 rfl (Nat.le_of_ble_eq_true rfl) rfl rfl rfl (Nat.le_of_ble_eq_true rfl) (c_X2_ask N (d + 0) t1_51 t0_51 m) ⟨Nat.le_refl _, Nat.le_refl _⟩ (Or.inl rfl) rfl (fun _ m_51 _ => ?_)
  refine ok_aload_n 55 0 dX2_askOf_54 rfl rfl rfl ?_
  refine ok_iconst 56 2 dX2_askOf_55 rfl rfl ?_
  refine ok_iload 58 4 dX2_askOf_56 rfl rfl ?_
  refine ok_if_eq 76 61 dX2_askOf_58 (by decide) rfl (fun _ => ?_) (fun _ => ?_)
  · refine ok_iconst 77 0 dX2_askOf_76 rfl rfl ?_
    exact ok_less [some (.ref 110), some (.int a1), some (.int a2), some (.int a3), some (.int s4_51)] (And.intro rfl (And.intro rfl (And.intro rfl (And.intro rfl (And.intro rfl (trivial)))))) (ok_X2_askOf_J77 N d a1 a2 a3   s4_51 0 2 m_51)
  · refine ok_aload_n 62 0 dX2_askOf_61 rfl rfl rfl ?_
    refine ok_getR 65 dX2_askOf_62 rfl rfl F_Encores_Law_18 sg_110 rfl (Nat.le_of_ble_eq_true rfl) rfl rfl ?_
    refine ok_getR 68 dX2_askOf_65 rfl rfl F_Encores_Law_34 sg_2 rfl (Nat.le_of_ble_eq_true rfl) rfl rfl ?_
    refine ok_iload_n 69 1 dX2_askOf_68 rfl rfl rfl ?_
    refine ok_iconst 70 1 dX2_askOf_69 rfl rfl ?_
    refine ok_callVi (np := 2) (M' := m_X9_at) (As := [.int a1, .int 1]) (st := [.int 2, .ref 110]) 73 dX2_askOf_70 rfl rfl km_X9_at ki_X9_at kv_X9_at ml_Encores_Law_46 (by decide) sg_3 rfl (Nat.le_of_ble_eq_true rfl) rfl rfl rfl (Nat.le_of_ble_eq_true rfl) (c_X9_at N (d + 0) 3 a1 1 tg_3 m_51) ⟨Nat.le_refl _, Nat.le_refl _⟩ (Or.inl rfl) rfl (fun r_70 m_70 _ => ?_)
    refine ok_goto 77 dX2_askOf_73 (by decide) ?_
    exact ok_less [some (.ref 110), some (.int a1), some (.int a2), some (.int a3), some (.int s4_51)] (And.intro rfl (And.intro rfl (And.intro rfl (And.intro rfl (And.intro rfl (trivial)))))) (ok_X2_askOf_J77 N d a1 a2 a3   s4_51 r_70 2 m_70)

set_option maxRecDepth 100000 in
set_option maxHeartbeats 4000000 in
theorem ok_X2_askOf_J25 (N d : Nat) (a1 : Int32) (a2 : Int32) (a3 : Int32)    (s4_25 : Int32) (t0_25 : Int32) (t1_25 : Int32) (m : Mem) : Ok SX SG (d + 1) m_X2_askOf 25 [some (.ref 110), some (.int a1), some (.int a2), some (.int a3), some (.int s4_25)] [.int t0_25, .int t1_25, .ref 110] SG m (f_X2_askOf_J25 N a1 a2 a3 s4_25 t0_25 t1_25 m) := by
  unfold f_X2_askOf_J25
  refine ok_callVv (np := 2) (M' := m_X2_ask) (As := [.int t1_25, .int t0_25]) (st := []) 28 dX2_askOf_25 rfl rfl km_X2_ask ki_X2_ask kv_X2_ask ml_Encores_Law_30 (by decide) sg_110 rfl (Nat.le_of_ble_eq_true rfl) rfl rfl rfl (Nat.le_of_ble_eq_true rfl) (c_X2_ask N (d + 0) t1_25 t0_25 m) ⟨Nat.le_refl _, Nat.le_refl _⟩ (Or.inl rfl) rfl (fun _ m_25 _ => ?_)
  refine ok_aload_n 29 0 dX2_askOf_28 rfl rfl rfl ?_
  refine ok_iconst 30 1 dX2_askOf_29 rfl rfl ?_
  refine ok_iload 32 4 dX2_askOf_30 rfl rfl ?_
  refine ok_if_eq 50 35 dX2_askOf_32 (by decide) rfl (fun _ => ?_) (fun _ => ?_)
  · refine ok_iconst 51 0 dX2_askOf_50 rfl rfl ?_
    exact ok_less [some (.ref 110), some (.int a1), some (.int a2), some (.int a3), some (.int s4_25)] (And.intro rfl (And.intro rfl (And.intro rfl (And.intro rfl (And.intro rfl (trivial)))))) (ok_X2_askOf_J51 N d a1 a2 a3   s4_25 0 1 m_25)
  · refine ok_aload_n 36 0 dX2_askOf_35 rfl rfl rfl ?_
    refine ok_getR 39 dX2_askOf_36 rfl rfl F_Encores_Law_18 sg_110 rfl (Nat.le_of_ble_eq_true rfl) rfl rfl ?_
    refine ok_getR 42 dX2_askOf_39 rfl rfl F_Encores_Law_34 sg_2 rfl (Nat.le_of_ble_eq_true rfl) rfl rfl ?_
    refine ok_iload_n 43 1 dX2_askOf_42 rfl rfl rfl ?_
    refine ok_iconst 44 0 dX2_askOf_43 rfl rfl ?_
    refine ok_callVi (np := 2) (M' := m_X9_at) (As := [.int a1, .int 0]) (st := [.int 1, .ref 110]) 47 dX2_askOf_44 rfl rfl km_X9_at ki_X9_at kv_X9_at ml_Encores_Law_46 (by decide) sg_3 rfl (Nat.le_of_ble_eq_true rfl) rfl rfl rfl (Nat.le_of_ble_eq_true rfl) (c_X9_at N (d + 0) 3 a1 0 tg_3 m_25) ⟨Nat.le_refl _, Nat.le_refl _⟩ (Or.inl rfl) rfl (fun r_44 m_44 _ => ?_)
    refine ok_goto 51 dX2_askOf_47 (by decide) ?_
    exact ok_less [some (.ref 110), some (.int a1), some (.int a2), some (.int a3), some (.int s4_25)] (And.intro rfl (And.intro rfl (And.intro rfl (And.intro rfl (And.intro rfl (trivial)))))) (ok_X2_askOf_J51 N d a1 a2 a3   s4_25 r_44 1 m_44)

set_option maxRecDepth 100000 in
set_option maxHeartbeats 4000000 in
theorem ok_X2_askOf (N d : Nat) (a1 : Int32) (a2 : Int32) (a3 : Int32)  (m : Mem) : Ok SX SG (d + 1) m_X2_askOf 0 [some (.ref 110), some (.int a1), some (.int a2), some (.int a3), none] [] SG m (f_X2_askOf N a1 a2 a3 m) := by
  unfold f_X2_askOf
  refine ok_aload_n 1 0 dX2_askOf_0 rfl rfl rfl ?_
  refine ok_getR 4 dX2_askOf_1 rfl rfl F_Encores_Law_18 sg_110 rfl (Nat.le_of_ble_eq_true rfl) rfl rfl ?_
  refine ok_getR 7 dX2_askOf_4 rfl rfl F_Encores_Law_34 sg_2 rfl (Nat.le_of_ble_eq_true rfl) rfl rfl ?_
  refine ok_iload_n 8 1 dX2_askOf_7 rfl rfl rfl ?_
  refine ok_callVi (np := 1) (M' := m_X9_has) (As := [.int a1]) (st := []) 11 dX2_askOf_8 rfl rfl km_X9_has ki_X9_has kv_X9_has ml_Encores_Law_40 (by decide) sg_3 rfl (Nat.le_of_ble_eq_true rfl) rfl rfl rfl (Nat.le_of_ble_eq_true rfl) (c_X9_has N (d + 0) 3 a1 tg_3 m) ⟨Nat.le_refl _, Nat.le_refl _⟩ (Or.inl rfl) rfl (fun r_8 m_8 _ => ?_)
  refine ok_istore 13 4 [some (.ref 110), some (.int a1), some (.int a2), some (.int a3), some (.int r_8)] dX2_askOf_11 rfl (by decide) rfl ?_
  refine ok_aload_n 14 0 dX2_askOf_13 rfl rfl rfl ?_
  refine ok_iconst 15 0 dX2_askOf_14 rfl rfl ?_
  refine ok_iload 17 4 dX2_askOf_15 rfl rfl ?_
  refine ok_if_eq 24 20 dX2_askOf_17 (by decide) rfl (fun _ => ?_) (fun _ => ?_)
  · refine ok_iconst 25 0 dX2_askOf_24 rfl rfl ?_
    exact ok_less [some (.ref 110), some (.int a1), some (.int a2), some (.int a3), some (.int r_8)] (And.intro rfl (And.intro rfl (And.intro rfl (And.intro rfl (And.intro rfl (trivial)))))) (ok_X2_askOf_J25 N d a1 a2 a3   r_8 0 0 m_8)
  · refine ok_iload_n 21 1 dX2_askOf_20 rfl rfl rfl ?_
    refine ok_goto 25 dX2_askOf_21 (by decide) ?_
    exact ok_less [some (.ref 110), some (.int a1), some (.int a2), some (.int a3), some (.int r_8)] (And.intro rfl (And.intro rfl (And.intro rfl (And.intro rfl (And.intro rfl (trivial)))))) (ok_X2_askOf_J25 N d a1 a2 a3   r_8 a1 0 m_8)

theorem c_X2_askOf (N d : Nat) (a1 : Int32) (a2 : Int32) (a3 : Int32)  (m : Mem) : CM SX (d + 1) m_X2_askOf SG SG [.ref 110, .int a1, .int a2, .int a3] m (f_X2_askOf N a1 a2 a3 m) :=
  CM.ofOk km_X2_askOf ⟨Nat.le_refl _, Nat.le_refl _⟩ (by simp [Value.category]) (Nat.le_of_ble_eq_true rfl) (ok_X2_askOf N d a1 a2 a3 m)

def f_X2_answer (N : Nat) (a1 : Int32) (m : Mem) : Ans :=
if a1 < 0 then (some (0, m))
else (if (10 : Int32) ≤ a1 then (some (0, m))
else (chk (inb a1 10) <|
some (m 111 a1.toNatClampNeg, m)))

set_option maxRecDepth 100000 in
set_option maxHeartbeats 4000000 in
theorem ok_X2_answer (N d : Nat) (a1 : Int32)  (m : Mem) : Ok SX SG (d + 0) m_X2_answer 0 [some (.ref 110), some (.int a1)] [] SG m (f_X2_answer N a1 m) := by
  unfold f_X2_answer
  refine ok_iload_n 1 1 dX2_answer_0 rfl rfl rfl ?_
  refine ok_if_lt 22 4 dX2_answer_1 (by decide) rfl (fun _ => ?_) (fun _ => ?_)
  · refine ok_iconst 23 0 dX2_answer_22 rfl rfl ?_
    exact ok_iret dX2_answer_23 rfl
  · refine ok_iload_n 5 1 dX2_answer_4 rfl rfl rfl ?_
    refine ok_aload_n 6 0 dX2_answer_5 rfl rfl rfl ?_
    refine ok_getR 9 dX2_answer_6 rfl rfl F_Encores_Law_9 sg_110 rfl (Nat.le_of_ble_eq_true rfl) rfl rfl ?_
    refine ok_alen 10 dX2_answer_9 rfl sg_111 ?_
    rw [show Int32.ofNat 10 = 10 from rfl]
    refine ok_icmp_ge 22 13 dX2_answer_10 (by decide) rfl (fun _ => ?_) (fun _ => ?_)
    · refine ok_iconst 23 0 dX2_answer_22 rfl rfl ?_
      exact ok_iret dX2_answer_23 rfl
    · refine ok_aload_n 14 0 dX2_answer_13 rfl rfl rfl ?_
      refine ok_getR 17 dX2_answer_14 rfl rfl F_Encores_Law_9 sg_110 rfl (Nat.le_of_ble_eq_true rfl) rfl rfl ?_
      refine ok_iload_n 18 1 dX2_answer_17 rfl rfl rfl ?_
      refine ok_iald 19 dX2_answer_18 rfl sg_111 ?_
      refine ok_goto 23 dX2_answer_19 (by decide) ?_
      exact ok_iret dX2_answer_23 rfl

theorem c_X2_answer (N d : Nat) (a1 : Int32)  (m : Mem) : CM SX (d + 0) m_X2_answer SG SG [.ref 110, .int a1] m (f_X2_answer N a1 m) :=
  CM.ofOk km_X2_answer ⟨Nat.le_refl _, Nat.le_refl _⟩ (by simp [Value.category]) (Nat.le_of_ble_eq_true rfl) (ok_X2_answer N d a1 m)

def f_X2_joined (N : Nat) (a0 : Int32) (a1 : Int32) (a2 : Int32) (m : Mem) : Ans :=
swt (Int32.toInt a0 - (2)) [(some ((a1 * a2), m)),
(if a2 = 0 then (some (0, m))
else (chk (decide (a2 ≠ 0)) <|
some ((a1 / a2), m))),
(some ((a1 + a2), m)),
(some ((a1 - a2), m)),
(if a2 ≤ a1 then (some (0, m))
else (some (1, m))),
(if a1 = a2 then (some (1, m))
else (some (0, m))),
(if a1 ≤ a2 then (some (0, m))
else (some (1, m))),
(some (0, m)),
(some ((a1 &&& a2), m)),
(some ((a1 ||| a2), m))] (some (0, m))

set_option maxRecDepth 100000 in
set_option maxHeartbeats 4000000 in
theorem ok_X2_joined (N d : Nat) (a0 : Int32) (a1 : Int32) (a2 : Int32)  (m : Mem) : Ok SX SG (d + 0) m_X2_joined 0 [some (.int a0), some (.int a1), some (.int a2)] [] SG m (f_X2_joined N a0 a1 a2 m) := by
  unfold f_X2_joined
  refine ok_iload_n 1 0 dX2_joined_0 rfl rfl rfl ?_
  refine ok_tsw 121 [56, 60, 72, 76, 80, 91, 102, 121, 113, 117] dX2_joined_1 (by decide) (by decide) (by decide) rfl ?_ ?_
  · refine And.intro ?_ (And.intro ?_ (And.intro ?_ (And.intro ?_ (And.intro ?_ (And.intro ?_ (And.intro ?_ (And.intro ?_ (And.intro ?_ (And.intro ?_ (trivial))))))))))
    · refine ok_iload_n 57 1 dX2_joined_56 rfl rfl rfl ?_
      refine ok_iload_n 58 2 dX2_joined_57 rfl rfl rfl ?_
      refine ok_imul 59 dX2_joined_58 rfl ?_
      exact ok_iret dX2_joined_59 rfl
    · refine ok_iload_n 61 2 dX2_joined_60 rfl rfl rfl ?_
      refine ok_if_ne 68 64 dX2_joined_61 (by decide) rfl (fun _ => ?_) (fun _ => ?_)
      · refine ok_iload_n 69 1 dX2_joined_68 rfl rfl rfl ?_
        refine ok_iload_n 70 2 dX2_joined_69 rfl rfl rfl ?_
        refine ok_idiv 71 dX2_joined_70 rfl ?_
        exact ok_iret dX2_joined_71 rfl
      · refine ok_iconst 65 0 dX2_joined_64 rfl rfl ?_
        refine ok_goto 71 dX2_joined_65 (by decide) ?_
        exact ok_iret dX2_joined_71 rfl
    · refine ok_iload_n 73 1 dX2_joined_72 rfl rfl rfl ?_
      refine ok_iload_n 74 2 dX2_joined_73 rfl rfl rfl ?_
      refine ok_iadd 75 dX2_joined_74 rfl ?_
      exact ok_iret dX2_joined_75 rfl
    · refine ok_iload_n 77 1 dX2_joined_76 rfl rfl rfl ?_
      refine ok_iload_n 78 2 dX2_joined_77 rfl rfl rfl ?_
      refine ok_isub 79 dX2_joined_78 rfl ?_
      exact ok_iret dX2_joined_79 rfl
    · refine ok_iload_n 81 1 dX2_joined_80 rfl rfl rfl ?_
      refine ok_iload_n 82 2 dX2_joined_81 rfl rfl rfl ?_
      refine ok_icmp_ge 89 85 dX2_joined_82 (by decide) rfl (fun _ => ?_) (fun _ => ?_)
      · refine ok_iconst 90 0 dX2_joined_89 rfl rfl ?_
        exact ok_iret dX2_joined_90 rfl
      · refine ok_iconst 86 1 dX2_joined_85 rfl rfl ?_
        refine ok_goto 90 dX2_joined_86 (by decide) ?_
        exact ok_iret dX2_joined_90 rfl
    · refine ok_iload_n 92 1 dX2_joined_91 rfl rfl rfl ?_
      refine ok_iload_n 93 2 dX2_joined_92 rfl rfl rfl ?_
      refine ok_icmp_ne 100 96 dX2_joined_93 (by decide) rfl (fun _ => ?_) (fun _ => ?_)
      · refine ok_iconst 101 0 dX2_joined_100 rfl rfl ?_
        exact ok_iret dX2_joined_101 rfl
      · refine ok_iconst 97 1 dX2_joined_96 rfl rfl ?_
        refine ok_goto 101 dX2_joined_97 (by decide) ?_
        exact ok_iret dX2_joined_101 rfl
    · refine ok_iload_n 103 1 dX2_joined_102 rfl rfl rfl ?_
      refine ok_iload_n 104 2 dX2_joined_103 rfl rfl rfl ?_
      refine ok_icmp_le 111 107 dX2_joined_104 (by decide) rfl (fun _ => ?_) (fun _ => ?_)
      · refine ok_iconst 112 0 dX2_joined_111 rfl rfl ?_
        exact ok_iret dX2_joined_112 rfl
      · refine ok_iconst 108 1 dX2_joined_107 rfl rfl ?_
        refine ok_goto 112 dX2_joined_108 (by decide) ?_
        exact ok_iret dX2_joined_112 rfl
    · refine ok_iconst 122 0 dX2_joined_121 rfl rfl ?_
      exact ok_iret dX2_joined_122 rfl
    · refine ok_iload_n 114 1 dX2_joined_113 rfl rfl rfl ?_
      refine ok_iload_n 115 2 dX2_joined_114 rfl rfl rfl ?_
      refine ok_iand 116 dX2_joined_115 rfl ?_
      exact ok_iret dX2_joined_116 rfl
    · refine ok_iload_n 118 1 dX2_joined_117 rfl rfl rfl ?_
      refine ok_iload_n 119 2 dX2_joined_118 rfl rfl rfl ?_
      refine ok_ior 120 dX2_joined_119 rfl ?_
      exact ok_iret dX2_joined_120 rfl
  · refine ok_iconst 122 0 dX2_joined_121 rfl rfl ?_
    exact ok_iret dX2_joined_122 rfl

theorem c_X2_joined (N d : Nat) (a0 : Int32) (a1 : Int32) (a2 : Int32)  (m : Mem) : CM SX (d + 0) m_X2_joined SG SG [.int a0, .int a1, .int a2] m (f_X2_joined N a0 a1 a2 m) :=
  CM.ofOk km_X2_joined ⟨Nat.le_refl _, Nat.le_refl _⟩ (by simp [Value.category]) (Nat.le_of_ble_eq_true rfl) (ok_X2_joined N d a0 a1 a2 m)

def f_X2_run_J52 (N : Nat) (a1 : Int32) (a2 : Int32)  (K199 : Int32 → Mem → Ans) (X : Int32 → Int32 → Mem → Ans) (s3_52 : Int32) (s4_52 : Int32) (s5_52 : Int32) (s6_52 : Int32) (m : Mem) : Ans :=
if s3_52 < 0 then (some (0, m))
else (if s3_52 < (22 : Int32) then (if s5_52 = 0 then (chk (inb s3_52 22) <|
bnd (mset m 112 s3_52.toNatClampNeg s6_52) fun m_88 =>
X (s3_52 + 1) (s4_52 + 1) m_88)
else (bd (f_X2_answer N s6_52 m) fun r_85 m_85 =>
chk (inb s3_52 22) <|
bnd (mset m_85 112 s3_52.toNatClampNeg r_85) fun m_88 =>
X (s3_52 + 1) (s4_52 + 1) m_88))
else (some (0, m)))

def f_X2_run_L5 (N : Nat) (a1 : Int32) (a2 : Int32)  (K199 : Int32 → Mem → Ans) (X : Int32 → Int32 → Mem → Ans) (s3_5 : Int32) (s4_5 : Int32) (m : Mem) : Ans :=
if a2 ≤ s4_5 then (K199 s3_5 m)
else (bd (f_X9_at N 13 s4_5 0 m) fun r_21 m_21 =>
bd (f_X9_at N 13 s4_5 1 m_21) fun r_36 m_36 =>
if r_21 = 0 then (f_X2_run_J52 N a1 a2 K199 X s3_5 s4_5 r_21 r_36 m_36)
else (if r_21 = (1 : Int32) then (f_X2_run_J52 N a1 a2 K199 X s3_5 s4_5 r_21 r_36 m_36)
else (if r_21 = (9 : Int32) then (if s3_5 < (1 : Int32) then (some (0, m_36))
else (if s3_5 ≤ (22 : Int32) then (chk (inb (s3_5 - (1 : Int32)) 22) <|
if (m_36 112 (s3_5 - (1 : Int32)).toNatClampNeg) = 0 then (chk (inb (s3_5 - (1 : Int32)) 22) <|
bnd (mset m_36 112 (s3_5 - (1 : Int32)).toNatClampNeg 1) fun m_141 =>
X s3_5 (s4_5 + 1) m_141)
else (chk (inb (s3_5 - (1 : Int32)) 22) <|
bnd (mset m_36 112 (s3_5 - (1 : Int32)).toNatClampNeg 0) fun m_141 =>
X s3_5 (s4_5 + 1) m_141))
else (some (0, m_36))))
else (if s3_5 < (2 : Int32) then (some (0, m_36))
else (if s3_5 ≤ (22 : Int32) then (chk (inb (s3_5 - (2 : Int32)) 22) <|
chk (inb (s3_5 - (1 : Int32)) 22) <|
bd (f_X2_joined N r_21 (m_36 112 (s3_5 - (2 : Int32)).toNatClampNeg) (m_36 112 (s3_5 - (1 : Int32)).toNatClampNeg) m_36) fun r_186 m_186 =>
chk (inb (s3_5 - (2 : Int32)) 22) <|
bnd (mset m_186 112 (s3_5 - (2 : Int32)).toNatClampNeg r_186) fun m_189 =>
X (s3_5 + (-1)) (s4_5 + 1) m_189)
else (some (0, m_36)))))))

def f_X2_run (N : Nat) (a1 : Int32) (a2 : Int32) (m : Mem) : Ans :=
it2 (f_X2_run_L5 N a1 a2 (fun k3_199 mk199 => if k3_199 ≤ 0 then (some (0, mk199))
else (if (22 : Int32) < k3_199 then (some (0, mk199))
else (chk (inb (k3_199 - (1 : Int32)) 22) <|
some (mk199 112 (k3_199 - (1 : Int32)).toNatClampNeg, mk199))))) N 0 a1 m

set_option maxRecDepth 100000 in
set_option maxHeartbeats 4000000 in
theorem ok_X2_run_J52 (N d : Nat) (a1 : Int32) (a2 : Int32)   (K199 : Int32 → Mem → Ans) (X : Int32 → Int32 → Mem → Ans) (hK199 : ∀ (k3 : Int32) (m : Mem), Ok SX SG (d + 1) m_X2_run 199 [some (.ref 110), none, none, some (.int k3), none, none, none] [] SG m (K199 k3 m)) (hX : ∀ (k3 : Int32) (k4 : Int32) (m : Mem), Ok SX SG (d + 1) m_X2_run 5 [some (.ref 110), none, some (.int a2), some (.int k3), some (.int k4), none, none] [] SG m (X k3 k4 m)) (s3_52 : Int32) (s4_52 : Int32) (s5_52 : Int32) (s6_52 : Int32) (m : Mem) : Ok SX SG (d + 1) m_X2_run 52 [some (.ref 110), none, some (.int a2), some (.int s3_52), some (.int s4_52), some (.int s5_52), some (.int s6_52)] [] SG m (f_X2_run_J52 N a1 a2 K199 X s3_52 s4_52 s5_52 s6_52 m) := by
  unfold f_X2_run_J52
  refine ok_iload_n 53 3 dX2_run_52 rfl rfl rfl ?_
  refine ok_if_lt 65 56 dX2_run_53 (by decide) rfl (fun _ => ?_) (fun _ => ?_)
  · refine ok_iconst 66 0 dX2_run_65 rfl rfl ?_
    exact ok_iret dX2_run_66 rfl
  · refine ok_iload_n 57 3 dX2_run_56 rfl rfl rfl ?_
    refine ok_aload_n 58 0 dX2_run_57 rfl rfl rfl ?_
    refine ok_getR 61 dX2_run_58 rfl rfl F_Encores_Law_15 sg_110 rfl (Nat.le_of_ble_eq_true rfl) rfl rfl ?_
    refine ok_alen 62 dX2_run_61 rfl sg_112 ?_
    rw [show Int32.ofNat 22 = 22 from rfl]
    refine ok_icmp_lt 67 65 dX2_run_62 (by decide) rfl (fun _ => ?_) (fun _ => ?_)
    · refine ok_aload_n 68 0 dX2_run_67 rfl rfl rfl ?_
      refine ok_getR 71 dX2_run_68 rfl rfl F_Encores_Law_15 sg_110 rfl (Nat.le_of_ble_eq_true rfl) rfl rfl ?_
      refine ok_iload_n 72 3 dX2_run_71 rfl rfl rfl ?_
      refine ok_iload 74 5 dX2_run_72 rfl rfl ?_
      refine ok_if_ne 82 77 dX2_run_74 (by decide) rfl (fun _ => ?_) (fun _ => ?_)
      · refine ok_aload_n 83 0 dX2_run_82 rfl rfl rfl ?_
        refine ok_iload 85 6 dX2_run_83 rfl rfl ?_
        refine ok_callVi (np := 1) (M' := m_X2_answer) (As := [.int s6_52]) (st := [.int s3_52, .ref 112]) 88 dX2_run_85 rfl rfl km_X2_answer ki_X2_answer kv_X2_answer ml_Encores_Law_69 (by decide) sg_110 rfl (Nat.le_of_ble_eq_true rfl) rfl rfl rfl (Nat.le_of_ble_eq_true rfl) (c_X2_answer N (d + 0) s6_52 m) ⟨Nat.le_refl _, Nat.le_refl _⟩ (Or.inl rfl) rfl (fun r_85 m_85 _ => ?_)
        refine ok_iast 89 dX2_run_88 rfl sg_112 ?_
        refine ok_bndM (fun m_88 => ?_)
        refine ok_iinc 92 3 1 [some (.ref 110), none, some (.int a2), some (.int (s3_52 + 1)), some (.int s4_52), some (.int s5_52), some (.int s6_52)] dX2_run_89 rfl rfl rfl (by decide) rfl ?_
        refine ok_goto 193 dX2_run_92 (by decide) ?_
        refine ok_iinc 196 4 1 [some (.ref 110), none, some (.int a2), some (.int (s3_52 + 1)), some (.int (s4_52 + 1)), some (.int s5_52), some (.int s6_52)] dX2_run_193 rfl rfl rfl (by decide) rfl ?_
        refine ok_goto 5 dX2_run_196 (by decide) ?_
        exact ok_less [some (.ref 110), none, some (.int a2), some (.int (s3_52 + 1)), some (.int (s4_52 + 1)), none, none] (And.intro rfl (And.intro rfl (And.intro rfl (And.intro rfl (trivial))))) (hX (s3_52 + 1) (s4_52 + 1) m_88)
      · refine ok_iload 79 6 dX2_run_77 rfl rfl ?_
        refine ok_goto 88 dX2_run_79 (by decide) ?_
        refine ok_iast 89 dX2_run_88 rfl sg_112 ?_
        refine ok_bndM (fun m_88 => ?_)
        refine ok_iinc 92 3 1 [some (.ref 110), none, some (.int a2), some (.int (s3_52 + 1)), some (.int s4_52), some (.int s5_52), some (.int s6_52)] dX2_run_89 rfl rfl rfl (by decide) rfl ?_
        refine ok_goto 193 dX2_run_92 (by decide) ?_
        refine ok_iinc 196 4 1 [some (.ref 110), none, some (.int a2), some (.int (s3_52 + 1)), some (.int (s4_52 + 1)), some (.int s5_52), some (.int s6_52)] dX2_run_193 rfl rfl rfl (by decide) rfl ?_
        refine ok_goto 5 dX2_run_196 (by decide) ?_
        exact ok_less [some (.ref 110), none, some (.int a2), some (.int (s3_52 + 1)), some (.int (s4_52 + 1)), none, none] (And.intro rfl (And.intro rfl (And.intro rfl (And.intro rfl (trivial))))) (hX (s3_52 + 1) (s4_52 + 1) m_88)
    · refine ok_iconst 66 0 dX2_run_65 rfl rfl ?_
      exact ok_iret dX2_run_66 rfl

set_option maxRecDepth 100000 in
set_option maxHeartbeats 4000000 in
theorem ok_X2_run_L5 (N d : Nat) (a1 : Int32) (a2 : Int32)   (K199 : Int32 → Mem → Ans) (hK199 : ∀ (k3 : Int32) (m : Mem), Ok SX SG (d + 1) m_X2_run 199 [some (.ref 110), none, none, some (.int k3), none, none, none] [] SG m (K199 k3 m)) : ∀ (n : Nat) (s3_5 : Int32) (s4_5 : Int32) (m : Mem), Ok SX SG (d + 1) m_X2_run 5 [some (.ref 110), none, some (.int a2), some (.int s3_5), some (.int s4_5), none, none] [] SG m (it2 (f_X2_run_L5 N a1 a2 K199) n s3_5 s4_5 m) :=
  ok_it2 (fun s3_5 s4_5 => [some (.ref 110), none, some (.int a2), some (.int s3_5), some (.int s4_5), none, none]) (fun X hX s3_5 s4_5 m => by
    try unfold f_X2_run_L5
    refine ok_iload 7 4 dX2_run_5 rfl rfl ?_
    refine ok_iload_n 8 2 dX2_run_7 rfl rfl rfl ?_
    refine ok_icmp_ge 199 11 dX2_run_8 (by decide) rfl (fun _ => ?_) (fun _ => ?_)
    · exact ok_less [some (.ref 110), none, none, some (.int s3_5), none, none, none] (And.intro rfl (And.intro rfl (trivial))) (hK199 s3_5 m)
    · refine ok_aload_n 12 0 dX2_run_11 rfl rfl rfl ?_
      refine ok_getR 15 dX2_run_12 rfl rfl F_Encores_Law_18 sg_110 rfl (Nat.le_of_ble_eq_true rfl) rfl rfl ?_
      refine ok_getR 18 dX2_run_15 rfl rfl F_Encores_Law_80 sg_2 rfl (Nat.le_of_ble_eq_true rfl) rfl rfl ?_
      refine ok_iload 20 4 dX2_run_18 rfl rfl ?_
      refine ok_iconst 21 0 dX2_run_20 rfl rfl ?_
      refine ok_callVi (np := 2) (M' := m_X9_at) (As := [.int s4_5, .int 0]) (st := []) 24 dX2_run_21 rfl rfl km_X9_at ki_X9_at kv_X9_at ml_Encores_Law_46 (by decide) sg_13 rfl (Nat.le_of_ble_eq_true rfl) rfl rfl rfl (Nat.le_of_ble_eq_true rfl) (c_X9_at N (d + 0) 13 s4_5 0 tg_13 m) ⟨Nat.le_refl _, Nat.le_refl _⟩ (Or.inl rfl) rfl (fun r_21 m_21 _ => ?_)
      refine ok_istore 26 5 [some (.ref 110), none, some (.int a2), some (.int s3_5), some (.int s4_5), some (.int r_21), none] dX2_run_24 rfl (by decide) rfl ?_
      refine ok_aload_n 27 0 dX2_run_26 rfl rfl rfl ?_
      refine ok_getR 30 dX2_run_27 rfl rfl F_Encores_Law_18 sg_110 rfl (Nat.le_of_ble_eq_true rfl) rfl rfl ?_
      refine ok_getR 33 dX2_run_30 rfl rfl F_Encores_Law_80 sg_2 rfl (Nat.le_of_ble_eq_true rfl) rfl rfl ?_
      refine ok_iload 35 4 dX2_run_33 rfl rfl ?_
      refine ok_iconst 36 1 dX2_run_35 rfl rfl ?_
      refine ok_callVi (np := 2) (M' := m_X9_at) (As := [.int s4_5, .int 1]) (st := []) 39 dX2_run_36 rfl rfl km_X9_at ki_X9_at kv_X9_at ml_Encores_Law_46 (by decide) sg_13 rfl (Nat.le_of_ble_eq_true rfl) rfl rfl rfl (Nat.le_of_ble_eq_true rfl) (c_X9_at N (d + 0) 13 s4_5 1 tg_13 m_21) ⟨Nat.le_refl _, Nat.le_refl _⟩ (Or.inl rfl) rfl (fun r_36 m_36 _ => ?_)
      refine ok_istore 41 6 [some (.ref 110), none, some (.int a2), some (.int s3_5), some (.int s4_5), some (.int r_21), some (.int r_36)] dX2_run_39 rfl (by decide) rfl ?_
      refine ok_iload 43 5 dX2_run_41 rfl rfl ?_
      refine ok_if_eq 52 46 dX2_run_43 (by decide) rfl (fun _ => ?_) (fun _ => ?_)
      · exact ok_less [some (.ref 110), none, some (.int a2), some (.int s3_5), some (.int s4_5), some (.int r_21), some (.int r_36)] (And.intro rfl (And.intro rfl (And.intro rfl (And.intro rfl (And.intro rfl (And.intro rfl (trivial))))))) (ok_X2_run_J52 N d a1 a2  K199 X hK199 hX s3_5 s4_5 r_21 r_36 m_36)
      · refine ok_iload 48 5 dX2_run_46 rfl rfl ?_
        refine ok_iconst 49 1 dX2_run_48 rfl rfl ?_
        refine ok_icmp_ne 95 52 dX2_run_49 (by decide) rfl (fun _ => ?_) (fun _ => ?_)
        · refine ok_iload 97 5 dX2_run_95 rfl rfl ?_
          refine ok_bipush 99 9 dX2_run_97 rfl rfl ?_
          refine ok_icmp_ne 145 102 dX2_run_99 (by decide) rfl (fun _ => ?_) (fun _ => ?_)
          · refine ok_iload_n 146 3 dX2_run_145 rfl rfl rfl ?_
            refine ok_iconst 147 2 dX2_run_146 rfl rfl ?_
            refine ok_icmp_lt 159 150 dX2_run_147 (by decide) rfl (fun _ => ?_) (fun _ => ?_)
            · refine ok_iconst 160 0 dX2_run_159 rfl rfl ?_
              exact ok_iret dX2_run_160 rfl
            · refine ok_iload_n 151 3 dX2_run_150 rfl rfl rfl ?_
              refine ok_aload_n 152 0 dX2_run_151 rfl rfl rfl ?_
              refine ok_getR 155 dX2_run_152 rfl rfl F_Encores_Law_15 sg_110 rfl (Nat.le_of_ble_eq_true rfl) rfl rfl ?_
              refine ok_alen 156 dX2_run_155 rfl sg_112 ?_
              rw [show Int32.ofNat 22 = 22 from rfl]
              refine ok_icmp_le 161 159 dX2_run_156 (by decide) rfl (fun _ => ?_) (fun _ => ?_)
              · refine ok_aload_n 162 0 dX2_run_161 rfl rfl rfl ?_
                refine ok_getR 165 dX2_run_162 rfl rfl F_Encores_Law_15 sg_110 rfl (Nat.le_of_ble_eq_true rfl) rfl rfl ?_
                refine ok_iload_n 166 3 dX2_run_165 rfl rfl rfl ?_
                refine ok_iconst 167 2 dX2_run_166 rfl rfl ?_
                refine ok_isub 168 dX2_run_167 rfl ?_
                refine ok_iload 170 5 dX2_run_168 rfl rfl ?_
                refine ok_aload_n 171 0 dX2_run_170 rfl rfl rfl ?_
                refine ok_getR 174 dX2_run_171 rfl rfl F_Encores_Law_15 sg_110 rfl (Nat.le_of_ble_eq_true rfl) rfl rfl ?_
                refine ok_iload_n 175 3 dX2_run_174 rfl rfl rfl ?_
                refine ok_iconst 176 2 dX2_run_175 rfl rfl ?_
                refine ok_isub 177 dX2_run_176 rfl ?_
                refine ok_iald 178 dX2_run_177 rfl sg_112 ?_
                refine ok_aload_n 179 0 dX2_run_178 rfl rfl rfl ?_
                refine ok_getR 182 dX2_run_179 rfl rfl F_Encores_Law_15 sg_110 rfl (Nat.le_of_ble_eq_true rfl) rfl rfl ?_
                refine ok_iload_n 183 3 dX2_run_182 rfl rfl rfl ?_
                refine ok_iconst 184 1 dX2_run_183 rfl rfl ?_
                refine ok_isub 185 dX2_run_184 rfl ?_
                refine ok_iald 186 dX2_run_185 rfl sg_112 ?_
                refine ok_callSi (np := 3) (M' := m_X2_joined) (As := [.int r_21, .int (m_36 112 (s3_5 - (2 : Int32)).toNatClampNeg), .int (m_36 112 (s3_5 - (1 : Int32)).toNatClampNeg)]) (st := [.int (s3_5 - (2 : Int32)), .ref 112]) 189 dX2_run_186 rfl rfl km_X2_joined ks_X2_joined ml_Encores_Law_83 (by decide) rfl rfl (Nat.le_of_ble_eq_true rfl) (c_X2_joined N (d + 0) r_21 (m_36 112 (s3_5 - (2 : Int32)).toNatClampNeg) (m_36 112 (s3_5 - (1 : Int32)).toNatClampNeg) m_36) ⟨Nat.le_refl _, Nat.le_refl _⟩ (Or.inl rfl) rfl (fun r_186 m_186 _ => ?_)
                refine ok_iast 190 dX2_run_189 rfl sg_112 ?_
                refine ok_bndM (fun m_189 => ?_)
                refine ok_iinc 193 3 (-1) [some (.ref 110), none, some (.int a2), some (.int (s3_5 + (-1))), some (.int s4_5), some (.int r_21), some (.int r_36)] dX2_run_190 rfl rfl rfl (by decide) rfl ?_
                refine ok_iinc 196 4 1 [some (.ref 110), none, some (.int a2), some (.int (s3_5 + (-1))), some (.int (s4_5 + 1)), some (.int r_21), some (.int r_36)] dX2_run_193 rfl rfl rfl (by decide) rfl ?_
                refine ok_goto 5 dX2_run_196 (by decide) ?_
                exact ok_less [some (.ref 110), none, some (.int a2), some (.int (s3_5 + (-1))), some (.int (s4_5 + 1)), none, none] (And.intro rfl (And.intro rfl (And.intro rfl (And.intro rfl (trivial))))) (hX (s3_5 + (-1)) (s4_5 + 1) m_189)
              · refine ok_iconst 160 0 dX2_run_159 rfl rfl ?_
                exact ok_iret dX2_run_160 rfl
          · refine ok_iload_n 103 3 dX2_run_102 rfl rfl rfl ?_
            refine ok_iconst 104 1 dX2_run_103 rfl rfl ?_
            refine ok_icmp_lt 116 107 dX2_run_104 (by decide) rfl (fun _ => ?_) (fun _ => ?_)
            · refine ok_iconst 117 0 dX2_run_116 rfl rfl ?_
              exact ok_iret dX2_run_117 rfl
            · refine ok_iload_n 108 3 dX2_run_107 rfl rfl rfl ?_
              refine ok_aload_n 109 0 dX2_run_108 rfl rfl rfl ?_
              refine ok_getR 112 dX2_run_109 rfl rfl F_Encores_Law_15 sg_110 rfl (Nat.le_of_ble_eq_true rfl) rfl rfl ?_
              refine ok_alen 113 dX2_run_112 rfl sg_112 ?_
              rw [show Int32.ofNat 22 = 22 from rfl]
              refine ok_icmp_le 118 116 dX2_run_113 (by decide) rfl (fun _ => ?_) (fun _ => ?_)
              · refine ok_aload_n 119 0 dX2_run_118 rfl rfl rfl ?_
                refine ok_getR 122 dX2_run_119 rfl rfl F_Encores_Law_15 sg_110 rfl (Nat.le_of_ble_eq_true rfl) rfl rfl ?_
                refine ok_iload_n 123 3 dX2_run_122 rfl rfl rfl ?_
                refine ok_iconst 124 1 dX2_run_123 rfl rfl ?_
                refine ok_isub 125 dX2_run_124 rfl ?_
                refine ok_aload_n 126 0 dX2_run_125 rfl rfl rfl ?_
                refine ok_getR 129 dX2_run_126 rfl rfl F_Encores_Law_15 sg_110 rfl (Nat.le_of_ble_eq_true rfl) rfl rfl ?_
                refine ok_iload_n 130 3 dX2_run_129 rfl rfl rfl ?_
                refine ok_iconst 131 1 dX2_run_130 rfl rfl ?_
                refine ok_isub 132 dX2_run_131 rfl ?_
                refine ok_iald 133 dX2_run_132 rfl sg_112 ?_
                refine ok_if_ne 140 136 dX2_run_133 (by decide) rfl (fun _ => ?_) (fun _ => ?_)
                · refine ok_iconst 141 0 dX2_run_140 rfl rfl ?_
                  refine ok_iast 142 dX2_run_141 rfl sg_112 ?_
                  refine ok_bndM (fun m_141 => ?_)
                  refine ok_goto 193 dX2_run_142 (by decide) ?_
                  refine ok_iinc 196 4 1 [some (.ref 110), none, some (.int a2), some (.int s3_5), some (.int (s4_5 + 1)), some (.int r_21), some (.int r_36)] dX2_run_193 rfl rfl rfl (by decide) rfl ?_
                  refine ok_goto 5 dX2_run_196 (by decide) ?_
                  exact ok_less [some (.ref 110), none, some (.int a2), some (.int s3_5), some (.int (s4_5 + 1)), none, none] (And.intro rfl (And.intro rfl (And.intro rfl (And.intro rfl (trivial))))) (hX s3_5 (s4_5 + 1) m_141)
                · refine ok_iconst 137 1 dX2_run_136 rfl rfl ?_
                  refine ok_goto 141 dX2_run_137 (by decide) ?_
                  refine ok_iast 142 dX2_run_141 rfl sg_112 ?_
                  refine ok_bndM (fun m_141 => ?_)
                  refine ok_goto 193 dX2_run_142 (by decide) ?_
                  refine ok_iinc 196 4 1 [some (.ref 110), none, some (.int a2), some (.int s3_5), some (.int (s4_5 + 1)), some (.int r_21), some (.int r_36)] dX2_run_193 rfl rfl rfl (by decide) rfl ?_
                  refine ok_goto 5 dX2_run_196 (by decide) ?_
                  exact ok_less [some (.ref 110), none, some (.int a2), some (.int s3_5), some (.int (s4_5 + 1)), none, none] (And.intro rfl (And.intro rfl (And.intro rfl (And.intro rfl (trivial))))) (hX s3_5 (s4_5 + 1) m_141)
              · refine ok_iconst 117 0 dX2_run_116 rfl rfl ?_
                exact ok_iret dX2_run_117 rfl
        · exact ok_less [some (.ref 110), none, some (.int a2), some (.int s3_5), some (.int s4_5), some (.int r_21), some (.int r_36)] (And.intro rfl (And.intro rfl (And.intro rfl (And.intro rfl (And.intro rfl (And.intro rfl (trivial))))))) (ok_X2_run_J52 N d a1 a2  K199 X hK199 hX s3_5 s4_5 r_21 r_36 m_36))

set_option maxRecDepth 100000 in
set_option maxHeartbeats 4000000 in
theorem ok_X2_run (N d : Nat) (a1 : Int32) (a2 : Int32)  (m : Mem) : Ok SX SG (d + 1) m_X2_run 0 [some (.ref 110), some (.int a1), some (.int a2), none, none, none, none] [] SG m (f_X2_run N a1 a2 m) := by
  unfold f_X2_run
  refine ok_iconst 1 0 dX2_run_0 rfl rfl ?_
  refine ok_istore_n 2 3 [some (.ref 110), some (.int a1), some (.int a2), some (.int 0), none, none, none] dX2_run_1 rfl rfl (by decide) rfl ?_
  refine ok_iload_n 3 1 dX2_run_2 rfl rfl rfl ?_
  refine ok_istore 5 4 [some (.ref 110), some (.int a1), some (.int a2), some (.int 0), some (.int a1), none, none] dX2_run_3 rfl (by decide) rfl ?_
  refine ok_less [some (.ref 110), none, some (.int a2), some (.int 0), some (.int a1), none, none] (And.intro rfl (And.intro rfl (And.intro rfl (And.intro rfl (trivial))))) ?_
  exact ok_X2_run_L5 N d a1 a2  _ (fun k3_199 mk199 => by
      refine ok_iload_n 200 3 dX2_run_199 rfl rfl rfl ?_
      refine ok_if_le 223 203 dX2_run_200 (by decide) rfl (fun _ => ?_) (fun _ => ?_)
      · refine ok_iconst 224 0 dX2_run_223 rfl rfl ?_
        exact ok_iret dX2_run_224 rfl
      · refine ok_iload_n 204 3 dX2_run_203 rfl rfl rfl ?_
        refine ok_aload_n 205 0 dX2_run_204 rfl rfl rfl ?_
        refine ok_getR 208 dX2_run_205 rfl rfl F_Encores_Law_15 sg_110 rfl (Nat.le_of_ble_eq_true rfl) rfl rfl ?_
        refine ok_alen 209 dX2_run_208 rfl sg_112 ?_
        rw [show Int32.ofNat 22 = 22 from rfl]
        refine ok_icmp_gt 223 212 dX2_run_209 (by decide) rfl (fun _ => ?_) (fun _ => ?_)
        · refine ok_iconst 224 0 dX2_run_223 rfl rfl ?_
          exact ok_iret dX2_run_224 rfl
        · refine ok_aload_n 213 0 dX2_run_212 rfl rfl rfl ?_
          refine ok_getR 216 dX2_run_213 rfl rfl F_Encores_Law_15 sg_110 rfl (Nat.le_of_ble_eq_true rfl) rfl rfl ?_
          refine ok_iload_n 217 3 dX2_run_216 rfl rfl rfl ?_
          refine ok_iconst 218 1 dX2_run_217 rfl rfl ?_
          refine ok_isub 219 dX2_run_218 rfl ?_
          refine ok_iald 220 dX2_run_219 rfl sg_112 ?_
          refine ok_goto 224 dX2_run_220 (by decide) ?_
          exact ok_iret dX2_run_224 rfl) N 0 a1 m

theorem c_X2_run (N d : Nat) (a1 : Int32) (a2 : Int32)  (m : Mem) : CM SX (d + 1) m_X2_run SG SG [.ref 110, .int a1, .int a2] m (f_X2_run N a1 a2 m) :=
  CM.ofOk km_X2_run ⟨Nat.le_refl _, Nat.le_refl _⟩ (by simp [Value.category]) (Nat.le_of_ble_eq_true rfl) (ok_X2_run N d a1 a2 m)

def f_X2_held (N : Nat) (a0 : Int32) (a1 : Int32) (m : Mem) : Ans :=
if a0 = (257 : Int32) then (some ((if (0 : Int32) < (if a1 < (1000 : Int32) then a1 else (1000 : Int32)) then (if a1 < (1000 : Int32) then a1 else (1000 : Int32)) else (0 : Int32)), m))
else (some ((if (0 : Int32) < (if a1 < (99 : Int32) then a1 else (99 : Int32)) then (if a1 < (99 : Int32) then a1 else (99 : Int32)) else (0 : Int32)), m))

set_option maxRecDepth 100000 in
set_option maxHeartbeats 4000000 in
theorem ok_X2_held (N d : Nat) (a0 : Int32) (a1 : Int32)  (m : Mem) : Ok SX SG (d + 1) m_X2_held 0 [some (.int a0), some (.int a1)] [] SG m (f_X2_held N a0 a1 m) := by
  unfold f_X2_held
  refine ok_iconst 1 0 dX2_held_0 rfl rfl ?_
  refine ok_iload_n 2 0 dX2_held_1 rfl rfl rfl ?_
  refine ok_sipush 5 257 dX2_held_2 rfl rfl ?_
  refine ok_icmp_ne 14 8 dX2_held_5 (by decide) rfl (fun _ => ?_) (fun _ => ?_)
  · refine ok_bipush 16 99 dX2_held_14 rfl rfl ?_
    refine ok_iload_n 17 1 dX2_held_16 rfl rfl rfl ?_
    refine ok_min 20 ⟨Nat.le_refl _, Nat.le_refl _⟩ dX2_held_17 rfl rfl ml_Encores_Law_72 (Nat.le_of_ble_eq_true rfl) ?_
    refine ok_max 23 ⟨Nat.le_refl _, Nat.le_refl _⟩ dX2_held_20 rfl rfl ml_Encores_Law_77 (Nat.le_of_ble_eq_true rfl) ?_
    exact ok_iret dX2_held_23 rfl
  · refine ok_sipush 11 1000 dX2_held_8 rfl rfl ?_
    refine ok_goto 16 dX2_held_11 (by decide) ?_
    refine ok_iload_n 17 1 dX2_held_16 rfl rfl rfl ?_
    refine ok_min 20 ⟨Nat.le_refl _, Nat.le_refl _⟩ dX2_held_17 rfl rfl ml_Encores_Law_72 (Nat.le_of_ble_eq_true rfl) ?_
    refine ok_max 23 ⟨Nat.le_refl _, Nat.le_refl _⟩ dX2_held_20 rfl rfl ml_Encores_Law_77 (Nat.le_of_ble_eq_true rfl) ?_
    exact ok_iret dX2_held_23 rfl

theorem c_X2_held (N d : Nat) (a0 : Int32) (a1 : Int32)  (m : Mem) : CM SX (d + 1) m_X2_held SG SG [.int a0, .int a1] m (f_X2_held N a0 a1 m) :=
  CM.ofOk km_X2_held ⟨Nat.le_refl _, Nat.le_refl _⟩ (by simp [Value.category]) (Nat.le_of_ble_eq_true rfl) (ok_X2_held N d a0 a1 m)

def f_X2_tell_L2 (N : Nat) (a1 : Int32)  (K109 : Mem → Ans) (X : Int32 → Mem → Ans) (s2_2 : Int32) (m : Mem) : Ans :=
if (m 11 3) ≤ s2_2 then (K109 m)
else (bd (f_X9_at N 11 s2_2 1 m) fun r_25 m_25 =>
bd (f_X9_at N 11 s2_2 2 m_25) fun r_38 m_38 =>
bd (f_X9_at N 11 s2_2 3 m_38) fun r_52 m_52 =>
bd (f_X9_at N 11 s2_2 0 m_52) fun r_66 m_66 =>
if r_66 = a1 then (if r_38 = r_52 then (bd (f_X2_run N r_25 r_38 m_66) fun r_96 m_96 =>
bd (f_X2_held N a1 r_96 m_96) fun r_99 m_99 =>
some (r_99, m_99))
else (bd (f_X2_run N r_38 r_52 m_66) fun r_85 m_85 =>
if r_85 = 0 then (X (s2_2 + 1) m_85)
else (bd (f_X2_run N r_25 r_38 m_85) fun r_96 m_96 =>
bd (f_X2_held N a1 r_96 m_96) fun r_99 m_99 =>
some (r_99, m_99))))
else (X (s2_2 + 1) m_66))

def f_X2_tell (N : Nat) (a1 : Int32) (m : Mem) : Ans :=
it1 (f_X2_tell_L2 N a1 (fun mk109 => if a1 = 256 then (bd (f_X2_answer N 5 mk109) fun r_138 m_138 =>
some ((r_138 / (3 : Int32)), m_138))
else (if a1 = 257 then (bd (f_X2_answer N 2 mk109) fun r_146 m_146 =>
some ((r_146 * (100 : Int32)), m_146))
else (some (2, mk109))))) N 0 m

set_option maxRecDepth 100000 in
set_option maxHeartbeats 4000000 in
theorem ok_X2_tell_L2 (N d : Nat) (a1 : Int32)   (K109 : Mem → Ans) (hK109 : ∀  (m : Mem), Ok SX SG (d + 2) m_X2_tell 109 [some (.ref 110), some (.int a1), none, none, none, none] [] SG m (K109 m)) : ∀ (n : Nat) (s2_2 : Int32) (m : Mem), Ok SX SG (d + 2) m_X2_tell 2 [some (.ref 110), some (.int a1), some (.int s2_2), none, none, none] [] SG m (it1 (f_X2_tell_L2 N a1 K109) n s2_2 m) :=
  ok_it1 (fun s2_2 => [some (.ref 110), some (.int a1), some (.int s2_2), none, none, none]) (fun X hX s2_2 m => by
    try unfold f_X2_tell_L2
    refine ok_iload_n 3 2 dX2_tell_2 rfl rfl rfl ?_
    refine ok_aload_n 4 0 dX2_tell_3 rfl rfl rfl ?_
    refine ok_getR 7 dX2_tell_4 rfl rfl F_Encores_Law_18 sg_110 rfl (Nat.le_of_ble_eq_true rfl) rfl rfl ?_
    refine ok_getR 10 dX2_tell_7 rfl rfl F_Encores_Law_56 sg_2 rfl (Nat.le_of_ble_eq_true rfl) rfl rfl ?_
    refine ok_getI 13 dX2_tell_10 rfl rfl F_Encores_Law_59 sg_11 rfl (Nat.le_of_ble_eq_true rfl) rfl ?_
    refine ok_icmp_ge 109 16 dX2_tell_13 (by decide) rfl (fun _ => ?_) (fun _ => ?_)
    · exact ok_less [some (.ref 110), some (.int a1), none, none, none, none] (And.intro rfl (And.intro rfl (trivial))) (hK109 m)
    · refine ok_aload_n 17 0 dX2_tell_16 rfl rfl rfl ?_
      refine ok_getR 20 dX2_tell_17 rfl rfl F_Encores_Law_18 sg_110 rfl (Nat.le_of_ble_eq_true rfl) rfl rfl ?_
      refine ok_getR 23 dX2_tell_20 rfl rfl F_Encores_Law_56 sg_2 rfl (Nat.le_of_ble_eq_true rfl) rfl rfl ?_
      refine ok_iload_n 24 2 dX2_tell_23 rfl rfl rfl ?_
      refine ok_iconst 25 1 dX2_tell_24 rfl rfl ?_
      refine ok_callVi (np := 2) (M' := m_X9_at) (As := [.int s2_2, .int 1]) (st := []) 28 dX2_tell_25 rfl rfl km_X9_at ki_X9_at kv_X9_at ml_Encores_Law_46 (by decide) sg_11 rfl (Nat.le_of_ble_eq_true rfl) rfl rfl rfl (Nat.le_of_ble_eq_true rfl) (c_X9_at N (d + 1) 11 s2_2 1 tg_11 m) ⟨Nat.le_refl _, Nat.le_refl _⟩ (Or.inl rfl) rfl (fun r_25 m_25 _ => ?_)
      refine ok_istore_n 29 3 [some (.ref 110), some (.int a1), some (.int s2_2), some (.int r_25), none, none] dX2_tell_28 rfl rfl (by decide) rfl ?_
      refine ok_aload_n 30 0 dX2_tell_29 rfl rfl rfl ?_
      refine ok_getR 33 dX2_tell_30 rfl rfl F_Encores_Law_18 sg_110 rfl (Nat.le_of_ble_eq_true rfl) rfl rfl ?_
      refine ok_getR 36 dX2_tell_33 rfl rfl F_Encores_Law_56 sg_2 rfl (Nat.le_of_ble_eq_true rfl) rfl rfl ?_
      refine ok_iload_n 37 2 dX2_tell_36 rfl rfl rfl ?_
      refine ok_iconst 38 2 dX2_tell_37 rfl rfl ?_
      refine ok_callVi (np := 2) (M' := m_X9_at) (As := [.int s2_2, .int 2]) (st := []) 41 dX2_tell_38 rfl rfl km_X9_at ki_X9_at kv_X9_at ml_Encores_Law_46 (by decide) sg_11 rfl (Nat.le_of_ble_eq_true rfl) rfl rfl rfl (Nat.le_of_ble_eq_true rfl) (c_X9_at N (d + 1) 11 s2_2 2 tg_11 m_25) ⟨Nat.le_refl _, Nat.le_refl _⟩ (Or.inl rfl) rfl (fun r_38 m_38 _ => ?_)
      refine ok_istore 43 4 [some (.ref 110), some (.int a1), some (.int s2_2), some (.int r_25), some (.int r_38), none] dX2_tell_41 rfl (by decide) rfl ?_
      refine ok_aload_n 44 0 dX2_tell_43 rfl rfl rfl ?_
      refine ok_getR 47 dX2_tell_44 rfl rfl F_Encores_Law_18 sg_110 rfl (Nat.le_of_ble_eq_true rfl) rfl rfl ?_
      refine ok_getR 50 dX2_tell_47 rfl rfl F_Encores_Law_56 sg_2 rfl (Nat.le_of_ble_eq_true rfl) rfl rfl ?_
      refine ok_iload_n 51 2 dX2_tell_50 rfl rfl rfl ?_
      refine ok_iconst 52 3 dX2_tell_51 rfl rfl ?_
      refine ok_callVi (np := 2) (M' := m_X9_at) (As := [.int s2_2, .int 3]) (st := []) 55 dX2_tell_52 rfl rfl km_X9_at ki_X9_at kv_X9_at ml_Encores_Law_46 (by decide) sg_11 rfl (Nat.le_of_ble_eq_true rfl) rfl rfl rfl (Nat.le_of_ble_eq_true rfl) (c_X9_at N (d + 1) 11 s2_2 3 tg_11 m_38) ⟨Nat.le_refl _, Nat.le_refl _⟩ (Or.inl rfl) rfl (fun r_52 m_52 _ => ?_)
      refine ok_istore 57 5 [some (.ref 110), some (.int a1), some (.int s2_2), some (.int r_25), some (.int r_38), some (.int r_52)] dX2_tell_55 rfl (by decide) rfl ?_
      refine ok_aload_n 58 0 dX2_tell_57 rfl rfl rfl ?_
      refine ok_getR 61 dX2_tell_58 rfl rfl F_Encores_Law_18 sg_110 rfl (Nat.le_of_ble_eq_true rfl) rfl rfl ?_
      refine ok_getR 64 dX2_tell_61 rfl rfl F_Encores_Law_56 sg_2 rfl (Nat.le_of_ble_eq_true rfl) rfl rfl ?_
      refine ok_iload_n 65 2 dX2_tell_64 rfl rfl rfl ?_
      refine ok_iconst 66 0 dX2_tell_65 rfl rfl ?_
      refine ok_callVi (np := 2) (M' := m_X9_at) (As := [.int s2_2, .int 0]) (st := []) 69 dX2_tell_66 rfl rfl km_X9_at ki_X9_at kv_X9_at ml_Encores_Law_46 (by decide) sg_11 rfl (Nat.le_of_ble_eq_true rfl) rfl rfl rfl (Nat.le_of_ble_eq_true rfl) (c_X9_at N (d + 1) 11 s2_2 0 tg_11 m_52) ⟨Nat.le_refl _, Nat.le_refl _⟩ (Or.inl rfl) rfl (fun r_66 m_66 _ => ?_)
      refine ok_iload_n 70 1 dX2_tell_69 rfl rfl rfl ?_
      refine ok_icmp_ne 103 73 dX2_tell_70 (by decide) rfl (fun _ => ?_) (fun _ => ?_)
      · refine ok_iinc 106 2 1 [some (.ref 110), some (.int a1), some (.int (s2_2 + 1)), some (.int r_25), some (.int r_38), some (.int r_52)] dX2_tell_103 rfl rfl rfl (by decide) rfl ?_
        refine ok_goto 2 dX2_tell_106 (by decide) ?_
        exact ok_less [some (.ref 110), some (.int a1), some (.int (s2_2 + 1)), none, none, none] (And.intro rfl (And.intro rfl (And.intro rfl (trivial)))) (hX (s2_2 + 1) m_66)
      · refine ok_iload 75 4 dX2_tell_73 rfl rfl ?_
        refine ok_iload 77 5 dX2_tell_75 rfl rfl ?_
        refine ok_icmp_eq 91 80 dX2_tell_77 (by decide) rfl (fun _ => ?_) (fun _ => ?_)
        · refine ok_iload_n 92 1 dX2_tell_91 rfl rfl rfl ?_
          refine ok_aload_n 93 0 dX2_tell_92 rfl rfl rfl ?_
          refine ok_iload_n 94 3 dX2_tell_93 rfl rfl rfl ?_
          refine ok_iload 96 4 dX2_tell_94 rfl rfl ?_
          refine ok_callVi (np := 2) (M' := m_X2_run) (As := [.int r_25, .int r_38]) (st := [.int a1]) 99 dX2_tell_96 rfl rfl km_X2_run ki_X2_run kv_X2_run ml_Encores_Law_63 (by decide) sg_110 rfl (Nat.le_of_ble_eq_true rfl) rfl rfl rfl (Nat.le_of_ble_eq_true rfl) (c_X2_run N (d + 0) r_25 r_38 m_66) ⟨Nat.le_refl _, Nat.le_refl _⟩ (Or.inl rfl) rfl (fun r_96 m_96 _ => ?_)
          refine ok_callSi (np := 2) (M' := m_X2_held) (As := [.int a1, .int r_96]) (st := []) 102 dX2_tell_99 rfl rfl km_X2_held ks_X2_held ml_Encores_Law_66 (by decide) rfl rfl (Nat.le_of_ble_eq_true rfl) (c_X2_held N (d + 0) a1 r_96 m_96) ⟨Nat.le_refl _, Nat.le_refl _⟩ (Or.inl rfl) rfl (fun r_99 m_99 _ => ?_)
          exact ok_iret dX2_tell_102 rfl
        · refine ok_aload_n 81 0 dX2_tell_80 rfl rfl rfl ?_
          refine ok_iload 83 4 dX2_tell_81 rfl rfl ?_
          refine ok_iload 85 5 dX2_tell_83 rfl rfl ?_
          refine ok_callVi (np := 2) (M' := m_X2_run) (As := [.int r_38, .int r_52]) (st := []) 88 dX2_tell_85 rfl rfl km_X2_run ki_X2_run kv_X2_run ml_Encores_Law_63 (by decide) sg_110 rfl (Nat.le_of_ble_eq_true rfl) rfl rfl rfl (Nat.le_of_ble_eq_true rfl) (c_X2_run N (d + 0) r_38 r_52 m_66) ⟨Nat.le_refl _, Nat.le_refl _⟩ (Or.inl rfl) rfl (fun r_85 m_85 _ => ?_)
          refine ok_if_eq 103 91 dX2_tell_88 (by decide) rfl (fun _ => ?_) (fun _ => ?_)
          · refine ok_iinc 106 2 1 [some (.ref 110), some (.int a1), some (.int (s2_2 + 1)), some (.int r_25), some (.int r_38), some (.int r_52)] dX2_tell_103 rfl rfl rfl (by decide) rfl ?_
            refine ok_goto 2 dX2_tell_106 (by decide) ?_
            exact ok_less [some (.ref 110), some (.int a1), some (.int (s2_2 + 1)), none, none, none] (And.intro rfl (And.intro rfl (And.intro rfl (trivial)))) (hX (s2_2 + 1) m_85)
          · refine ok_iload_n 92 1 dX2_tell_91 rfl rfl rfl ?_
            refine ok_aload_n 93 0 dX2_tell_92 rfl rfl rfl ?_
            refine ok_iload_n 94 3 dX2_tell_93 rfl rfl rfl ?_
            refine ok_iload 96 4 dX2_tell_94 rfl rfl ?_
            refine ok_callVi (np := 2) (M' := m_X2_run) (As := [.int r_25, .int r_38]) (st := [.int a1]) 99 dX2_tell_96 rfl rfl km_X2_run ki_X2_run kv_X2_run ml_Encores_Law_63 (by decide) sg_110 rfl (Nat.le_of_ble_eq_true rfl) rfl rfl rfl (Nat.le_of_ble_eq_true rfl) (c_X2_run N (d + 0) r_25 r_38 m_85) ⟨Nat.le_refl _, Nat.le_refl _⟩ (Or.inl rfl) rfl (fun r_96 m_96 _ => ?_)
            refine ok_callSi (np := 2) (M' := m_X2_held) (As := [.int a1, .int r_96]) (st := []) 102 dX2_tell_99 rfl rfl km_X2_held ks_X2_held ml_Encores_Law_66 (by decide) rfl rfl (Nat.le_of_ble_eq_true rfl) (c_X2_held N (d + 0) a1 r_96 m_96) ⟨Nat.le_refl _, Nat.le_refl _⟩ (Or.inl rfl) rfl (fun r_99 m_99 _ => ?_)
            exact ok_iret dX2_tell_102 rfl)

set_option maxRecDepth 100000 in
set_option maxHeartbeats 4000000 in
theorem ok_X2_tell (N d : Nat) (a1 : Int32)  (m : Mem) : Ok SX SG (d + 2) m_X2_tell 0 [some (.ref 110), some (.int a1), none, none, none, none] [] SG m (f_X2_tell N a1 m) := by
  unfold f_X2_tell
  refine ok_iconst 1 0 dX2_tell_0 rfl rfl ?_
  refine ok_istore_n 2 2 [some (.ref 110), some (.int a1), some (.int 0), none, none, none] dX2_tell_1 rfl rfl (by decide) rfl ?_
  refine ok_less [some (.ref 110), some (.int a1), some (.int 0), none, none, none] (And.intro rfl (And.intro rfl (And.intro rfl (trivial)))) ?_
  exact ok_X2_tell_L2 N d a1  _ (fun mk109 => by
      refine ok_iload_n 110 1 dX2_tell_109 rfl rfl rfl ?_
      refine ok_lsw dX2_tell_110 (by decide) ?_
      by_cases hq_110_256 : a1 = 256
      · rw [if_pos hq_110_256]
        refine ⟨136, by rw [hq_110_256]; decide, ?_⟩
        refine ok_aload_n 137 0 dX2_tell_136 rfl rfl rfl ?_
        refine ok_iconst 138 5 dX2_tell_137 rfl rfl ?_
        refine ok_callVi (np := 1) (M' := m_X2_answer) (As := [.int 5]) (st := []) 141 dX2_tell_138 rfl rfl km_X2_answer ki_X2_answer kv_X2_answer ml_Encores_Law_69 (by decide) sg_110 rfl (Nat.le_of_ble_eq_true rfl) rfl rfl rfl (Nat.le_of_ble_eq_true rfl) (c_X2_answer N (d + 1) 5 mk109) ⟨Nat.le_refl _, Nat.le_refl _⟩ (Or.inl rfl) rfl (fun r_138 m_138 _ => ?_)
        refine ok_iconst 142 3 dX2_tell_141 rfl rfl ?_
        refine ok_idivc 143 dX2_tell_142 rfl (by decide) ?_
        exact ok_iret dX2_tell_143 rfl
      rw [if_neg hq_110_256]
      by_cases hq_110_257 : a1 = 257
      · rw [if_pos hq_110_257]
        refine ⟨144, by rw [hq_110_257]; decide, ?_⟩
        refine ok_aload_n 145 0 dX2_tell_144 rfl rfl rfl ?_
        refine ok_iconst 146 2 dX2_tell_145 rfl rfl ?_
        refine ok_callVi (np := 1) (M' := m_X2_answer) (As := [.int 2]) (st := []) 149 dX2_tell_146 rfl rfl km_X2_answer ki_X2_answer kv_X2_answer ml_Encores_Law_69 (by decide) sg_110 rfl (Nat.le_of_ble_eq_true rfl) rfl rfl rfl (Nat.le_of_ble_eq_true rfl) (c_X2_answer N (d + 1) 2 mk109) ⟨Nat.le_refl _, Nat.le_refl _⟩ (Or.inl rfl) rfl (fun r_146 m_146 _ => ?_)
        refine ok_bipush 151 100 dX2_tell_149 rfl rfl ?_
        refine ok_imul 152 dX2_tell_151 rfl ?_
        exact ok_iret dX2_tell_152 rfl
      rw [if_neg hq_110_257]
      refine ⟨153, ?_, ?_⟩
      · refine lsw_none (by decide) (fun q hq => ?_)
        simp only [List.mem_cons, List.not_mem_nil, or_false] at hq
        rcases hq with rfl | rfl
        · exact fun h2 => hq_110_256 (Int32.toInt_inj.mp (h2.trans (by decide : (256 : Int) = (256 : Int32).toInt)))
        · exact fun h2 => hq_110_257 (Int32.toInt_inj.mp (h2.trans (by decide : (257 : Int) = (257 : Int32).toInt)))
      · refine ok_iconst 154 2 dX2_tell_153 rfl rfl ?_
        exact ok_iret dX2_tell_154 rfl) N 0 m

theorem c_X2_tell (N d : Nat) (a1 : Int32)  (m : Mem) : CM SX (d + 2) m_X2_tell SG SG [.ref 110, .int a1] m (f_X2_tell N a1 m) :=
  CM.ofOk km_X2_tell ⟨Nat.le_refl _, Nat.le_refl _⟩ (by simp [Value.category]) (Nat.le_of_ble_eq_true rfl) (ok_X2_tell N d a1 m)

def f_X2_clap (N : Nat) (a1 : Int32) (a2 : Int32) (a3 : Int32) (m : Mem) : Ans :=
bd (f_X2_askOf N a1 a2 a3 m) fun _ m_4 =>
bd (f_X2_tell N 257 m_4) fun r_11 m_11 =>
some (r_11, m_11)

set_option maxRecDepth 100000 in
set_option maxHeartbeats 4000000 in
theorem ok_X2_clap (N d : Nat) (a1 : Int32) (a2 : Int32) (a3 : Int32)  (m : Mem) : Ok SX SG (d + 3) m_X2_clap 0 [some (.ref 110), some (.int a1), some (.int a2), some (.int a3)] [] SG m (f_X2_clap N a1 a2 a3 m) := by
  unfold f_X2_clap
  refine ok_aload_n 1 0 dX2_clap_0 rfl rfl rfl ?_
  refine ok_iload_n 2 1 dX2_clap_1 rfl rfl rfl ?_
  refine ok_iload_n 3 2 dX2_clap_2 rfl rfl rfl ?_
  refine ok_iload_n 4 3 dX2_clap_3 rfl rfl rfl ?_
  refine ok_callVv (np := 3) (M' := m_X2_askOf) (As := [.int a1, .int a2, .int a3]) (st := []) 7 dX2_clap_4 rfl rfl km_X2_askOf ki_X2_askOf kv_X2_askOf ml_Encores_Law_22 (by decide) sg_110 rfl (Nat.le_of_ble_eq_true rfl) rfl rfl rfl (Nat.le_of_ble_eq_true rfl) (c_X2_askOf N (d + 1) a1 a2 a3 m) ⟨Nat.le_refl _, Nat.le_refl _⟩ (Or.inl rfl) rfl (fun _ m_4 _ => ?_)
  refine ok_aload_n 8 0 dX2_clap_7 rfl rfl rfl ?_
  refine ok_sipush 11 257 dX2_clap_8 rfl rfl ?_
  refine ok_callVi (np := 1) (M' := m_X2_tell) (As := [.int 257]) (st := []) 14 dX2_clap_11 rfl rfl km_X2_tell ki_X2_tell kv_X2_tell ml_Encores_Law_26 (by decide) sg_110 rfl (Nat.le_of_ble_eq_true rfl) rfl rfl rfl (Nat.le_of_ble_eq_true rfl) (c_X2_tell N (d + 0) 257 m_4) ⟨Nat.le_refl _, Nat.le_refl _⟩ (Or.inl rfl) rfl (fun r_11 m_11 _ => ?_)
  exact ok_iret dX2_clap_14 rfl

theorem c_X2_clap (N d : Nat) (a1 : Int32) (a2 : Int32) (a3 : Int32)  (m : Mem) : CM SX (d + 3) m_X2_clap SG SG [.ref 110, .int a1, .int a2, .int a3] m (f_X2_clap N a1 a2 a3 m) :=
  CM.ofOk km_X2_clap ⟨Nat.le_refl _, Nat.le_refl _⟩ (by simp [Value.category]) (Nat.le_of_ble_eq_true rfl) (ok_X2_clap N d a1 a2 a3 m)

def f_X2_ofDeed (N : Nat) (a1 : Int32) (a2 : Int32) (m : Mem) : Ans :=
bd (f_X2_askOf N (-1) a2 0 m) fun _ m_4 =>
bd (f_X2_tell N a1 m_4) fun r_9 m_9 =>
some (r_9, m_9)

set_option maxRecDepth 100000 in
set_option maxHeartbeats 4000000 in
theorem ok_X2_ofDeed (N d : Nat) (a1 : Int32) (a2 : Int32)  (m : Mem) : Ok SX SG (d + 3) m_X2_ofDeed 0 [some (.ref 110), some (.int a1), some (.int a2)] [] SG m (f_X2_ofDeed N a1 a2 m) := by
  unfold f_X2_ofDeed
  refine ok_aload_n 1 0 dX2_ofDeed_0 rfl rfl rfl ?_
  refine ok_iconst 2 (-1) dX2_ofDeed_1 rfl rfl ?_
  refine ok_iload_n 3 2 dX2_ofDeed_2 rfl rfl rfl ?_
  refine ok_iconst 4 0 dX2_ofDeed_3 rfl rfl ?_
  refine ok_callVv (np := 3) (M' := m_X2_askOf) (As := [.int (-1), .int a2, .int 0]) (st := []) 7 dX2_ofDeed_4 rfl rfl km_X2_askOf ki_X2_askOf kv_X2_askOf ml_Encores_Law_22 (by decide) sg_110 rfl (Nat.le_of_ble_eq_true rfl) rfl rfl rfl (Nat.le_of_ble_eq_true rfl) (c_X2_askOf N (d + 1) (-1) a2 0 m) ⟨Nat.le_refl _, Nat.le_refl _⟩ (Or.inl rfl) rfl (fun _ m_4 _ => ?_)
  refine ok_aload_n 8 0 dX2_ofDeed_7 rfl rfl rfl ?_
  refine ok_iload_n 9 1 dX2_ofDeed_8 rfl rfl rfl ?_
  refine ok_callVi (np := 1) (M' := m_X2_tell) (As := [.int a1]) (st := []) 12 dX2_ofDeed_9 rfl rfl km_X2_tell ki_X2_tell kv_X2_tell ml_Encores_Law_26 (by decide) sg_110 rfl (Nat.le_of_ble_eq_true rfl) rfl rfl rfl (Nat.le_of_ble_eq_true rfl) (c_X2_tell N (d + 0) a1 m_4) ⟨Nat.le_refl _, Nat.le_refl _⟩ (Or.inl rfl) rfl (fun r_9 m_9 _ => ?_)
  exact ok_iret dX2_ofDeed_12 rfl

theorem c_X2_ofDeed (N d : Nat) (a1 : Int32) (a2 : Int32)  (m : Mem) : CM SX (d + 3) m_X2_ofDeed SG SG [.ref 110, .int a1, .int a2] m (f_X2_ofDeed N a1 a2 m) :=
  CM.ofOk km_X2_ofDeed ⟨Nat.le_refl _, Nat.le_refl _⟩ (by simp [Value.category]) (Nat.le_of_ble_eq_true rfl) (ok_X2_ofDeed N d a1 a2 m)

def f_X3_keep (N : Nat) (this : Nat) (m : Mem) : Ans :=
bd (f_X9_copy N (rq this 0) 3 m) fun _ m_8 =>
bd (f_X9_copy N (rq this 1) 5 m_8) fun _ m_19 =>
bd (f_X9_copy N (rq this 2) 7 m_19) fun _ m_30 =>
bnd (mset m_30 this 3 (m_30 9 3)) fun m_41 =>
some (0, m_41)

set_option maxRecDepth 100000 in
set_option maxHeartbeats 4000000 in
theorem ok_X3_keep (N d : Nat) (this : Nat) (h0 : tg this = 3) (m : Mem) : Ok SX SG (d + 2) m_X3_keep 0 [some (.ref this), some (.ref 2)] [] SG m (f_X3_keep N this m) := by
  unfold f_X3_keep
  refine ok_aload_n 1 0 dX3_keep_0 rfl rfl rfl ?_
  refine ok_getR 4 dX3_keep_1 rfl rfl F_Encores_Moment_14 (sg_M _ h0) rfl (Nat.le_of_ble_eq_true rfl) rfl rfl ?_
  refine ok_aload_n 5 1 dX3_keep_4 rfl rfl rfl ?_
  refine ok_getR 8 dX3_keep_5 rfl rfl F_Encores_Moment_26 sg_2 rfl (Nat.le_of_ble_eq_true rfl) rfl rfl ?_
  refine ok_callVv (np := 1) (M' := m_X9_copy) (As := [.ref 3]) (st := []) 11 dX3_keep_8 rfl rfl km_X9_copy ki_X9_copy kv_X9_copy ml_Encores_Moment_29 (by decide) (sg_T _ (rt_3_0 _ h0)) rfl (Nat.le_of_ble_eq_true rfl) rfl rfl rfl (Nat.le_of_ble_eq_true rfl) (c_X9_copy N (d + 0) (rq this 0) 3 (rt_3_0 _ h0) tg_3 m) ⟨Nat.le_refl _, Nat.le_refl _⟩ (Or.inl rfl) rfl (fun _ m_8 _ => ?_)
  refine ok_aload_n 12 0 dX3_keep_11 rfl rfl rfl ?_
  refine ok_getR 15 dX3_keep_12 rfl rfl F_Encores_Moment_20 (sg_M _ h0) rfl (Nat.le_of_ble_eq_true rfl) rfl rfl ?_
  refine ok_aload_n 16 1 dX3_keep_15 rfl rfl rfl ?_
  refine ok_getR 19 dX3_keep_16 rfl rfl F_Encores_Moment_33 sg_2 rfl (Nat.le_of_ble_eq_true rfl) rfl rfl ?_
  refine ok_callVv (np := 1) (M' := m_X9_copy) (As := [.ref 5]) (st := []) 22 dX3_keep_19 rfl rfl km_X9_copy ki_X9_copy kv_X9_copy ml_Encores_Moment_29 (by decide) (sg_T _ (rt_3_1 _ h0)) rfl (Nat.le_of_ble_eq_true rfl) rfl rfl rfl (Nat.le_of_ble_eq_true rfl) (c_X9_copy N (d + 0) (rq this 1) 5 (rt_3_1 _ h0) tg_5 m_8) ⟨Nat.le_refl _, Nat.le_refl _⟩ (Or.inl rfl) rfl (fun _ m_19 _ => ?_)
  refine ok_aload_n 23 0 dX3_keep_22 rfl rfl rfl ?_
  refine ok_getR 26 dX3_keep_23 rfl rfl F_Encores_Moment_23 (sg_M _ h0) rfl (Nat.le_of_ble_eq_true rfl) rfl rfl ?_
  refine ok_aload_n 27 1 dX3_keep_26 rfl rfl rfl ?_
  refine ok_getR 30 dX3_keep_27 rfl rfl F_Encores_Moment_34 sg_2 rfl (Nat.le_of_ble_eq_true rfl) rfl rfl ?_
  refine ok_callVv (np := 1) (M' := m_X9_copy) (As := [.ref 7]) (st := []) 33 dX3_keep_30 rfl rfl km_X9_copy ki_X9_copy kv_X9_copy ml_Encores_Moment_29 (by decide) (sg_T _ (rt_3_2 _ h0)) rfl (Nat.le_of_ble_eq_true rfl) rfl rfl rfl (Nat.le_of_ble_eq_true rfl) (c_X9_copy N (d + 0) (rq this 2) 7 (rt_3_2 _ h0) tg_7 m_19) ⟨Nat.le_refl _, Nat.le_refl _⟩ (Or.inl rfl) rfl (fun _ m_30 _ => ?_)
  refine ok_aload_n 34 0 dX3_keep_33 rfl rfl rfl ?_
  refine ok_aload_n 35 1 dX3_keep_34 rfl rfl rfl ?_
  refine ok_getR 38 dX3_keep_35 rfl rfl F_Encores_Moment_35 sg_2 rfl (Nat.le_of_ble_eq_true rfl) rfl rfl ?_
  refine ok_getI 41 dX3_keep_38 rfl rfl F_Encores_Moment_38 sg_9 rfl (Nat.le_of_ble_eq_true rfl) rfl ?_
  refine ok_putI 44 dX3_keep_41 rfl rfl F_Encores_Moment_42 (sg_M _ h0) rfl (Nat.le_of_ble_eq_true rfl) rfl rfl pZ_3_3 rfl rfl ?_
  refine ok_bndM (fun m_41 => ?_)
  exact ok_vret dX3_keep_44 rfl

theorem c_X3_keep (N d : Nat) (this : Nat) (h0 : tg this = 3) (m : Mem) : CM SX (d + 2) m_X3_keep SG SG [.ref this, .ref 2] m (f_X3_keep N this m) :=
  CM.ofOk km_X3_keep ⟨Nat.le_refl _, Nat.le_refl _⟩ (by simp [Value.category]) (Nat.le_of_ble_eq_true rfl) (ok_X3_keep N d this h0 m)

def f_X3_back (N : Nat) (this : Nat) (m : Mem) : Ans :=
bd (f_X9_copy N 3 (rq this 0) m) fun _ m_8 =>
bd (f_X9_copy N 5 (rq this 1) m_8) fun _ m_19 =>
bd (f_X9_copy N 7 (rq this 2) m_19) fun _ m_30 =>
bnd (mset m_30 9 3 (m_30 this 3)) fun m_41 =>
some (0, m_41)

set_option maxRecDepth 100000 in
set_option maxHeartbeats 4000000 in
theorem ok_X3_back (N d : Nat) (this : Nat) (h0 : tg this = 3) (m : Mem) : Ok SX SG (d + 2) m_X3_back 0 [some (.ref this), some (.ref 2)] [] SG m (f_X3_back N this m) := by
  unfold f_X3_back
  refine ok_aload_n 1 1 dX3_back_0 rfl rfl rfl ?_
  refine ok_getR 4 dX3_back_1 rfl rfl F_Encores_Moment_26 sg_2 rfl (Nat.le_of_ble_eq_true rfl) rfl rfl ?_
  refine ok_aload_n 5 0 dX3_back_4 rfl rfl rfl ?_
  refine ok_getR 8 dX3_back_5 rfl rfl F_Encores_Moment_14 (sg_M _ h0) rfl (Nat.le_of_ble_eq_true rfl) rfl rfl ?_
  refine ok_callVv (np := 1) (M' := m_X9_copy) (As := [.ref (rq this 0)]) (st := []) 11 dX3_back_8 rfl rfl km_X9_copy ki_X9_copy kv_X9_copy ml_Encores_Moment_29 (by decide) sg_3 rfl (Nat.le_of_ble_eq_true rfl) rfl rfl rfl (Nat.le_of_ble_eq_true rfl) (c_X9_copy N (d + 0) 3 (rq this 0) tg_3 (rt_3_0 _ h0) m) ⟨Nat.le_refl _, Nat.le_refl _⟩ (Or.inl rfl) rfl (fun _ m_8 _ => ?_)
  refine ok_aload_n 12 1 dX3_back_11 rfl rfl rfl ?_
  refine ok_getR 15 dX3_back_12 rfl rfl F_Encores_Moment_33 sg_2 rfl (Nat.le_of_ble_eq_true rfl) rfl rfl ?_
  refine ok_aload_n 16 0 dX3_back_15 rfl rfl rfl ?_
  refine ok_getR 19 dX3_back_16 rfl rfl F_Encores_Moment_20 (sg_M _ h0) rfl (Nat.le_of_ble_eq_true rfl) rfl rfl ?_
  refine ok_callVv (np := 1) (M' := m_X9_copy) (As := [.ref (rq this 1)]) (st := []) 22 dX3_back_19 rfl rfl km_X9_copy ki_X9_copy kv_X9_copy ml_Encores_Moment_29 (by decide) sg_5 rfl (Nat.le_of_ble_eq_true rfl) rfl rfl rfl (Nat.le_of_ble_eq_true rfl) (c_X9_copy N (d + 0) 5 (rq this 1) tg_5 (rt_3_1 _ h0) m_8) ⟨Nat.le_refl _, Nat.le_refl _⟩ (Or.inl rfl) rfl (fun _ m_19 _ => ?_)
  refine ok_aload_n 23 1 dX3_back_22 rfl rfl rfl ?_
  refine ok_getR 26 dX3_back_23 rfl rfl F_Encores_Moment_34 sg_2 rfl (Nat.le_of_ble_eq_true rfl) rfl rfl ?_
  refine ok_aload_n 27 0 dX3_back_26 rfl rfl rfl ?_
  refine ok_getR 30 dX3_back_27 rfl rfl F_Encores_Moment_23 (sg_M _ h0) rfl (Nat.le_of_ble_eq_true rfl) rfl rfl ?_
  refine ok_callVv (np := 1) (M' := m_X9_copy) (As := [.ref (rq this 2)]) (st := []) 33 dX3_back_30 rfl rfl km_X9_copy ki_X9_copy kv_X9_copy ml_Encores_Moment_29 (by decide) sg_7 rfl (Nat.le_of_ble_eq_true rfl) rfl rfl rfl (Nat.le_of_ble_eq_true rfl) (c_X9_copy N (d + 0) 7 (rq this 2) tg_7 (rt_3_2 _ h0) m_19) ⟨Nat.le_refl _, Nat.le_refl _⟩ (Or.inl rfl) rfl (fun _ m_30 _ => ?_)
  refine ok_aload_n 34 1 dX3_back_33 rfl rfl rfl ?_
  refine ok_getR 37 dX3_back_34 rfl rfl F_Encores_Moment_35 sg_2 rfl (Nat.le_of_ble_eq_true rfl) rfl rfl ?_
  refine ok_aload_n 38 0 dX3_back_37 rfl rfl rfl ?_
  refine ok_getI 41 dX3_back_38 rfl rfl F_Encores_Moment_42 (sg_M _ h0) rfl (Nat.le_of_ble_eq_true rfl) rfl ?_
  refine ok_putI 44 dX3_back_41 rfl rfl F_Encores_Moment_38 sg_9 rfl (Nat.le_of_ble_eq_true rfl) rfl rfl pZ_9_3 rfl rfl ?_
  refine ok_bndM (fun m_41 => ?_)
  exact ok_vret dX3_back_44 rfl

theorem c_X3_back (N d : Nat) (this : Nat) (h0 : tg this = 3) (m : Mem) : CM SX (d + 2) m_X3_back SG SG [.ref this, .ref 2] m (f_X3_back N this m) :=
  CM.ofOk km_X3_back ⟨Nat.le_refl _, Nat.le_refl _⟩ (by simp [Value.category]) (Nat.le_of_ble_eq_true rfl) (ok_X3_back N d this h0 m)

def f_X4_momentAt (N : Nat) (a1 : Int32) (m : Mem) : Ans :=
if a1 < 0 then (some (-1, m))
else (if (6 : Int32) ≤ a1 then (some (-1, m))
else (chk (inb a1 6) <|
some (nI (mo a1), m)))

set_option maxRecDepth 100000 in
set_option maxHeartbeats 4000000 in
theorem ok_X4_momentAt (N d : Nat) (a1 : Int32)  (m : Mem) : Ok SX SG (d + 0) m_X4_momentAt 0 [some (.ref 48), some (.int a1)] [] SG m (f_X4_momentAt N a1 m) := by
  unfold f_X4_momentAt
  refine ok_iload_n 1 1 dX4_momentAt_0 rfl rfl rfl ?_
  refine ok_if_lt 22 4 dX4_momentAt_1 (by decide) rfl (fun _ => ?_) (fun _ => ?_)
  · refine ok_null 23 dX4_momentAt_22 rfl ?_
    exact ok_aretn dX4_momentAt_23 rfl
  · refine ok_iload_n 5 1 dX4_momentAt_4 rfl rfl rfl ?_
    refine ok_aload_n 6 0 dX4_momentAt_5 rfl rfl rfl ?_
    refine ok_getR 9 dX4_momentAt_6 rfl rfl F_Encores_Past_11 sg_48 rfl (Nat.le_of_ble_eq_true rfl) rfl rfl ?_
    refine ok_alenR 10 dX4_momentAt_9 rfl sg_49 ?_
    rw [show Int32.ofNat 6 = 6 from rfl]
    refine ok_icmp_ge 22 13 dX4_momentAt_10 (by decide) rfl (fun _ => ?_) (fun _ => ?_)
    · refine ok_null 23 dX4_momentAt_22 rfl ?_
      exact ok_aretn dX4_momentAt_23 rfl
    · refine ok_aload_n 14 0 dX4_momentAt_13 rfl rfl rfl ?_
      refine ok_getR 17 dX4_momentAt_14 rfl rfl F_Encores_Past_11 sg_48 rfl (Nat.le_of_ble_eq_true rfl) rfl rfl ?_
      refine ok_iload_n 18 1 dX4_momentAt_17 rfl rfl rfl ?_
      refine ok_aaldS 19 dX4_momentAt_18 rfl ?_
      refine ok_goto 23 dX4_momentAt_19 (by decide) ?_
      exact ok_aretr dX4_momentAt_23 rfl (mo_lt _)

theorem c_X4_momentAt (N d : Nat) (a1 : Int32)  (m : Mem) : CM SX (d + 0) m_X4_momentAt SG SG [.ref 48, .int a1] m (f_X4_momentAt N a1 m) :=
  CM.ofOk km_X4_momentAt ⟨Nat.le_refl _, Nat.le_refl _⟩ (by simp [Value.category]) (Nat.le_of_ble_eq_true rfl) (ok_X4_momentAt N d a1 m)

theorem tg_momentAt {N : Nat} {a : Int32} {m m1 : Mem} {v : Int32} (h : f_X4_momentAt N a m = some (v, m1)) (hv : v ≠ -1) : tg v.toNatClampNeg = 3 := by
  have key : v = -1 ∨ v = nI (mo a) := by
    unfold f_X4_momentAt at h
    repeat' split at h
    all_goals first | (cases h; exact Or.inl rfl) | skip
    cases hb : inb a 6 <;> rw [hb] at h
    · cases h
    · cases h; exact Or.inr rfl
  rcases key with q | q
  · exact absurd q hv
  · rw [q, nI_clamp (mo_lt a)]; exact tg_mo a

def f_X4_keep_J18 (N : Nat)     (m : Mem) : Ans :=
if (6 : Int32) ≤ ((m 48 1) + (1 : Int32)) then (bnd (mset m 48 1 0) fun m_40 =>
bnd (mset m_40 48 2 (if ((m_40 48 2) + (1 : Int32)) < (6 : Int32) then ((m_40 48 2) + (1 : Int32)) else (6 : Int32))) fun m_55 =>
some (0, m_55))
else (bnd (mset m 48 1 ((m 48 1) + (1 : Int32))) fun m_40 =>
bnd (mset m_40 48 2 (if ((m_40 48 2) + (1 : Int32)) < (6 : Int32) then ((m_40 48 2) + (1 : Int32)) else (6 : Int32))) fun m_55 =>
some (0, m_55))

def f_X4_keep (N : Nat)  (m : Mem) : Ans :=
bd (f_X4_momentAt N (m 48 1) m) fun r_5 m_5 => chk (decide (r_5 ≠ -1)) <|
bd (f_X3_keep N r_5.toNatClampNeg m_5) fun _ m_15 =>
f_X4_keep_J18 N m_15

set_option maxRecDepth 100000 in
set_option maxHeartbeats 4000000 in
theorem ok_X4_keep_J18 (N d : Nat)      (m : Mem) : Ok SX SG (d + 3) m_X4_keep 18 [some (.ref 48), none, none] [] SG m (f_X4_keep_J18 N m) := by
  unfold f_X4_keep_J18
  refine ok_aload_n 19 0 dX4_keep_18 rfl rfl rfl ?_
  refine ok_aload_n 20 0 dX4_keep_19 rfl rfl rfl ?_
  refine ok_getI 23 dX4_keep_20 rfl rfl F_Encores_Past_18 sg_48 rfl (Nat.le_of_ble_eq_true rfl) rfl ?_
  refine ok_iconst 24 1 dX4_keep_23 rfl rfl ?_
  refine ok_iadd 25 dX4_keep_24 rfl ?_
  refine ok_bipush 27 6 dX4_keep_25 rfl rfl ?_
  refine ok_icmp_ge 39 30 dX4_keep_27 (by decide) rfl (fun _ => ?_) (fun _ => ?_)
  · refine ok_iconst 40 0 dX4_keep_39 rfl rfl ?_
    refine ok_putI 43 dX4_keep_40 rfl rfl F_Encores_Past_18 sg_48 rfl (Nat.le_of_ble_eq_true rfl) rfl rfl pZ_4_1 rfl rfl ?_
    refine ok_bndM (fun m_40 => ?_)
    refine ok_aload_n 44 0 dX4_keep_43 rfl rfl rfl ?_
    refine ok_bipush 46 6 dX4_keep_44 rfl rfl ?_
    refine ok_aload_n 47 0 dX4_keep_46 rfl rfl rfl ?_
    refine ok_getI 50 dX4_keep_47 rfl rfl F_Encores_Past_30 sg_48 rfl (Nat.le_of_ble_eq_true rfl) rfl ?_
    refine ok_iconst 51 1 dX4_keep_50 rfl rfl ?_
    refine ok_iadd 52 dX4_keep_51 rfl ?_
    refine ok_min 55 ⟨Nat.le_refl _, Nat.le_refl _⟩ dX4_keep_52 rfl rfl ml_Encores_Past_33 (Nat.le_of_ble_eq_true rfl) ?_
    refine ok_putI 58 dX4_keep_55 rfl rfl F_Encores_Past_30 sg_48 rfl (Nat.le_of_ble_eq_true rfl) rfl rfl pZ_4_2 rfl rfl ?_
    refine ok_bndM (fun m_55 => ?_)
    exact ok_vret dX4_keep_58 rfl
  · refine ok_aload_n 31 0 dX4_keep_30 rfl rfl rfl ?_
    refine ok_getI 34 dX4_keep_31 rfl rfl F_Encores_Past_18 sg_48 rfl (Nat.le_of_ble_eq_true rfl) rfl ?_
    refine ok_iconst 35 1 dX4_keep_34 rfl rfl ?_
    refine ok_iadd 36 dX4_keep_35 rfl ?_
    refine ok_goto 40 dX4_keep_36 (by decide) ?_
    refine ok_putI 43 dX4_keep_40 rfl rfl F_Encores_Past_18 sg_48 rfl (Nat.le_of_ble_eq_true rfl) rfl rfl pZ_4_1 rfl rfl ?_
    refine ok_bndM (fun m_40 => ?_)
    refine ok_aload_n 44 0 dX4_keep_43 rfl rfl rfl ?_
    refine ok_bipush 46 6 dX4_keep_44 rfl rfl ?_
    refine ok_aload_n 47 0 dX4_keep_46 rfl rfl rfl ?_
    refine ok_getI 50 dX4_keep_47 rfl rfl F_Encores_Past_30 sg_48 rfl (Nat.le_of_ble_eq_true rfl) rfl ?_
    refine ok_iconst 51 1 dX4_keep_50 rfl rfl ?_
    refine ok_iadd 52 dX4_keep_51 rfl ?_
    refine ok_min 55 ⟨Nat.le_refl _, Nat.le_refl _⟩ dX4_keep_52 rfl rfl ml_Encores_Past_33 (Nat.le_of_ble_eq_true rfl) ?_
    refine ok_putI 58 dX4_keep_55 rfl rfl F_Encores_Past_30 sg_48 rfl (Nat.le_of_ble_eq_true rfl) rfl rfl pZ_4_2 rfl rfl ?_
    refine ok_bndM (fun m_55 => ?_)
    exact ok_vret dX4_keep_58 rfl

set_option maxRecDepth 100000 in
set_option maxHeartbeats 4000000 in
theorem ok_X4_keep (N d : Nat)   (m : Mem) : Ok SX SG (d + 3) m_X4_keep 0 [some (.ref 48), some (.ref 2), none] [] SG m (f_X4_keep N m) := by
  unfold f_X4_keep
  refine ok_aload_n 1 0 dX4_keep_0 rfl rfl rfl ?_
  refine ok_aload_n 2 0 dX4_keep_1 rfl rfl rfl ?_
  refine ok_getI 5 dX4_keep_2 rfl rfl F_Encores_Past_18 sg_48 rfl (Nat.le_of_ble_eq_true rfl) rfl ?_
  refine ok_callVr (np := 1) (M' := m_X4_momentAt) (As := [.int (m 48 1)]) (st := []) 8 dX4_keep_5 rfl rfl km_X4_momentAt ki_X4_momentAt kv_X4_momentAt ml_Encores_Past_22 (by decide) sg_48 rfl (Nat.le_of_ble_eq_true rfl) rfl rfl rfl (Nat.le_of_ble_eq_true rfl) (c_X4_momentAt N (d + 2) (m 48 1) m) ⟨Nat.le_refl _, Nat.le_refl _⟩ (Or.inl rfl) rfl (fun r_5 m_5 hy_5 hz_5 => ?_)
  refine ok_astore_n 9 2 [some (.ref 48), some (.ref 2), some (.ref r_5.toNatClampNeg)] dX4_keep_8 rfl rfl (by decide) rfl ?_
  refine ok_aload_n 10 2 dX4_keep_9 rfl rfl rfl ?_
  refine ok_ifnull 13 dX4_keep_10 rfl ?_
  refine ok_aload_n 14 2 dX4_keep_13 rfl rfl rfl ?_
  refine ok_aload_n 15 1 dX4_keep_14 rfl rfl rfl ?_
  refine ok_callVv (np := 1) (M' := m_X3_keep) (As := [.ref 2]) (st := []) 18 dX4_keep_15 rfl rfl km_X3_keep ki_X3_keep kv_X3_keep ml_Encores_Past_26 (by decide) (sg_M _ (tg_momentAt hy_5 hz_5)) rfl (Nat.le_of_ble_eq_true rfl) rfl rfl rfl (Nat.le_of_ble_eq_true rfl) (c_X3_keep N (d + 0) r_5.toNatClampNeg (tg_momentAt hy_5 hz_5) m_5) ⟨Nat.le_refl _, Nat.le_refl _⟩ (Or.inl rfl) rfl (fun _ m_15 _ => ?_)
  exact ok_less [some (.ref 48), none, none] (And.intro rfl (trivial)) (ok_X4_keep_J18 N d    m_15)

theorem c_X4_keep (N d : Nat)   (m : Mem) : CM SX (d + 3) m_X4_keep SG SG [.ref 48, .ref 2] m (f_X4_keep N m) :=
  CM.ofOk km_X4_keep ⟨Nat.le_refl _, Nat.le_refl _⟩ (by simp [Value.category]) (Nat.le_of_ble_eq_true rfl) (ok_X4_keep N d  m)

def f_X4_back_J28 (N : Nat)    (t0_28 : Int32) (m : Mem) : Ans :=
bnd (mset m 48 1 t0_28) fun m_28 =>
bnd (mset m_28 48 2 ((m_28 48 2) - (1 : Int32))) fun m_38 =>
bd (f_X4_momentAt N (m_38 48 1) m_38) fun r_46 m_46 => chk (decide (r_46 ≠ -1)) <|
bd (f_X3_back N r_46.toNatClampNeg m_46) fun _ m_56 =>
some (1, m_56)

def f_X4_back (N : Nat)  (m : Mem) : Ans :=
if (1 : Int32) ≤ (m 48 2) then (if (m 48 1) ≤ 0 then (f_X4_back_J28 N 5 m)
else (f_X4_back_J28 N ((m 48 1) - (1 : Int32)) m))
else (some (0, m))

set_option maxRecDepth 100000 in
set_option maxHeartbeats 4000000 in
theorem ok_X4_back_J28 (N d : Nat)     (t0_28 : Int32) (m : Mem) : Ok SX SG (d + 3) m_X4_back 28 [some (.ref 48), some (.ref 2), none] [.int t0_28, .ref 48] SG m (f_X4_back_J28 N t0_28 m) := by
  unfold f_X4_back_J28
  refine ok_putI 31 dX4_back_28 rfl rfl F_Encores_Past_18 sg_48 rfl (Nat.le_of_ble_eq_true rfl) rfl rfl pZ_4_1 rfl rfl ?_
  refine ok_bndM (fun m_28 => ?_)
  refine ok_aload_n 32 0 dX4_back_31 rfl rfl rfl ?_
  refine ok_dup 33 dX4_back_32 rfl rfl ?_
  refine ok_getI 36 dX4_back_33 rfl rfl F_Encores_Past_30 sg_48 rfl (Nat.le_of_ble_eq_true rfl) rfl ?_
  refine ok_iconst 37 1 dX4_back_36 rfl rfl ?_
  refine ok_isub 38 dX4_back_37 rfl ?_
  refine ok_putI 41 dX4_back_38 rfl rfl F_Encores_Past_30 sg_48 rfl (Nat.le_of_ble_eq_true rfl) rfl rfl pZ_4_2 rfl rfl ?_
  refine ok_bndM (fun m_38 => ?_)
  refine ok_aload_n 42 0 dX4_back_41 rfl rfl rfl ?_
  refine ok_aload_n 43 0 dX4_back_42 rfl rfl rfl ?_
  refine ok_getI 46 dX4_back_43 rfl rfl F_Encores_Past_18 sg_48 rfl (Nat.le_of_ble_eq_true rfl) rfl ?_
  refine ok_callVr (np := 1) (M' := m_X4_momentAt) (As := [.int (m_38 48 1)]) (st := []) 49 dX4_back_46 rfl rfl km_X4_momentAt ki_X4_momentAt kv_X4_momentAt ml_Encores_Past_22 (by decide) sg_48 rfl (Nat.le_of_ble_eq_true rfl) rfl rfl rfl (Nat.le_of_ble_eq_true rfl) (c_X4_momentAt N (d + 2) (m_38 48 1) m_38) ⟨Nat.le_refl _, Nat.le_refl _⟩ (Or.inl rfl) rfl (fun r_46 m_46 hy_46 hz_46 => ?_)
  refine ok_astore_n 50 2 [some (.ref 48), some (.ref 2), some (.ref r_46.toNatClampNeg)] dX4_back_49 rfl rfl (by decide) rfl ?_
  refine ok_aload_n 51 2 dX4_back_50 rfl rfl rfl ?_
  refine ok_ifnull 54 dX4_back_51 rfl ?_
  refine ok_aload_n 55 2 dX4_back_54 rfl rfl rfl ?_
  refine ok_aload_n 56 1 dX4_back_55 rfl rfl rfl ?_
  refine ok_callVv (np := 1) (M' := m_X3_back) (As := [.ref 2]) (st := []) 59 dX4_back_56 rfl rfl km_X3_back ki_X3_back kv_X3_back ml_Encores_Past_39 (by decide) (sg_M _ (tg_momentAt hy_46 hz_46)) rfl (Nat.le_of_ble_eq_true rfl) rfl rfl rfl (Nat.le_of_ble_eq_true rfl) (c_X3_back N (d + 0) r_46.toNatClampNeg (tg_momentAt hy_46 hz_46) m_46) ⟨Nat.le_refl _, Nat.le_refl _⟩ (Or.inl rfl) rfl (fun _ m_56 _ => ?_)
  refine ok_iconst 60 1 dX4_back_59 rfl rfl ?_
  exact ok_zretc dX4_back_60 rfl rfl

set_option maxRecDepth 100000 in
set_option maxHeartbeats 4000000 in
theorem ok_X4_back (N d : Nat)   (m : Mem) : Ok SX SG (d + 3) m_X4_back 0 [some (.ref 48), some (.ref 2), none] [] SG m (f_X4_back N m) := by
  unfold f_X4_back
  refine ok_aload_n 1 0 dX4_back_0 rfl rfl rfl ?_
  refine ok_getI 4 dX4_back_1 rfl rfl F_Encores_Past_30 sg_48 rfl (Nat.le_of_ble_eq_true rfl) rfl ?_
  refine ok_iconst 5 1 dX4_back_4 rfl rfl ?_
  refine ok_icmp_ge 10 8 dX4_back_5 (by decide) rfl (fun _ => ?_) (fun _ => ?_)
  · refine ok_aload_n 11 0 dX4_back_10 rfl rfl rfl ?_
    refine ok_aload_n 12 0 dX4_back_11 rfl rfl rfl ?_
    refine ok_getI 15 dX4_back_12 rfl rfl F_Encores_Past_18 sg_48 rfl (Nat.le_of_ble_eq_true rfl) rfl ?_
    refine ok_if_le 27 18 dX4_back_15 (by decide) rfl (fun _ => ?_) (fun _ => ?_)
    · refine ok_iconst 28 5 dX4_back_27 rfl rfl ?_
      exact ok_less [some (.ref 48), some (.ref 2), none] (And.intro rfl (And.intro rfl (trivial))) (ok_X4_back_J28 N d    5 m)
    · refine ok_aload_n 19 0 dX4_back_18 rfl rfl rfl ?_
      refine ok_getI 22 dX4_back_19 rfl rfl F_Encores_Past_18 sg_48 rfl (Nat.le_of_ble_eq_true rfl) rfl ?_
      refine ok_iconst 23 1 dX4_back_22 rfl rfl ?_
      refine ok_isub 24 dX4_back_23 rfl ?_
      refine ok_goto 28 dX4_back_24 (by decide) ?_
      exact ok_less [some (.ref 48), some (.ref 2), none] (And.intro rfl (And.intro rfl (trivial))) (ok_X4_back_J28 N d    ((m 48 1) - (1 : Int32)) m)
  · refine ok_iconst 9 0 dX4_back_8 rfl rfl ?_
    exact ok_zretc dX4_back_9 rfl rfl

theorem c_X4_back (N d : Nat)   (m : Mem) : CM SX (d + 3) m_X4_back SG SG [.ref 48, .ref 2] m (f_X4_back N m) :=
  CM.ofOk km_X4_back ⟨Nat.le_refl _, Nat.le_refl _⟩ (by simp [Value.category]) (Nat.le_of_ble_eq_true rfl) (ok_X4_back N d  m)

