variable {SX : SXT}
def g_J5_init_d00df (N : Nat) (this : Nat) (a1 : Int32) (h : DS) : DA :=
if (1 : Int32) = 0 then (none)
else (bo (nA h 102 a1) fun h_12 =>
bo (wR h_12 this 13 0 (some h.2.1.length)) fun h_14 =>
bo (wI h_14 this 13 1 (0 : Int32)) fun h_19 =>
some (0, h_19))

set_option maxRecDepth 100000 in
set_option maxHeartbeats 4000000 in
theorem dg_J5_init_d00df (N d : Nat) (this : Nat) (a1 : Int32) (h : DS) : DOk SX (d + 1) m_J5_init_d00df 0 [some (.ref this), some (.int a1)] [] h (g_J5_init_d00df N this a1 h) := by
  unfold g_J5_init_d00df
  refine dk_aload_n 1 0 dJ5_init_d00df_0 rfl rfl rfl ?_
  refine dk_objInit 4 dJ5_init_d00df_1 rfl rfl ml_java_lang_AbstractStringBuilder_3 (Nat.le_of_ble_eq_true rfl) ?_
  refine dk_getsC 7 dJ5_init_d00df_4 rfl rfl fl_java_lang_AbstractStringBuilder_18 ?_
  refine dk_if_eq 25 10 dJ5_init_d00df_7 (by decide) rfl (fun _ => ?_) (fun _ => ?_)
  · refine dk_aload_n 26 0 dJ5_init_d00df_25 rfl rfl rfl ?_
    refine dk_iload_n 27 1 dJ5_init_d00df_26 rfl rfl rfl ?_
    exact DOk.nil
  · refine dk_aload_n 11 0 dJ5_init_d00df_10 rfl rfl rfl ?_
    refine dk_iload_n 12 1 dJ5_init_d00df_11 rfl rfl rfl ?_
    refine dk_newaB 14 dJ5_init_d00df_12 rfl (fun h_12 _ => ?_)
    refine dk_putR (o := (some h.2.1.length)) 17 dJ5_init_d00df_14 rfl rfl F_java_lang_AbstractStringBuilder_15 rfl pZ_13_0 (fun q => nr_a q) (fun q => ft_a q) (fun h_14 _ => ?_)
    refine dk_aload_n 18 0 dJ5_init_d00df_17 rfl rfl rfl ?_
    refine dk_iconst 19 0 dJ5_init_d00df_18 rfl rfl ?_
    refine dk_putI 22 dJ5_init_d00df_19 rfl rfl F_java_lang_AbstractStringBuilder_22 rfl pZ_13_1 rfl rfl (fun h_19 _ => ?_)
    refine dk_goto 38 dJ5_init_d00df_22 (by decide) ?_
    exact dk_vret dJ5_init_d00df_38 rfl

theorem dc_J5_init_d00df (N d : Nat) (this : Nat) (a1 : Int32) (h : DS) : DCM SX (d + 1) m_J5_init_d00df [.ref this, .int a1] h (g_J5_init_d00df N this a1 h) :=
  DCM.ofDOk km_J5_init_d00df (by simp [Value.category]) (Nat.le_of_ble_eq_true rfl) (dg_J5_init_d00df N d this a1 h)

def g_J5_length_8abf5 (N : Nat) (this : Nat) (h : DS) : DA :=
bo (dI h this 13 3) fun a_1 =>
some (a_1, h)

set_option maxRecDepth 100000 in
set_option maxHeartbeats 4000000 in
theorem dg_J5_length_8abf5 (N d : Nat) (this : Nat) (h : DS) : DOk SX (d + 0) m_J5_length_8abf5 0 [some (.ref this)] [] h (g_J5_length_8abf5 N this h) := by
  unfold g_J5_length_8abf5
  refine dk_aload_n 1 0 dJ5_length_8abf5_0 rfl rfl rfl ?_
  refine dk_getI 4 dJ5_length_8abf5_1 rfl rfl F_java_lang_AbstractStringBuilder_79 (fun a_1 _ => ?_)
  exact dk_iret dJ5_length_8abf5_4 rfl

theorem dc_J5_length_8abf5 (N d : Nat) (this : Nat) (h : DS) : DCM SX (d + 0) m_J5_length_8abf5 [.ref this] h (g_J5_length_8abf5 N this h) :=
  DCM.ofDOk km_J5_length_8abf5 (by simp [Value.category]) (Nat.le_of_ble_eq_true rfl) (dg_J5_length_8abf5 N d this h)

def g_J8_newLength_cabcc (N : Nat) (a0 : Int32) (a1 : Int32) (a2 : Int32) (h : DS) : DA :=
bnd (if a1 < a2 then a2 else a1) fun a_3 =>
if (a0 + a_3) ≤ (0 : Int32) then (none)
else (if (2147483639 : Int32) < (a0 + a_3) then (none)
else (some ((a0 + a_3), h)))

set_option maxRecDepth 100000 in
set_option maxHeartbeats 4000000 in
theorem dg_J8_newLength_cabcc (N d : Nat) (a0 : Int32) (a1 : Int32) (a2 : Int32) (h : DS) : DOk SX (d + 1) m_J8_newLength_cabcc 0 [some (.int a0), some (.int a1), some (.int a2), none] [] h (g_J8_newLength_cabcc N a0 a1 a2 h) := by
  unfold g_J8_newLength_cabcc
  refine dk_iload_n 1 0 dJ8_newLength_cabcc_0 rfl rfl rfl ?_
  refine dk_iload_n 2 1 dJ8_newLength_cabcc_1 rfl rfl rfl ?_
  refine dk_iload_n 3 2 dJ8_newLength_cabcc_2 rfl rfl rfl ?_
  refine dk_max 6 dJ8_newLength_cabcc_3 rfl rfl ml_jdk_internal_util_ArraysSupport_194 (Nat.le_of_ble_eq_true rfl) ?_
  refine dk_bndI (fun a_3 => ?_)
  refine dk_iadd 7 dJ8_newLength_cabcc_6 rfl ?_
  refine dk_istore_n 8 3 [some (.int a0), some (.int a1), some (.int a2), some (.int (a0 + a_3))] dJ8_newLength_cabcc_7 rfl rfl (by decide) rfl ?_
  refine dk_iconst 9 0 dJ8_newLength_cabcc_8 rfl rfl ?_
  refine dk_iload_n 10 3 dJ8_newLength_cabcc_9 rfl rfl rfl ?_
  refine dk_icmp_ge 21 13 dJ8_newLength_cabcc_10 (by decide) rfl (fun _ => ?_) (fun _ => ?_)
  · refine dk_iload_n 22 0 dJ8_newLength_cabcc_21 rfl rfl rfl ?_
    refine dk_iload_n 23 1 dJ8_newLength_cabcc_22 rfl rfl rfl ?_
    exact DOk.nil
  · refine dk_iload_n 14 3 dJ8_newLength_cabcc_13 rfl rfl rfl ?_
    refine dk_ldc 16 2147483639 dJ8_newLength_cabcc_14 rfl rfl cn_jdk_internal_util_ArraysSupport_200 ?_
    refine dk_icmp_gt 21 19 dJ8_newLength_cabcc_16 (by decide) rfl (fun _ => ?_) (fun _ => ?_)
    · refine dk_iload_n 22 0 dJ8_newLength_cabcc_21 rfl rfl rfl ?_
      refine dk_iload_n 23 1 dJ8_newLength_cabcc_22 rfl rfl rfl ?_
      exact DOk.nil
    · refine dk_iload_n 20 3 dJ8_newLength_cabcc_19 rfl rfl rfl ?_
      exact dk_iret dJ8_newLength_cabcc_20 rfl

theorem dc_J8_newLength_cabcc (N d : Nat) (a0 : Int32) (a1 : Int32) (a2 : Int32) (h : DS) : DCM SX (d + 1) m_J8_newLength_cabcc [.int a0, .int a1, .int a2] h (g_J8_newLength_cabcc N a0 a1 a2 h) :=
  DCM.ofDOk km_J8_newLength_cabcc (by simp [Value.category]) (Nat.le_of_ble_eq_true rfl) (dg_J8_newLength_cabcc N d a0 a1 a2 h)

def g_J5_newCapacity_0f7a4 (N : Nat) (this : Nat) (a1 : Int32) (h : DS) : DA :=
bo (nn (dR h this 13 0)) fun r_1 =>
bo (bN h r_1) fun c_4 =>
bo (dI h this 13 1) fun a_8 =>
bo (dI h this 13 1) fun a_24 =>
bd3 (g_J8_newLength_cabcc N (Int32.ofNat c_4) ((a1 <<< (a_8 &&& 31)) - (Int32.ofNat c_4)) ((Int32.ofNat c_4) + ((2 : Int32) <<< (a_24 &&& 31))) h) fun v_29 h_29 =>
if v_29 = (2147483647 : Int32) then (none)
else (bo (dI h_29 this 13 1) fun a_54 =>
some ((v_29 >>> (a_54 &&& 31)), h_29))

set_option maxRecDepth 100000 in
set_option maxHeartbeats 4000000 in
theorem dg_J5_newCapacity_0f7a4 (N d : Nat) (this : Nat) (a1 : Int32) (h : DS) : DOk SX (d + 2) m_J5_newCapacity_0f7a4 0 [some (.ref this), some (.int a1), none, none, none, none] [] h (g_J5_newCapacity_0f7a4 N this a1 h) := by
  unfold g_J5_newCapacity_0f7a4
  refine dk_aload_n 1 0 dJ5_newCapacity_0f7a4_0 rfl rfl rfl ?_
  refine dk_getR 4 dJ5_newCapacity_0f7a4_1 rfl rfl F_java_lang_AbstractStringBuilder_15 (fun r_1 _ => ?_)
  refine dk_blen 5 dJ5_newCapacity_0f7a4_4 rfl (fun c_4 _ => ?_)
  refine dk_istore_n 6 2 [some (.ref this), some (.int a1), some (.int (Int32.ofNat c_4)), none, none, none] dJ5_newCapacity_0f7a4_5 rfl rfl (by decide) rfl ?_
  refine dk_iload_n 7 1 dJ5_newCapacity_0f7a4_6 rfl rfl rfl ?_
  refine dk_aload_n 8 0 dJ5_newCapacity_0f7a4_7 rfl rfl rfl ?_
  refine dk_getI 11 dJ5_newCapacity_0f7a4_8 rfl rfl F_java_lang_AbstractStringBuilder_22 (fun a_8 _ => ?_)
  refine dk_ishl 12 dJ5_newCapacity_0f7a4_11 rfl ?_
  refine dk_istore_n 13 3 [some (.ref this), some (.int a1), some (.int (Int32.ofNat c_4)), some (.int (a1 <<< (a_8 &&& 31))), none, none] dJ5_newCapacity_0f7a4_12 rfl rfl (by decide) rfl ?_
  refine dk_iload_n 14 3 dJ5_newCapacity_0f7a4_13 rfl rfl rfl ?_
  refine dk_iload_n 15 2 dJ5_newCapacity_0f7a4_14 rfl rfl rfl ?_
  refine dk_isub 16 dJ5_newCapacity_0f7a4_15 rfl ?_
  refine dk_istore 18 4 [some (.ref this), some (.int a1), some (.int (Int32.ofNat c_4)), some (.int (a1 <<< (a_8 &&& 31))), some (.int ((a1 <<< (a_8 &&& 31)) - (Int32.ofNat c_4))), none] dJ5_newCapacity_0f7a4_16 rfl (by decide) rfl ?_
  refine dk_iload_n 19 2 dJ5_newCapacity_0f7a4_18 rfl rfl rfl ?_
  refine dk_iload 21 4 dJ5_newCapacity_0f7a4_19 rfl rfl ?_
  refine dk_iload_n 22 2 dJ5_newCapacity_0f7a4_21 rfl rfl rfl ?_
  refine dk_iconst 23 2 dJ5_newCapacity_0f7a4_22 rfl rfl ?_
  refine dk_aload_n 24 0 dJ5_newCapacity_0f7a4_23 rfl rfl rfl ?_
  refine dk_getI 27 dJ5_newCapacity_0f7a4_24 rfl rfl F_java_lang_AbstractStringBuilder_22 (fun a_24 _ => ?_)
  refine dk_ishl 28 dJ5_newCapacity_0f7a4_27 rfl ?_
  refine dk_iadd 29 dJ5_newCapacity_0f7a4_28 rfl ?_
  refine dk_callS (np := 3) (M' := m_J8_newLength_cabcc) (As := [.int (Int32.ofNat c_4), .int ((a1 <<< (a_8 &&& 31)) - (Int32.ofNat c_4)), .int ((Int32.ofNat c_4) + ((2 : Int32) <<< (a_24 &&& 31)))]) (st := []) 32 dJ5_newCapacity_0f7a4_29 rfl rfl km_J8_newLength_cabcc ks_J8_newLength_cabcc ml_java_lang_AbstractStringBuilder_114 (by decide) rfl rfl (Nat.le_of_ble_eq_true rfl) (dc_J8_newLength_cabcc N (d + 0) (Int32.ofNat c_4) ((a1 <<< (a_8 &&& 31)) - (Int32.ofNat c_4)) ((Int32.ofNat c_4) + ((2 : Int32) <<< (a_24 &&& 31))) h) (fun v_29 h_29 e_29 => ?_)
  show DOk _ _ _ _ _ (.int v_29 :: []) _ _
  refine dk_istore 34 5 [some (.ref this), some (.int a1), some (.int (Int32.ofNat c_4)), some (.int (a1 <<< (a_8 &&& 31))), some (.int ((a1 <<< (a_8 &&& 31)) - (Int32.ofNat c_4))), some (.int v_29)] dJ5_newCapacity_0f7a4_32 rfl (by decide) rfl ?_
  refine dk_iload 36 5 dJ5_newCapacity_0f7a4_34 rfl rfl ?_
  refine dk_ldc 38 2147483647 dJ5_newCapacity_0f7a4_36 rfl rfl cn_java_lang_AbstractStringBuilder_39 ?_
  refine dk_icmp_ne 51 41 dJ5_newCapacity_0f7a4_38 (by decide) rfl (fun _ => ?_) (fun _ => ?_)
  · refine dk_iload 53 5 dJ5_newCapacity_0f7a4_51 rfl rfl ?_
    refine dk_aload_n 54 0 dJ5_newCapacity_0f7a4_53 rfl rfl rfl ?_
    refine dk_getI 57 dJ5_newCapacity_0f7a4_54 rfl rfl F_java_lang_AbstractStringBuilder_22 (fun a_54 _ => ?_)
    refine dk_ishr 58 dJ5_newCapacity_0f7a4_57 rfl ?_
    exact dk_iret dJ5_newCapacity_0f7a4_58 rfl
  · exact DOk.nil

theorem dc_J5_newCapacity_0f7a4 (N d : Nat) (this : Nat) (a1 : Int32) (h : DS) : DCM SX (d + 2) m_J5_newCapacity_0f7a4 [.ref this, .int a1] h (g_J5_newCapacity_0f7a4 N this a1 h) :=
  DCM.ofDOk km_J5_newCapacity_0f7a4 (by simp [Value.category]) (Nat.le_of_ble_eq_true rfl) (dg_J5_newCapacity_0f7a4 N d this a1 h)

def g_J7_copyOf_9075b (N : Nat) (a0 : Nat) (a1 : Int32) (h : DS) : DA :=
bo (bN h a0) fun c_2 =>
if a1 = (Int32.ofNat c_2) then (bo (cB h a0) fun h_7 =>
chk (decide (h.2.1.length < 2 ^ 31)) (some (nI h.2.1.length, h_7)))
else (bo (nA h 102 a1) fun h_15 =>
bo (bN h_15 a0) fun c_23 =>
bnd (if a1 < (Int32.ofNat c_23) then a1 else (Int32.ofNat c_23)) fun a_25 =>
bo (bP h_15 a0 (0 : Int32) h.2.1.length (0 : Int32) a_25) fun h_28 =>
chk (decide (h.2.1.length < 2 ^ 31)) (some (nI h.2.1.length, h_28)))

set_option maxRecDepth 100000 in
set_option maxHeartbeats 4000000 in
theorem dg_J7_copyOf_9075b (N d : Nat) (a0 : Nat) (a1 : Int32) (h : DS) : DOk SX (d + 1) m_J7_copyOf_9075b 0 [some (.ref a0), some (.int a1), none] [] h (g_J7_copyOf_9075b N a0 a1 h) := by
  unfold g_J7_copyOf_9075b
  refine dk_iload_n 1 1 dJ7_copyOf_9075b_0 rfl rfl rfl ?_
  refine dk_aload_n 2 0 dJ7_copyOf_9075b_1 rfl rfl rfl ?_
  refine dk_blen 3 dJ7_copyOf_9075b_2 rfl (fun c_2 _ => ?_)
  refine dk_icmp_ne 14 6 dJ7_copyOf_9075b_3 (by decide) rfl (fun _ => ?_) (fun _ => ?_)
  · refine dk_iload_n 15 1 dJ7_copyOf_9075b_14 rfl rfl rfl ?_
    refine dk_newaB 17 dJ7_copyOf_9075b_15 rfl (fun h_15 _ => ?_)
    refine dk_astore_n 18 2 [some (.ref a0), some (.int a1), some (.ref h.2.1.length)] dJ7_copyOf_9075b_17 rfl rfl (by decide) rfl ?_
    refine dk_aload_n 19 0 dJ7_copyOf_9075b_18 rfl rfl rfl ?_
    refine dk_iconst 20 0 dJ7_copyOf_9075b_19 rfl rfl ?_
    refine dk_aload_n 21 2 dJ7_copyOf_9075b_20 rfl rfl rfl ?_
    refine dk_iconst 22 0 dJ7_copyOf_9075b_21 rfl rfl ?_
    refine dk_aload_n 23 0 dJ7_copyOf_9075b_22 rfl rfl rfl ?_
    refine dk_blen 24 dJ7_copyOf_9075b_23 rfl (fun c_23 _ => ?_)
    refine dk_iload_n 25 1 dJ7_copyOf_9075b_24 rfl rfl rfl ?_
    refine dk_min 28 dJ7_copyOf_9075b_25 rfl rfl ml_java_util_Arrays_304 (Nat.le_of_ble_eq_true rfl) ?_
    refine dk_bndI (fun a_25 => ?_)
    refine dk_bcopy 31 dJ7_copyOf_9075b_28 rfl rfl ml_java_util_Arrays_150 (Nat.le_of_ble_eq_true rfl) (fun h_28 _ => ?_)
    refine dk_aload_n 32 2 dJ7_copyOf_9075b_31 rfl rfl rfl ?_
    exact dk_aret dJ7_copyOf_9075b_32 rfl (Or.inr ⟨_, rfl⟩)
  · refine dk_aload_n 7 0 dJ7_copyOf_9075b_6 rfl rfl rfl ?_
    refine dk_cloneB 10 dJ7_copyOf_9075b_7 rfl rfl ml_java_util_Arrays_310 (Nat.le_of_ble_eq_true rfl) (fun h_7 hh_7 => ?_)
    obtain ⟨N_7, hN_7⟩ := cB_at hh_7
    refine dk_castB 13 dJ7_copyOf_9075b_10 rfl rfl kl_java_util_Arrays_311 hN_7 ?_
    exact dk_aret dJ7_copyOf_9075b_13 rfl (Or.inr ⟨_, rfl⟩)

theorem dc_J7_copyOf_9075b (N d : Nat) (a0 : Nat) (a1 : Int32) (h : DS) : DCM SX (d + 1) m_J7_copyOf_9075b [.ref a0, .int a1] h (g_J7_copyOf_9075b N a0 a1 h) :=
  DCM.ofDOk km_J7_copyOf_9075b (by simp [Value.category]) (Nat.le_of_ble_eq_true rfl) (dg_J7_copyOf_9075b N d a0 a1 h)

def g_J5_ensureCapacityInternal_d00df (N : Nat) (this : Nat) (a1 : Int32) (h : DS) : DA :=
bo (nn (dR h this 13 0)) fun r_1 =>
bo (bN h r_1) fun c_4 =>
bo (dI h this 13 1) fun a_6 =>
if (a1 - ((Int32.ofNat c_4) >>> (a_6 &&& 31))) ≤ 0 then (some (0, h))
else (bo (nn (dR h this 13 0)) fun r_19 =>
chk (isT h 13 this) <| bd3 (g_J5_newCapacity_0f7a4 N this a1 h) fun v_24 h_24 =>
bo (dI h_24 this 13 1) fun a_28 =>
bd3 (g_J7_copyOf_9075b N r_19 (v_24 <<< (a_28 &&& 31)) h_24) fun v_32 h_32 =>
chk (decide (v_32 ≠ -1)) <| bnd v_32.toNatClampNeg fun r_32 =>
bo (wR h_32 this 13 0 (some r_32)) fun h_35 =>
some (0, h_35))

set_option maxRecDepth 100000 in
set_option maxHeartbeats 4000000 in
theorem dg_J5_ensureCapacityInternal_d00df (N d : Nat) (this : Nat) (a1 : Int32) (h : DS) : DOk SX (d + 3) m_J5_ensureCapacityInternal_d00df 0 [some (.ref this), some (.int a1), none] [] h (g_J5_ensureCapacityInternal_d00df N this a1 h) := by
  unfold g_J5_ensureCapacityInternal_d00df
  refine dk_aload_n 1 0 dJ5_ensureCapacityInternal_d00df_0 rfl rfl rfl ?_
  refine dk_getR 4 dJ5_ensureCapacityInternal_d00df_1 rfl rfl F_java_lang_AbstractStringBuilder_15 (fun r_1 _ => ?_)
  refine dk_blen 5 dJ5_ensureCapacityInternal_d00df_4 rfl (fun c_4 _ => ?_)
  refine dk_aload_n 6 0 dJ5_ensureCapacityInternal_d00df_5 rfl rfl rfl ?_
  refine dk_getI 9 dJ5_ensureCapacityInternal_d00df_6 rfl rfl F_java_lang_AbstractStringBuilder_22 (fun a_6 _ => ?_)
  refine dk_ishr 10 dJ5_ensureCapacityInternal_d00df_9 rfl ?_
  refine dk_istore_n 11 2 [some (.ref this), some (.int a1), some (.int ((Int32.ofNat c_4) >>> (a_6 &&& 31)))] dJ5_ensureCapacityInternal_d00df_10 rfl rfl (by decide) rfl ?_
  refine dk_iload_n 12 1 dJ5_ensureCapacityInternal_d00df_11 rfl rfl rfl ?_
  refine dk_iload_n 13 2 dJ5_ensureCapacityInternal_d00df_12 rfl rfl rfl ?_
  refine dk_isub 14 dJ5_ensureCapacityInternal_d00df_13 rfl ?_
  refine dk_if_le 38 17 dJ5_ensureCapacityInternal_d00df_14 (by decide) rfl (fun _ => ?_) (fun _ => ?_)
  · exact dk_vret dJ5_ensureCapacityInternal_d00df_38 rfl
  · refine dk_aload_n 18 0 dJ5_ensureCapacityInternal_d00df_17 rfl rfl rfl ?_
    refine dk_aload_n 19 0 dJ5_ensureCapacityInternal_d00df_18 rfl rfl rfl ?_
    refine dk_getR 22 dJ5_ensureCapacityInternal_d00df_19 rfl rfl F_java_lang_AbstractStringBuilder_15 (fun r_19 _ => ?_)
    refine dk_aload_n 23 0 dJ5_ensureCapacityInternal_d00df_22 rfl rfl rfl ?_
    refine dk_iload_n 24 1 dJ5_ensureCapacityInternal_d00df_23 rfl rfl rfl ?_
    refine dk_callU (M0 := x) (np := 1) (M' := m_J5_newCapacity_0f7a4) (As := [.int a1]) (st := [.ref r_19, .ref this]) 27 dJ5_ensureCapacityInternal_d00df_24 rfl rfl km_J5_newCapacity_0f7a4 ki_J5_newCapacity_0f7a4 kw_J5_newCapacity_0f7a4 sm_java_lang_AbstractStringBuilder_newCapacity__I_I ml_java_lang_AbstractStringBuilder_104 (by decide) rfl rfl (Nat.le_of_ble_eq_true rfl) (dc_J5_newCapacity_0f7a4 N (d + 0) this a1 h) (fun v_24 h_24 e_24 => ?_)
    show DOk _ _ _ _ _ (.int v_24 :: [.ref r_19, .ref this]) _ _
    refine dk_aload_n 28 0 dJ5_ensureCapacityInternal_d00df_27 rfl rfl rfl ?_
    refine dk_getI 31 dJ5_ensureCapacityInternal_d00df_28 rfl rfl F_java_lang_AbstractStringBuilder_22 (fun a_28 _ => ?_)
    refine dk_ishl 32 dJ5_ensureCapacityInternal_d00df_31 rfl ?_
    refine dk_callS (np := 2) (M' := m_J7_copyOf_9075b) (As := [.ref r_19, .int (v_24 <<< (a_28 &&& 31))]) (st := [.ref this]) 35 dJ5_ensureCapacityInternal_d00df_32 rfl rfl km_J7_copyOf_9075b ks_J7_copyOf_9075b ml_java_lang_AbstractStringBuilder_108 (by decide) rfl rfl (Nat.le_of_ble_eq_true rfl) (dc_J7_copyOf_9075b N (d + 1) r_19 (v_24 <<< (a_28 &&& 31)) h_24) (fun v_32 h_32 e_32 => ?_)
    show DOk _ _ _ _ _ ((if v_32 = -1 then Value.null else .ref v_32.toNatClampNeg) :: [.ref this]) _ _
    refine dk_rr (fun r_32 => ?_)
    refine dk_putR (o := (some r_32)) 38 dJ5_ensureCapacityInternal_d00df_35 rfl rfl F_java_lang_AbstractStringBuilder_15 rfl pZ_13_0 (fun q => nr_a q) (fun q => ft_a q) (fun h_35 _ => ?_)
    exact dk_vret dJ5_ensureCapacityInternal_d00df_38 rfl

theorem dc_J5_ensureCapacityInternal_d00df (N d : Nat) (this : Nat) (a1 : Int32) (h : DS) : DCM SX (d + 3) m_J5_ensureCapacityInternal_d00df [.ref this, .int a1] h (g_J5_ensureCapacityInternal_d00df N this a1 h) :=
  DCM.ofDOk km_J5_ensureCapacityInternal_d00df (by simp [Value.category]) (Nat.le_of_ble_eq_true rfl) (dg_J5_ensureCapacityInternal_d00df N d this a1 h)

def g_J0_coder_7d493 (N : Nat) (this : Nat) (h : DS) : DA :=
if (1 : Int32) = 0 then (chk (isY (1 : Int32)) (some ((1 : Int32), h)))
else (bo (bC h this) fun a_7 =>
chk (isY a_7) (some (a_7, h)))

set_option maxRecDepth 100000 in
set_option maxHeartbeats 4000000 in
theorem dg_J0_coder_7d493 (N d : Nat) (this : Nat) (h : DS) : DOk SX (d + 0) m_J0_coder_7d493 0 [some (.ref this)] [] h (g_J0_coder_7d493 N this h) := by
  unfold g_J0_coder_7d493
  refine dk_getsC 3 dJ0_coder_7d493_0 rfl rfl fl_java_lang_String_38 ?_
  refine dk_if_eq 13 6 dJ0_coder_7d493_3 (by decide) rfl (fun _ => ?_) (fun _ => ?_)
  · refine dk_iconst 14 1 dJ0_coder_7d493_13 rfl rfl ?_
    exact dk_yret dJ0_coder_7d493_14 rfl
  · refine dk_aload_n 7 0 dJ0_coder_7d493_6 rfl rfl rfl ?_
    refine dk_getSC 10 dJ0_coder_7d493_7 rfl rfl F_java_lang_String_15 (fun a_7 _ => ?_)
    refine dk_goto 14 dJ0_coder_7d493_10 (by decide) ?_
    exact dk_yret dJ0_coder_7d493_14 rfl

theorem dc_J0_coder_7d493 (N d : Nat) (this : Nat) (h : DS) : DCM SX (d + 0) m_J0_coder_7d493 [.ref this] h (g_J0_coder_7d493 N this h) :=
  DCM.ofDOk km_J0_coder_7d493 (by simp [Value.category]) (Nat.le_of_ble_eq_true rfl) (dg_J0_coder_7d493 N d this h)

def g_J0_length_8abf5 (N : Nat) (this : Nat) (h : DS) : DA :=
bo (bV h this) fun r_1 =>
bo (bN h r_1) fun c_4 =>
chk (strB h this) <| bd3 (g_J0_coder_7d493 N this h) fun v_6 h_6 =>
some (((Int32.ofNat c_4) >>> (v_6 &&& 31)), h_6)

set_option maxRecDepth 100000 in
set_option maxHeartbeats 4000000 in
theorem dg_J0_length_8abf5 (N d : Nat) (this : Nat) (h : DS) : DOk SX (d + 1) m_J0_length_8abf5 0 [some (.ref this)] [] h (g_J0_length_8abf5 N this h) := by
  unfold g_J0_length_8abf5
  refine dk_aload_n 1 0 dJ0_length_8abf5_0 rfl rfl rfl ?_
  refine dk_getSV 4 dJ0_length_8abf5_1 rfl rfl F_java_lang_String_9 (fun r_1 _ => ?_)
  refine dk_blen 5 dJ0_length_8abf5_4 rfl (fun c_4 _ => ?_)
  refine dk_aload_n 6 0 dJ0_length_8abf5_5 rfl rfl rfl ?_
  refine dk_callStr (np := 0) (M' := m_J0_coder_7d493) (As := []) (st := [.int (Int32.ofNat c_4)]) 9 dJ0_length_8abf5_6 rfl rfl km_J0_coder_7d493 ki_J0_coder_7d493 kv_J0_coder_7d493 ml_java_lang_String_335 (by decide) rfl rfl rfl (Nat.le_of_ble_eq_true rfl) (dc_J0_coder_7d493 N (d + 0) this h) (fun v_6 h_6 e_6 => ?_)
  show DOk _ _ _ _ _ (.int v_6 :: [.int (Int32.ofNat c_4)]) _ _
  refine dk_ishr 10 dJ0_length_8abf5_9 rfl ?_
  exact dk_iret dJ0_length_8abf5_10 rfl

theorem dc_J0_length_8abf5 (N d : Nat) (this : Nat) (h : DS) : DCM SX (d + 1) m_J0_length_8abf5 [.ref this] h (g_J0_length_8abf5 N this h) :=
  DCM.ofDOk km_J0_length_8abf5 (by simp [Value.category]) (Nat.le_of_ble_eq_true rfl) (dg_J0_length_8abf5 N d this h)

def g_J5_inflateIfNeededFor_a7421 (N : Nat) (this : Nat) (a1 : Nat) (h : DS) : DA :=
if (1 : Int32) = 0 then (some (0, h))
else (bo (dI h this 13 1) fun a_7 =>
chk (strB h a1) <| bd3 (g_J0_coder_7d493 N a1 h) fun v_11 h_11 =>
if a_7 = v_11 then (some (0, h_11))
else (none))

set_option maxRecDepth 100000 in
set_option maxHeartbeats 4000000 in
theorem dg_J5_inflateIfNeededFor_a7421 (N d : Nat) (this : Nat) (a1 : Nat) (h : DS) : DOk SX (d + 1) m_J5_inflateIfNeededFor_a7421 0 [some (.ref this), some (.ref a1)] [] h (g_J5_inflateIfNeededFor_a7421 N this a1 h) := by
  unfold g_J5_inflateIfNeededFor_a7421
  refine dk_getsC 3 dJ5_inflateIfNeededFor_a7421_0 rfl rfl fl_java_lang_AbstractStringBuilder_18 ?_
  refine dk_if_eq 21 6 dJ5_inflateIfNeededFor_a7421_3 (by decide) rfl (fun _ => ?_) (fun _ => ?_)
  · exact dk_vret dJ5_inflateIfNeededFor_a7421_21 rfl
  · refine dk_aload_n 7 0 dJ5_inflateIfNeededFor_a7421_6 rfl rfl rfl ?_
    refine dk_getI 10 dJ5_inflateIfNeededFor_a7421_7 rfl rfl F_java_lang_AbstractStringBuilder_22 (fun a_7 _ => ?_)
    refine dk_aload_n 11 1 dJ5_inflateIfNeededFor_a7421_10 rfl rfl rfl ?_
    refine dk_callStr (np := 0) (M' := m_J0_coder_7d493) (As := []) (st := [.int a_7]) 14 dJ5_inflateIfNeededFor_a7421_11 rfl rfl km_J0_coder_7d493 ki_J0_coder_7d493 kv_J0_coder_7d493 ml_java_lang_AbstractStringBuilder_40 (by decide) rfl rfl rfl (Nat.le_of_ble_eq_true rfl) (dc_J0_coder_7d493 N (d + 0) a1 h) (fun v_11 h_11 e_11 => ?_)
    show DOk _ _ _ _ _ (.int v_11 :: [.int a_7]) _ _
    refine dk_icmp_eq 21 17 dJ5_inflateIfNeededFor_a7421_14 (by decide) rfl (fun _ => ?_) (fun _ => ?_)
    · exact dk_vret dJ5_inflateIfNeededFor_a7421_21 rfl
    · refine dk_aload_n 18 0 dJ5_inflateIfNeededFor_a7421_17 rfl rfl rfl ?_
      exact DOk.nil

theorem dc_J5_inflateIfNeededFor_a7421 (N d : Nat) (this : Nat) (a1 : Nat) (h : DS) : DCM SX (d + 1) m_J5_inflateIfNeededFor_a7421 [.ref this, .ref a1] h (g_J5_inflateIfNeededFor_a7421 N this a1 h) :=
  DCM.ofDOk km_J5_inflateIfNeededFor_a7421 (by simp [Value.category]) (Nat.le_of_ble_eq_true rfl) (dg_J5_inflateIfNeededFor_a7421 N d this a1 h)

def g_J0_getBytes_840e7 (N : Nat) (this : Nat) (a1 : Nat) (a2 : Int32) (a3 : Int32) (h : DS) : DA :=
chk (strB h this) <| bd3 (g_J0_coder_7d493 N this h) fun v_1 h_1 =>
if v_1 = a3 then (bo (bV h_1 this) fun r_9 =>
bo (bV h_1 this) fun r_18 =>
bo (bN h_1 r_18) fun c_21 =>
bo (bP h_1 r_9 (0 : Int32) a1 (a2 <<< (a3 &&& 31)) (Int32.ofNat c_21)) fun h_22 =>
some (0, h_22))
else (bo (bV h_1 this) fun r_29 =>
bo (bV h_1 this) fun r_36 =>
bo (bN h_1 r_36) fun c_39 =>
none)

set_option maxRecDepth 100000 in
set_option maxHeartbeats 4000000 in
theorem dg_J0_getBytes_840e7 (N d : Nat) (this : Nat) (a1 : Nat) (a2 : Int32) (a3 : Int32) (h : DS) : DOk SX (d + 1) m_J0_getBytes_840e7 0 [some (.ref this), some (.ref a1), some (.int a2), some (.int a3)] [] h (g_J0_getBytes_840e7 N this a1 a2 a3 h) := by
  unfold g_J0_getBytes_840e7
  refine dk_aload_n 1 0 dJ0_getBytes_840e7_0 rfl rfl rfl ?_
  refine dk_callStr (np := 0) (M' := m_J0_coder_7d493) (As := []) (st := []) 4 dJ0_getBytes_840e7_1 rfl rfl km_J0_coder_7d493 ki_J0_coder_7d493 kv_J0_coder_7d493 ml_java_lang_String_335 (by decide) rfl rfl rfl (Nat.le_of_ble_eq_true rfl) (dc_J0_coder_7d493 N (d + 0) this h) (fun v_1 h_1 e_1 => ?_)
  show DOk _ _ _ _ _ (.int v_1 :: []) _ _
  refine dk_iload_n 5 3 dJ0_getBytes_840e7_4 rfl rfl rfl ?_
  refine dk_icmp_ne 28 8 dJ0_getBytes_840e7_5 (by decide) rfl (fun _ => ?_) (fun _ => ?_)
  · refine dk_aload_n 29 0 dJ0_getBytes_840e7_28 rfl rfl rfl ?_
    refine dk_getSV 32 dJ0_getBytes_840e7_29 rfl rfl F_java_lang_String_9 (fun r_29 _ => ?_)
    refine dk_iconst 33 0 dJ0_getBytes_840e7_32 rfl rfl ?_
    refine dk_aload_n 34 1 dJ0_getBytes_840e7_33 rfl rfl rfl ?_
    refine dk_iload_n 35 2 dJ0_getBytes_840e7_34 rfl rfl rfl ?_
    refine dk_aload_n 36 0 dJ0_getBytes_840e7_35 rfl rfl rfl ?_
    refine dk_getSV 39 dJ0_getBytes_840e7_36 rfl rfl F_java_lang_String_9 (fun r_36 _ => ?_)
    refine dk_blen 40 dJ0_getBytes_840e7_39 rfl (fun c_39 _ => ?_)
    exact DOk.nil
  · refine dk_aload_n 9 0 dJ0_getBytes_840e7_8 rfl rfl rfl ?_
    refine dk_getSV 12 dJ0_getBytes_840e7_9 rfl rfl F_java_lang_String_9 (fun r_9 _ => ?_)
    refine dk_iconst 13 0 dJ0_getBytes_840e7_12 rfl rfl ?_
    refine dk_aload_n 14 1 dJ0_getBytes_840e7_13 rfl rfl rfl ?_
    refine dk_iload_n 15 2 dJ0_getBytes_840e7_14 rfl rfl rfl ?_
    refine dk_iload_n 16 3 dJ0_getBytes_840e7_15 rfl rfl rfl ?_
    refine dk_ishl 17 dJ0_getBytes_840e7_16 rfl ?_
    refine dk_aload_n 18 0 dJ0_getBytes_840e7_17 rfl rfl rfl ?_
    refine dk_getSV 21 dJ0_getBytes_840e7_18 rfl rfl F_java_lang_String_9 (fun r_18 _ => ?_)
    refine dk_blen 22 dJ0_getBytes_840e7_21 rfl (fun c_21 _ => ?_)
    refine dk_bcopy 25 dJ0_getBytes_840e7_22 rfl rfl ml_java_lang_String_212 (Nat.le_of_ble_eq_true rfl) (fun h_22 _ => ?_)
    refine dk_goto 43 dJ0_getBytes_840e7_25 (by decide) ?_
    exact dk_vret dJ0_getBytes_840e7_43 rfl

theorem dc_J0_getBytes_840e7 (N d : Nat) (this : Nat) (a1 : Nat) (a2 : Int32) (a3 : Int32) (h : DS) : DCM SX (d + 1) m_J0_getBytes_840e7 [.ref this, .ref a1, .int a2, .int a3] h (g_J0_getBytes_840e7 N this a1 a2 a3 h) :=
  DCM.ofDOk km_J0_getBytes_840e7 (by simp [Value.category]) (Nat.le_of_ble_eq_true rfl) (dg_J0_getBytes_840e7 N d this a1 a2 a3 h)

def g_J5_putStringAt_47b60 (N : Nat) (this : Nat) (a1 : Int32) (a2 : Nat) (h : DS) : DA :=
chk (isT h 13 this) <| bd3 (g_J5_inflateIfNeededFor_a7421 N this a2 h) fun v_2 h_2 =>
bo (nn (dR h_2 this 13 0)) fun r_7 =>
bo (dI h_2 this 13 1) fun a_12 =>
chk (strB h_2 a2) <| bd3 (g_J0_getBytes_840e7 N a2 r_7 a1 a_12 h_2) fun v_15 h_15 =>
some (0, h_15)

set_option maxRecDepth 100000 in
set_option maxHeartbeats 4000000 in
theorem dg_J5_putStringAt_47b60 (N d : Nat) (this : Nat) (a1 : Int32) (a2 : Nat) (h : DS) : DOk SX (d + 2) m_J5_putStringAt_47b60 0 [some (.ref this), some (.int a1), some (.ref a2)] [] h (g_J5_putStringAt_47b60 N this a1 a2 h) := by
  unfold g_J5_putStringAt_47b60
  refine dk_aload_n 1 0 dJ5_putStringAt_47b60_0 rfl rfl rfl ?_
  refine dk_aload_n 2 2 dJ5_putStringAt_47b60_1 rfl rfl rfl ?_
  refine dk_callU (M0 := x) (np := 1) (M' := m_J5_inflateIfNeededFor_a7421) (As := [.ref a2]) (st := []) 5 dJ5_putStringAt_47b60_2 rfl rfl km_J5_inflateIfNeededFor_a7421 ki_J5_inflateIfNeededFor_a7421 kw_J5_inflateIfNeededFor_a7421 sm_java_lang_AbstractStringBuilder_inflateIfNeededFor__Ljava_lang_String__V ml_java_lang_AbstractStringBuilder_397 (by decide) rfl rfl (Nat.le_of_ble_eq_true rfl) (dc_J5_inflateIfNeededFor_a7421 N (d + 0) this a2 h) (fun v_2 h_2 e_2 => ?_)
  show DOk _ _ _ _ _ [] _ _
  refine dk_aload_n 6 2 dJ5_putStringAt_47b60_5 rfl rfl rfl ?_
  refine dk_aload_n 7 0 dJ5_putStringAt_47b60_6 rfl rfl rfl ?_
  refine dk_getR 10 dJ5_putStringAt_47b60_7 rfl rfl F_java_lang_AbstractStringBuilder_15 (fun r_7 _ => ?_)
  refine dk_iload_n 11 1 dJ5_putStringAt_47b60_10 rfl rfl rfl ?_
  refine dk_aload_n 12 0 dJ5_putStringAt_47b60_11 rfl rfl rfl ?_
  refine dk_getI 15 dJ5_putStringAt_47b60_12 rfl rfl F_java_lang_AbstractStringBuilder_22 (fun a_12 _ => ?_)
  refine dk_callStr (np := 3) (M' := m_J0_getBytes_840e7) (As := [.ref r_7, .int a1, .int a_12]) (st := []) 18 dJ5_putStringAt_47b60_15 rfl rfl km_J0_getBytes_840e7 ki_J0_getBytes_840e7 kv_J0_getBytes_840e7 ml_java_lang_AbstractStringBuilder_399 (by decide) rfl rfl rfl (Nat.le_of_ble_eq_true rfl) (dc_J0_getBytes_840e7 N (d + 0) a2 r_7 a1 a_12 h_2) (fun v_15 h_15 e_15 => ?_)
  show DOk _ _ _ _ _ [] _ _
  exact dk_vret dJ5_putStringAt_47b60_18 rfl

theorem dc_J5_putStringAt_47b60 (N d : Nat) (this : Nat) (a1 : Int32) (a2 : Nat) (h : DS) : DCM SX (d + 2) m_J5_putStringAt_47b60 [.ref this, .int a1, .ref a2] h (g_J5_putStringAt_47b60 N this a1 a2 h) :=
  DCM.ofDOk km_J5_putStringAt_47b60 (by simp [Value.category]) (Nat.le_of_ble_eq_true rfl) (dg_J5_putStringAt_47b60 N d this a1 a2 h)

def g_J5_append_cf1ce (N : Nat) (this : Nat) (a1 : Nat) (h : DS) : DA :=
chk (strB h a1) <| bd3 (g_J0_length_8abf5 N a1 h) fun v_10 h_10 =>
bo (dI h_10 this 13 3) fun a_16 =>
chk (isT h_10 13 this) <| bd3 (g_J5_ensureCapacityInternal_d00df N this (a_16 + v_10) h_10) fun v_21 h_21 =>
bo (dI h_21 this 13 3) fun a_26 =>
chk (isT h_21 13 this) <| bd3 (g_J5_putStringAt_47b60 N this a_26 a1 h_21) fun v_30 h_30 =>
bo (dI h_30 this 13 3) fun a_35 =>
bo (wI h_30 this 13 3 (a_35 + v_10)) fun h_40 =>
chk (decide (this < 2 ^ 31)) (some (nI this, h_40))

set_option maxRecDepth 100000 in
set_option maxHeartbeats 4000000 in
theorem dg_J5_append_cf1ce (N d : Nat) (this : Nat) (a1 : Nat) (h : DS) : DOk SX (d + 4) m_J5_append_cf1ce 0 [some (.ref this), some (.ref a1), none] [] h (g_J5_append_cf1ce N this a1 h) := by
  unfold g_J5_append_cf1ce
  refine dk_aload_n 1 1 dJ5_append_cf1ce_0 rfl rfl rfl ?_
  refine dk_ifnonnullR 9 dJ5_append_cf1ce_1 (by decide) ?_
  refine dk_aload_n 10 1 dJ5_append_cf1ce_9 rfl rfl rfl ?_
  refine dk_callStr (np := 0) (M' := m_J0_length_8abf5) (As := []) (st := []) 13 dJ5_append_cf1ce_10 rfl rfl km_J0_length_8abf5 ki_J0_length_8abf5 kv_J0_length_8abf5 ml_java_lang_AbstractStringBuilder_32 (by decide) rfl rfl rfl (Nat.le_of_ble_eq_true rfl) (dc_J0_length_8abf5 N (d + 2) a1 h) (fun v_10 h_10 e_10 => ?_)
  show DOk _ _ _ _ _ (.int v_10 :: []) _ _
  refine dk_istore_n 14 2 [some (.ref this), some (.ref a1), some (.int v_10)] dJ5_append_cf1ce_13 rfl rfl (by decide) rfl ?_
  refine dk_aload_n 15 0 dJ5_append_cf1ce_14 rfl rfl rfl ?_
  refine dk_aload_n 16 0 dJ5_append_cf1ce_15 rfl rfl rfl ?_
  refine dk_getI 19 dJ5_append_cf1ce_16 rfl rfl F_java_lang_AbstractStringBuilder_79 (fun a_16 _ => ?_)
  refine dk_iload_n 20 2 dJ5_append_cf1ce_19 rfl rfl rfl ?_
  refine dk_iadd 21 dJ5_append_cf1ce_20 rfl ?_
  refine dk_callU (M0 := x) (np := 1) (M' := m_J5_ensureCapacityInternal_d00df) (As := [.int (a_16 + v_10)]) (st := []) 24 dJ5_append_cf1ce_21 rfl rfl km_J5_ensureCapacityInternal_d00df ki_J5_ensureCapacityInternal_d00df kw_J5_ensureCapacityInternal_d00df sm_java_lang_AbstractStringBuilder_ensureCapacityInternal__I_V ml_java_lang_AbstractStringBuilder_100 (by decide) rfl rfl (Nat.le_of_ble_eq_true rfl) (dc_J5_ensureCapacityInternal_d00df N (d + 0) this (a_16 + v_10) h_10) (fun v_21 h_21 e_21 => ?_)
  show DOk _ _ _ _ _ [] _ _
  refine dk_aload_n 25 0 dJ5_append_cf1ce_24 rfl rfl rfl ?_
  refine dk_aload_n 26 0 dJ5_append_cf1ce_25 rfl rfl rfl ?_
  refine dk_getI 29 dJ5_append_cf1ce_26 rfl rfl F_java_lang_AbstractStringBuilder_79 (fun a_26 _ => ?_)
  refine dk_aload_n 30 1 dJ5_append_cf1ce_29 rfl rfl rfl ?_
  refine dk_callU (M0 := x) (np := 2) (M' := m_J5_putStringAt_47b60) (As := [.int a_26, .ref a1]) (st := []) 33 dJ5_append_cf1ce_30 rfl rfl km_J5_putStringAt_47b60 ki_J5_putStringAt_47b60 kw_J5_putStringAt_47b60 sm_java_lang_AbstractStringBuilder_putStringAt__ILjava_lang_String__V ml_java_lang_AbstractStringBuilder_208 (by decide) rfl rfl (Nat.le_of_ble_eq_true rfl) (dc_J5_putStringAt_47b60 N (d + 1) this a_26 a1 h_21) (fun v_30 h_30 e_30 => ?_)
  show DOk _ _ _ _ _ [] _ _
  refine dk_aload_n 34 0 dJ5_append_cf1ce_33 rfl rfl rfl ?_
  refine dk_dup 35 dJ5_append_cf1ce_34 rfl rfl ?_
  refine dk_getI 38 dJ5_append_cf1ce_35 rfl rfl F_java_lang_AbstractStringBuilder_79 (fun a_35 _ => ?_)
  refine dk_iload_n 39 2 dJ5_append_cf1ce_38 rfl rfl rfl ?_
  refine dk_iadd 40 dJ5_append_cf1ce_39 rfl ?_
  refine dk_putI 43 dJ5_append_cf1ce_40 rfl rfl F_java_lang_AbstractStringBuilder_79 rfl pZ_13_3 rfl rfl (fun h_40 _ => ?_)
  refine dk_aload_n 44 0 dJ5_append_cf1ce_43 rfl rfl rfl ?_
  exact dk_aret dJ5_append_cf1ce_44 rfl (Or.inl ⟨_, rfl⟩)

theorem dc_J5_append_cf1ce (N d : Nat) (this : Nat) (a1 : Nat) (h : DS) : DCM SX (d + 4) m_J5_append_cf1ce [.ref this, .ref a1] h (g_J5_append_cf1ce N this a1 h) :=
  DCM.ofDOk km_J5_append_cf1ce (by simp [Value.category]) (Nat.le_of_ble_eq_true rfl) (dg_J5_append_cf1ce N d this a1 h)

def g_J6_stringSize_0f7a4_L16 (N : Nat) (a0 : Int32) (p0_16 : Int32) (p1_16 : Int32)  (X : (Int32 × Int32) → DS → DA) (s2_16 : Int32) (s3_16 : Int32) (h : DS) : DA :=
if (10 : Int32) ≤ s3_16 then (some (((10 : Int32) + p1_16), h))
else (if p0_16 ≤ s2_16 then (X (((10 : Int32) * s2_16), (s3_16 + 1)) h)
else (some ((s3_16 + p1_16), h)))

def g_J6_stringSize_0f7a4_J11 (N : Nat) (a0 : Int32)   (s0_11 : Int32) (s1_11 : Int32) (h : DS) : DA :=
jt (fun Y a hz => g_J6_stringSize_0f7a4_L16 N a0 s0_11 s1_11  Y a.1 a.2 hz) N ((-10), 1) h

def g_J6_stringSize_0f7a4 (N : Nat) (a0 : Int32) (h : DS) : DA :=
if a0 < 0 then (g_J6_stringSize_0f7a4_J11 N a0 a0 1 h)
else (g_J6_stringSize_0f7a4_J11 N a0 (0 - a0) 0 h)

set_option maxRecDepth 100000 in
set_option maxHeartbeats 4000000 in
theorem db_J6_stringSize_0f7a4_L16 (N d : Nat) (a0 : Int32) (p0_16 : Int32) (p1_16 : Int32)  (X : (Int32 × Int32) → DS → DA) (hX : ∀ (a : (Int32 × Int32)) (h : DS), DOk SX (d + 0) m_J6_stringSize_0f7a4 16 [some (.int p0_16), some (.int p1_16), some (.int a.1), some (.int a.2)] [] h (X a h)) (s2_16 : Int32) (s3_16 : Int32) (h : DS) : DOk SX (d + 0) m_J6_stringSize_0f7a4 16 [some (.int p0_16), some (.int p1_16), some (.int s2_16), some (.int s3_16)] [] h (g_J6_stringSize_0f7a4_L16 N a0 p0_16 p1_16 X s2_16 s3_16 h) := by
  unfold g_J6_stringSize_0f7a4_L16
  refine dk_iload_n 17 3 dJ6_stringSize_0f7a4_16 rfl rfl rfl ?_
  refine dk_bipush 19 10 dJ6_stringSize_0f7a4_17 rfl rfl ?_
  refine dk_icmp_ge 42 22 dJ6_stringSize_0f7a4_19 (by decide) rfl (fun _ => ?_) (fun _ => ?_)
  · refine dk_bipush 44 10 dJ6_stringSize_0f7a4_42 rfl rfl ?_
    refine dk_iload_n 45 1 dJ6_stringSize_0f7a4_44 rfl rfl rfl ?_
    refine dk_iadd 46 dJ6_stringSize_0f7a4_45 rfl ?_
    exact dk_iret dJ6_stringSize_0f7a4_46 rfl
  · refine dk_iload_n 23 0 dJ6_stringSize_0f7a4_22 rfl rfl rfl ?_
    refine dk_iload_n 24 2 dJ6_stringSize_0f7a4_23 rfl rfl rfl ?_
    refine dk_icmp_le 31 27 dJ6_stringSize_0f7a4_24 (by decide) rfl (fun _ => ?_) (fun _ => ?_)
    · refine dk_bipush 33 10 dJ6_stringSize_0f7a4_31 rfl rfl ?_
      refine dk_iload_n 34 2 dJ6_stringSize_0f7a4_33 rfl rfl rfl ?_
      refine dk_imul 35 dJ6_stringSize_0f7a4_34 rfl ?_
      refine dk_istore_n 36 2 [some (.int p0_16), some (.int p1_16), some (.int ((10 : Int32) * s2_16)), some (.int s3_16)] dJ6_stringSize_0f7a4_35 rfl rfl (by decide) rfl ?_
      refine dk_iinc 39 3 1 [some (.int p0_16), some (.int p1_16), some (.int ((10 : Int32) * s2_16)), some (.int (s3_16 + 1))] dJ6_stringSize_0f7a4_36 rfl rfl rfl (by decide) rfl ?_
      refine dk_goto 16 dJ6_stringSize_0f7a4_39 (by decide) ?_
      exact dk_less [some (.int p0_16), some (.int p1_16), some (.int ((10 : Int32) * s2_16)), some (.int (s3_16 + 1))] (And.intro rfl (And.intro rfl (And.intro rfl (And.intro rfl (trivial))))) (hX (((10 : Int32) * s2_16), (s3_16 + 1)) h)
    · refine dk_iload_n 28 3 dJ6_stringSize_0f7a4_27 rfl rfl rfl ?_
      refine dk_iload_n 29 1 dJ6_stringSize_0f7a4_28 rfl rfl rfl ?_
      refine dk_iadd 30 dJ6_stringSize_0f7a4_29 rfl ?_
      exact dk_iret dJ6_stringSize_0f7a4_30 rfl

set_option maxRecDepth 100000 in
set_option maxHeartbeats 4000000 in
theorem dl_J6_stringSize_0f7a4_L16 (N d : Nat) (a0 : Int32) (p0_16 : Int32) (p1_16 : Int32)  : ∀ (n : Nat) (a : (Int32 × Int32)) (h : DS), DOk SX (d + 0) m_J6_stringSize_0f7a4 16 [some (.int p0_16), some (.int p1_16), some (.int a.1), some (.int a.2)] [] h (jt (fun Y a hz => g_J6_stringSize_0f7a4_L16 N a0 p0_16 p1_16 Y a.1 a.2 hz) n a h) :=
  dk_jt (fun a => [some (.int p0_16), some (.int p1_16), some (.int a.1), some (.int a.2)]) (fun X hX a h => db_J6_stringSize_0f7a4_L16 (SX := SX) N d a0 p0_16 p1_16   X hX a.1 a.2 h)

set_option maxRecDepth 100000 in
set_option maxHeartbeats 4000000 in
theorem dj_J6_stringSize_0f7a4_J11 (N d : Nat) (a0 : Int32)   (s0_11 : Int32) (s1_11 : Int32) (h : DS) : DOk SX (d + 0) m_J6_stringSize_0f7a4 11 [some (.int s0_11), some (.int s1_11), none, none] [] h (g_J6_stringSize_0f7a4_J11 N a0 s0_11 s1_11 h) := by
  unfold g_J6_stringSize_0f7a4_J11
  refine dk_bipush 13 (-10) dJ6_stringSize_0f7a4_11 rfl rfl ?_
  refine dk_istore_n 14 2 [some (.int s0_11), some (.int s1_11), some (.int (-10)), none] dJ6_stringSize_0f7a4_13 rfl rfl (by decide) rfl ?_
  refine dk_iconst 15 1 dJ6_stringSize_0f7a4_14 rfl rfl ?_
  refine dk_istore_n 16 3 [some (.int s0_11), some (.int s1_11), some (.int (-10)), some (.int 1)] dJ6_stringSize_0f7a4_15 rfl rfl (by decide) rfl ?_
  refine dk_less [some (.int s0_11), some (.int s1_11), some (.int (-10)), some (.int 1)] (And.intro rfl (And.intro rfl (And.intro rfl (And.intro rfl (trivial))))) ?_
  exact dl_J6_stringSize_0f7a4_L16 (SX := SX) N d a0 s0_11 s1_11   N ((-10), 1) h

set_option maxRecDepth 100000 in
set_option maxHeartbeats 4000000 in
theorem dg_J6_stringSize_0f7a4 (N d : Nat) (a0 : Int32) (h : DS) : DOk SX (d + 0) m_J6_stringSize_0f7a4 0 [some (.int a0), none, none, none] [] h (g_J6_stringSize_0f7a4 N a0 h) := by
  unfold g_J6_stringSize_0f7a4
  refine dk_iconst 1 1 dJ6_stringSize_0f7a4_0 rfl rfl ?_
  refine dk_istore_n 2 1 [some (.int a0), some (.int 1), none, none] dJ6_stringSize_0f7a4_1 rfl rfl (by decide) rfl ?_
  refine dk_iload_n 3 0 dJ6_stringSize_0f7a4_2 rfl rfl rfl ?_
  refine dk_if_lt 11 6 dJ6_stringSize_0f7a4_3 (by decide) rfl (fun _ => ?_) (fun _ => ?_)
  · exact dk_less [some (.int a0), some (.int 1), none, none] (And.intro rfl (And.intro rfl (trivial))) (dj_J6_stringSize_0f7a4_J11 (SX := SX) N d a0 a0 1 h)
  · refine dk_iconst 7 0 dJ6_stringSize_0f7a4_6 rfl rfl ?_
    refine dk_istore_n 8 1 [some (.int a0), some (.int 0), none, none] dJ6_stringSize_0f7a4_7 rfl rfl (by decide) rfl ?_
    refine dk_iload_n 9 0 dJ6_stringSize_0f7a4_8 rfl rfl rfl ?_
    refine dk_ineg 10 dJ6_stringSize_0f7a4_9 rfl ?_
    refine dk_istore_n 11 0 [some (.int (0 - a0)), some (.int 0), none, none] dJ6_stringSize_0f7a4_10 rfl rfl (by decide) rfl ?_
    exact dk_less [some (.int (0 - a0)), some (.int 0), none, none] (And.intro rfl (And.intro rfl (trivial))) (dj_J6_stringSize_0f7a4_J11 (SX := SX) N d a0 (0 - a0) 0 h)

theorem dc_J6_stringSize_0f7a4 (N d : Nat) (a0 : Int32) (h : DS) : DCM SX (d + 0) m_J6_stringSize_0f7a4 [.int a0] h (g_J6_stringSize_0f7a4 N a0 h) :=
  DCM.ofDOk km_J6_stringSize_0f7a4 (by simp [Value.category]) (Nat.le_of_ble_eq_true rfl) (dg_J6_stringSize_0f7a4 N d a0 h)

def g_J5_isLatin1_aae02 (N : Nat) (this : Nat) (h : DS) : DA :=
if (1 : Int32) = 0 then (some ((0 : Int32), h))
else (bo (dI h this 13 1) fun a_7 =>
if a_7 = 0 then (some ((1 : Int32), h))
else (some ((0 : Int32), h)))

set_option maxRecDepth 100000 in
set_option maxHeartbeats 4000000 in
theorem dg_J5_isLatin1_aae02 (N d : Nat) (this : Nat) (h : DS) : DOk SX (d + 0) m_J5_isLatin1_aae02 0 [some (.ref this)] [] h (g_J5_isLatin1_aae02 N this h) := by
  unfold g_J5_isLatin1_aae02
  refine dk_getsC 3 dJ5_isLatin1_aae02_0 rfl rfl fl_java_lang_AbstractStringBuilder_18 ?_
  refine dk_if_eq 17 6 dJ5_isLatin1_aae02_3 (by decide) rfl (fun _ => ?_) (fun _ => ?_)
  · refine dk_iconst 18 0 dJ5_isLatin1_aae02_17 rfl rfl ?_
    exact dk_zretc dJ5_isLatin1_aae02_18 rfl rfl
  · refine dk_aload_n 7 0 dJ5_isLatin1_aae02_6 rfl rfl rfl ?_
    refine dk_getI 10 dJ5_isLatin1_aae02_7 rfl rfl F_java_lang_AbstractStringBuilder_22 (fun a_7 _ => ?_)
    refine dk_if_ne 17 13 dJ5_isLatin1_aae02_10 (by decide) rfl (fun _ => ?_) (fun _ => ?_)
    · refine dk_iconst 18 0 dJ5_isLatin1_aae02_17 rfl rfl ?_
      exact dk_zretc dJ5_isLatin1_aae02_18 rfl rfl
    · refine dk_iconst 14 1 dJ5_isLatin1_aae02_13 rfl rfl ?_
      refine dk_goto 18 dJ5_isLatin1_aae02_14 (by decide) ?_
      exact dk_zretc dJ5_isLatin1_aae02_18 rfl rfl

theorem dc_J5_isLatin1_aae02 (N d : Nat) (this : Nat) (h : DS) : DCM SX (d + 0) m_J5_isLatin1_aae02 [.ref this] h (g_J5_isLatin1_aae02 N this h) :=
  DCM.ofDOk km_J5_isLatin1_aae02 (by simp [Value.category]) (Nat.le_of_ble_eq_true rfl) (dg_J5_isLatin1_aae02 N d this h)

def g_J6_getChars_ba4f3_L22 (N : Nat) (a0 : Int32) (a1 : Int32) (a2 : Nat) (p6_22 : Int32) (K72 : Int32 → Int32 → DS → DA) (X : (Int32 × Int32) → DS → DA) (s0_22 : Int32) (s5_22 : Int32) (h : DS) : DA :=
if (-100 : Int32) < s0_22 then (K72 s0_22 s5_22 h)
else (chk (inb (((s0_22 / (100 : Int32)) * (100 : Int32)) - s0_22) 100) <|
bo (sA h 102 a2 (s5_22 + (-1)) (vp_nar .byte (digO.getD ((((s0_22 / (100 : Int32)) * (100 : Int32)) - s0_22)).toNatClampNeg 0))) fun h_55 =>
chk (inb (((s0_22 / (100 : Int32)) * (100 : Int32)) - s0_22) 100) <|
bo (sA h_55 102 a2 ((s5_22 + (-1)) + (-1)) (vp_nar .byte (digT.getD ((((s0_22 / (100 : Int32)) * (100 : Int32)) - s0_22)).toNatClampNeg 0))) fun h_68 =>
X ((s0_22 / (100 : Int32)), ((s5_22 + (-1)) + (-1))) h_68)

def g_J6_getChars_ba4f3_J104 (N : Nat) (a0 : Int32) (a1 : Int32) (a2 : Nat)   (s5_104 : Int32) (s6_104 : Int32) (h : DS) : DA :=
if s6_104 = 0 then (some (s5_104, h))
else (bo (sA h 102 a2 (s5_104 + (-1)) (vp_nar .byte (45 : Int32))) fun h_117 =>
some ((s5_104 + (-1)), h_117))

def g_J6_getChars_ba4f3_J12 (N : Nat) (a0 : Int32) (a1 : Int32) (a2 : Nat)   (s0_12 : Int32) (s5_12 : Int32) (t0_12 : Int32) (h : DS) : DA :=
if t0_12 = 0 then (jt (fun Y a hz => g_J6_getChars_ba4f3_L22 N a0 a1 a2 t0_12 (fun k0_72 k5_72 hk72 => chk (inb (0 - k0_72) 100) <|
bo (sA hk72 102 a2 (k5_72 + (-1)) (vp_nar .byte (digO.getD ((0 - k0_72)).toNatClampNeg 0))) fun h_84 =>
if (-9 : Int32) ≤ k0_72 then (g_J6_getChars_ba4f3_J104 N a0 a1 a2 (k5_72 + (-1)) t0_12 h_84)
else (chk (inb (0 - k0_72) 100) <|
bo (sA h_84 102 a2 ((k5_72 + (-1)) + (-1)) (vp_nar .byte (digT.getD ((0 - k0_72)).toNatClampNeg 0))) fun h_103 =>
g_J6_getChars_ba4f3_J104 N a0 a1 a2 ((k5_72 + (-1)) + (-1)) t0_12 h_103)) Y a.1 a.2 hz) N ((0 - s0_12), s5_12) h)
else (jt (fun Y a hz => g_J6_getChars_ba4f3_L22 N a0 a1 a2 t0_12 (fun k0_72 k5_72 hk72 => chk (inb (0 - k0_72) 100) <|
bo (sA hk72 102 a2 (k5_72 + (-1)) (vp_nar .byte (digO.getD ((0 - k0_72)).toNatClampNeg 0))) fun h_84 =>
if (-9 : Int32) ≤ k0_72 then (g_J6_getChars_ba4f3_J104 N a0 a1 a2 (k5_72 + (-1)) t0_12 h_84)
else (chk (inb (0 - k0_72) 100) <|
bo (sA h_84 102 a2 ((k5_72 + (-1)) + (-1)) (vp_nar .byte (digT.getD ((0 - k0_72)).toNatClampNeg 0))) fun h_103 =>
g_J6_getChars_ba4f3_J104 N a0 a1 a2 ((k5_72 + (-1)) + (-1)) t0_12 h_103)) Y a.1 a.2 hz) N (s0_12, s5_12) h)

def g_J6_getChars_ba4f3 (N : Nat) (a0 : Int32) (a1 : Int32) (a2 : Nat) (h : DS) : DA :=
if 0 ≤ a0 then (g_J6_getChars_ba4f3_J12 N a0 a1 a2 a0 a1 (0 : Int32) h)
else (g_J6_getChars_ba4f3_J12 N a0 a1 a2 a0 a1 (1 : Int32) h)

set_option maxRecDepth 100000 in
set_option maxHeartbeats 4000000 in
theorem db_J6_getChars_ba4f3_L22 (N d : Nat) (a0 : Int32) (a1 : Int32) (a2 : Nat) (p6_22 : Int32) (K72 : Int32 → Int32 → DS → DA) (hK72 : ∀ (k0 : Int32) (k5 : Int32) (h : DS), DOk SX (d + 0) m_J6_getChars_ba4f3 72 [some (.int k0), none, some (.ref a2), none, none, some (.int k5), some (.int p6_22)] [] h (K72 k0 k5 h)) (X : (Int32 × Int32) → DS → DA) (hX : ∀ (a : (Int32 × Int32)) (h : DS), DOk SX (d + 0) m_J6_getChars_ba4f3 22 [some (.int a.1), none, some (.ref a2), none, none, some (.int a.2), some (.int p6_22)] [] h (X a h)) (s0_22 : Int32) (s5_22 : Int32) (h : DS) : DOk SX (d + 0) m_J6_getChars_ba4f3 22 [some (.int s0_22), none, some (.ref a2), none, none, some (.int s5_22), some (.int p6_22)] [] h (g_J6_getChars_ba4f3_L22 N a0 a1 a2 p6_22 K72 X s0_22 s5_22 h) := by
  unfold g_J6_getChars_ba4f3_L22
  refine dk_iload_n 23 0 dJ6_getChars_ba4f3_22 rfl rfl rfl ?_
  refine dk_bipush 25 (-100) dJ6_getChars_ba4f3_23 rfl rfl ?_
  refine dk_icmp_gt 72 28 dJ6_getChars_ba4f3_25 (by decide) rfl (fun _ => ?_) (fun _ => ?_)
  · exact dk_less [some (.int s0_22), none, some (.ref a2), none, none, some (.int s5_22), some (.int p6_22)] (And.intro rfl (And.intro rfl (And.intro rfl (And.intro rfl (trivial))))) (hK72 s0_22 s5_22 h)
  · refine dk_iload_n 29 0 dJ6_getChars_ba4f3_28 rfl rfl rfl ?_
    refine dk_bipush 31 100 dJ6_getChars_ba4f3_29 rfl rfl ?_
    refine dk_idivc 32 dJ6_getChars_ba4f3_31 rfl (by decide) ?_
    refine dk_istore_n 33 3 [some (.int s0_22), none, some (.ref a2), some (.int (s0_22 / (100 : Int32))), none, some (.int s5_22), some (.int p6_22)] dJ6_getChars_ba4f3_32 rfl rfl (by decide) rfl ?_
    refine dk_iload_n 34 3 dJ6_getChars_ba4f3_33 rfl rfl rfl ?_
    refine dk_bipush 36 100 dJ6_getChars_ba4f3_34 rfl rfl ?_
    refine dk_imul 37 dJ6_getChars_ba4f3_36 rfl ?_
    refine dk_iload_n 38 0 dJ6_getChars_ba4f3_37 rfl rfl rfl ?_
    refine dk_isub 39 dJ6_getChars_ba4f3_38 rfl ?_
    refine dk_istore 41 4 [some (.int s0_22), none, some (.ref a2), some (.int (s0_22 / (100 : Int32))), some (.int (((s0_22 / (100 : Int32)) * (100 : Int32)) - s0_22)), some (.int s5_22), some (.int p6_22)] dJ6_getChars_ba4f3_39 rfl (by decide) rfl ?_
    refine dk_iload_n 42 3 dJ6_getChars_ba4f3_41 rfl rfl rfl ?_
    refine dk_istore_n 43 0 [some (.int (s0_22 / (100 : Int32))), none, some (.ref a2), some (.int (s0_22 / (100 : Int32))), some (.int (((s0_22 / (100 : Int32)) * (100 : Int32)) - s0_22)), some (.int s5_22), some (.int p6_22)] dJ6_getChars_ba4f3_42 rfl rfl (by decide) rfl ?_
    refine dk_aload_n 44 2 dJ6_getChars_ba4f3_43 rfl rfl rfl ?_
    refine dk_iinc 47 5 (-1) [some (.int (s0_22 / (100 : Int32))), none, some (.ref a2), some (.int (s0_22 / (100 : Int32))), some (.int (((s0_22 / (100 : Int32)) * (100 : Int32)) - s0_22)), some (.int (s5_22 + (-1))), some (.int p6_22)] dJ6_getChars_ba4f3_44 rfl rfl rfl (by decide) rfl ?_
    refine dk_iload 49 5 dJ6_getChars_ba4f3_47 rfl rfl ?_
    refine dk_getsDO 52 dJ6_getChars_ba4f3_49 rfl rfl fl_java_lang_Integer_83 ?_
    refine dk_iload 54 4 dJ6_getChars_ba4f3_52 rfl rfl ?_
    refine dk_baldDO 55 dJ6_getChars_ba4f3_54 rfl ?_
    refine dk_bast 56 dJ6_getChars_ba4f3_55 rfl (fun h_55 _ => ?_)
    refine dk_aload_n 57 2 dJ6_getChars_ba4f3_56 rfl rfl rfl ?_
    refine dk_iinc 60 5 (-1) [some (.int (s0_22 / (100 : Int32))), none, some (.ref a2), some (.int (s0_22 / (100 : Int32))), some (.int (((s0_22 / (100 : Int32)) * (100 : Int32)) - s0_22)), some (.int ((s5_22 + (-1)) + (-1))), some (.int p6_22)] dJ6_getChars_ba4f3_57 rfl rfl rfl (by decide) rfl ?_
    refine dk_iload 62 5 dJ6_getChars_ba4f3_60 rfl rfl ?_
    refine dk_getsDT 65 dJ6_getChars_ba4f3_62 rfl rfl fl_java_lang_Integer_87 ?_
    refine dk_iload 67 4 dJ6_getChars_ba4f3_65 rfl rfl ?_
    refine dk_baldDT 68 dJ6_getChars_ba4f3_67 rfl ?_
    refine dk_bast 69 dJ6_getChars_ba4f3_68 rfl (fun h_68 _ => ?_)
    refine dk_goto 22 dJ6_getChars_ba4f3_69 (by decide) ?_
    exact dk_less [some (.int (s0_22 / (100 : Int32))), none, some (.ref a2), none, none, some (.int ((s5_22 + (-1)) + (-1))), some (.int p6_22)] (And.intro rfl (And.intro rfl (And.intro rfl (And.intro rfl (trivial))))) (hX ((s0_22 / (100 : Int32)), ((s5_22 + (-1)) + (-1))) h_68)

set_option maxRecDepth 100000 in
set_option maxHeartbeats 4000000 in
theorem dl_J6_getChars_ba4f3_L22 (N d : Nat) (a0 : Int32) (a1 : Int32) (a2 : Nat) (p6_22 : Int32) (K72 : Int32 → Int32 → DS → DA) (hK72 : ∀ (k0 : Int32) (k5 : Int32) (h : DS), DOk SX (d + 0) m_J6_getChars_ba4f3 72 [some (.int k0), none, some (.ref a2), none, none, some (.int k5), some (.int p6_22)] [] h (K72 k0 k5 h)) : ∀ (n : Nat) (a : (Int32 × Int32)) (h : DS), DOk SX (d + 0) m_J6_getChars_ba4f3 22 [some (.int a.1), none, some (.ref a2), none, none, some (.int a.2), some (.int p6_22)] [] h (jt (fun Y a hz => g_J6_getChars_ba4f3_L22 N a0 a1 a2 p6_22 K72 Y a.1 a.2 hz) n a h) :=
  dk_jt (fun a => [some (.int a.1), none, some (.ref a2), none, none, some (.int a.2), some (.int p6_22)]) (fun X hX a h => db_J6_getChars_ba4f3_L22 (SX := SX) N d a0 a1 a2 p6_22 K72 hK72 X hX a.1 a.2 h)

set_option maxRecDepth 100000 in
set_option maxHeartbeats 4000000 in
theorem dj_J6_getChars_ba4f3_J104 (N d : Nat) (a0 : Int32) (a1 : Int32) (a2 : Nat)   (s5_104 : Int32) (s6_104 : Int32) (h : DS) : DOk SX (d + 0) m_J6_getChars_ba4f3 104 [none, none, some (.ref a2), none, none, some (.int s5_104), some (.int s6_104)] [] h (g_J6_getChars_ba4f3_J104 N a0 a1 a2 s5_104 s6_104 h) := by
  unfold g_J6_getChars_ba4f3_J104
  refine dk_iload 106 6 dJ6_getChars_ba4f3_104 rfl rfl ?_
  refine dk_if_eq 118 109 dJ6_getChars_ba4f3_106 (by decide) rfl (fun _ => ?_) (fun _ => ?_)
  · refine dk_iload 120 5 dJ6_getChars_ba4f3_118 rfl rfl ?_
    exact dk_iret dJ6_getChars_ba4f3_120 rfl
  · refine dk_aload_n 110 2 dJ6_getChars_ba4f3_109 rfl rfl rfl ?_
    refine dk_iinc 113 5 (-1) [none, none, some (.ref a2), none, none, some (.int (s5_104 + (-1))), some (.int s6_104)] dJ6_getChars_ba4f3_110 rfl rfl rfl (by decide) rfl ?_
    refine dk_iload 115 5 dJ6_getChars_ba4f3_113 rfl rfl ?_
    refine dk_bipush 117 45 dJ6_getChars_ba4f3_115 rfl rfl ?_
    refine dk_bast 118 dJ6_getChars_ba4f3_117 rfl (fun h_117 _ => ?_)
    refine dk_iload 120 5 dJ6_getChars_ba4f3_118 rfl rfl ?_
    exact dk_iret dJ6_getChars_ba4f3_120 rfl

set_option maxRecDepth 100000 in
set_option maxHeartbeats 4000000 in
theorem dj_J6_getChars_ba4f3_J12 (N d : Nat) (a0 : Int32) (a1 : Int32) (a2 : Nat)   (s0_12 : Int32) (s5_12 : Int32) (t0_12 : Int32) (h : DS) : DOk SX (d + 0) m_J6_getChars_ba4f3 12 [some (.int s0_12), none, some (.ref a2), none, none, some (.int s5_12), none] [.int t0_12] h (g_J6_getChars_ba4f3_J12 N a0 a1 a2 s0_12 s5_12 t0_12 h) := by
  unfold g_J6_getChars_ba4f3_J12
  refine dk_istore 14 6 [some (.int s0_12), none, some (.ref a2), none, none, some (.int s5_12), some (.int t0_12)] dJ6_getChars_ba4f3_12 rfl (by decide) rfl ?_
  refine dk_iload 16 6 dJ6_getChars_ba4f3_14 rfl rfl ?_
  refine dk_if_ne 22 19 dJ6_getChars_ba4f3_16 (by decide) rfl (fun _ => ?_) (fun _ => ?_)
  · refine dk_less [some (.int s0_12), none, some (.ref a2), none, none, some (.int s5_12), some (.int t0_12)] (And.intro rfl (And.intro rfl (And.intro rfl (And.intro rfl (trivial))))) ?_
    exact dl_J6_getChars_ba4f3_L22 (SX := SX) N d a0 a1 a2 t0_12 (fun k0_72 k5_72 hk72 => chk (inb (0 - k0_72) 100) <|
bo (sA hk72 102 a2 (k5_72 + (-1)) (vp_nar .byte (digO.getD ((0 - k0_72)).toNatClampNeg 0))) fun h_84 =>
if (-9 : Int32) ≤ k0_72 then (g_J6_getChars_ba4f3_J104 N a0 a1 a2 (k5_72 + (-1)) t0_12 h_84)
else (chk (inb (0 - k0_72) 100) <|
bo (sA h_84 102 a2 ((k5_72 + (-1)) + (-1)) (vp_nar .byte (digT.getD ((0 - k0_72)).toNatClampNeg 0))) fun h_103 =>
g_J6_getChars_ba4f3_J104 N a0 a1 a2 ((k5_72 + (-1)) + (-1)) t0_12 h_103)) (fun k0_72 k5_72 hk72 => by
        refine dk_aload_n 73 2 dJ6_getChars_ba4f3_72 rfl rfl rfl ?_
        refine dk_iinc 76 5 (-1) [some (.int k0_72), none, some (.ref a2), none, none, some (.int (k5_72 + (-1))), some (.int t0_12)] dJ6_getChars_ba4f3_73 rfl rfl rfl (by decide) rfl ?_
        refine dk_iload 78 5 dJ6_getChars_ba4f3_76 rfl rfl ?_
        refine dk_getsDO 81 dJ6_getChars_ba4f3_78 rfl rfl fl_java_lang_Integer_83 ?_
        refine dk_iload_n 82 0 dJ6_getChars_ba4f3_81 rfl rfl rfl ?_
        refine dk_ineg 83 dJ6_getChars_ba4f3_82 rfl ?_
        refine dk_baldDO 84 dJ6_getChars_ba4f3_83 rfl ?_
        refine dk_bast 85 dJ6_getChars_ba4f3_84 rfl (fun h_84 _ => ?_)
        refine dk_iload_n 86 0 dJ6_getChars_ba4f3_85 rfl rfl rfl ?_
        refine dk_bipush 88 (-9) dJ6_getChars_ba4f3_86 rfl rfl ?_
        refine dk_icmp_ge 104 91 dJ6_getChars_ba4f3_88 (by decide) rfl (fun _ => ?_) (fun _ => ?_)
        · exact dk_less [none, none, some (.ref a2), none, none, some (.int (k5_72 + (-1))), some (.int t0_12)] (And.intro rfl (And.intro rfl (And.intro rfl (trivial)))) (dj_J6_getChars_ba4f3_J104 (SX := SX) N d a0 a1 a2 (k5_72 + (-1)) t0_12 h_84)
        · refine dk_aload_n 92 2 dJ6_getChars_ba4f3_91 rfl rfl rfl ?_
          refine dk_iinc 95 5 (-1) [some (.int k0_72), none, some (.ref a2), none, none, some (.int ((k5_72 + (-1)) + (-1))), some (.int t0_12)] dJ6_getChars_ba4f3_92 rfl rfl rfl (by decide) rfl ?_
          refine dk_iload 97 5 dJ6_getChars_ba4f3_95 rfl rfl ?_
          refine dk_getsDT 100 dJ6_getChars_ba4f3_97 rfl rfl fl_java_lang_Integer_87 ?_
          refine dk_iload_n 101 0 dJ6_getChars_ba4f3_100 rfl rfl rfl ?_
          refine dk_ineg 102 dJ6_getChars_ba4f3_101 rfl ?_
          refine dk_baldDT 103 dJ6_getChars_ba4f3_102 rfl ?_
          refine dk_bast 104 dJ6_getChars_ba4f3_103 rfl (fun h_103 _ => ?_)
          exact dk_less [none, none, some (.ref a2), none, none, some (.int ((k5_72 + (-1)) + (-1))), some (.int t0_12)] (And.intro rfl (And.intro rfl (And.intro rfl (trivial)))) (dj_J6_getChars_ba4f3_J104 (SX := SX) N d a0 a1 a2 ((k5_72 + (-1)) + (-1)) t0_12 h_103)) N (s0_12, s5_12) h
  · refine dk_iload_n 20 0 dJ6_getChars_ba4f3_19 rfl rfl rfl ?_
    refine dk_ineg 21 dJ6_getChars_ba4f3_20 rfl ?_
    refine dk_istore_n 22 0 [some (.int (0 - s0_12)), none, some (.ref a2), none, none, some (.int s5_12), some (.int t0_12)] dJ6_getChars_ba4f3_21 rfl rfl (by decide) rfl ?_
    refine dk_less [some (.int (0 - s0_12)), none, some (.ref a2), none, none, some (.int s5_12), some (.int t0_12)] (And.intro rfl (And.intro rfl (And.intro rfl (And.intro rfl (trivial))))) ?_
    exact dl_J6_getChars_ba4f3_L22 (SX := SX) N d a0 a1 a2 t0_12 (fun k0_72 k5_72 hk72 => chk (inb (0 - k0_72) 100) <|
bo (sA hk72 102 a2 (k5_72 + (-1)) (vp_nar .byte (digO.getD ((0 - k0_72)).toNatClampNeg 0))) fun h_84 =>
if (-9 : Int32) ≤ k0_72 then (g_J6_getChars_ba4f3_J104 N a0 a1 a2 (k5_72 + (-1)) t0_12 h_84)
else (chk (inb (0 - k0_72) 100) <|
bo (sA h_84 102 a2 ((k5_72 + (-1)) + (-1)) (vp_nar .byte (digT.getD ((0 - k0_72)).toNatClampNeg 0))) fun h_103 =>
g_J6_getChars_ba4f3_J104 N a0 a1 a2 ((k5_72 + (-1)) + (-1)) t0_12 h_103)) (fun k0_72 k5_72 hk72 => by
        refine dk_aload_n 73 2 dJ6_getChars_ba4f3_72 rfl rfl rfl ?_
        refine dk_iinc 76 5 (-1) [some (.int k0_72), none, some (.ref a2), none, none, some (.int (k5_72 + (-1))), some (.int t0_12)] dJ6_getChars_ba4f3_73 rfl rfl rfl (by decide) rfl ?_
        refine dk_iload 78 5 dJ6_getChars_ba4f3_76 rfl rfl ?_
        refine dk_getsDO 81 dJ6_getChars_ba4f3_78 rfl rfl fl_java_lang_Integer_83 ?_
        refine dk_iload_n 82 0 dJ6_getChars_ba4f3_81 rfl rfl rfl ?_
        refine dk_ineg 83 dJ6_getChars_ba4f3_82 rfl ?_
        refine dk_baldDO 84 dJ6_getChars_ba4f3_83 rfl ?_
        refine dk_bast 85 dJ6_getChars_ba4f3_84 rfl (fun h_84 _ => ?_)
        refine dk_iload_n 86 0 dJ6_getChars_ba4f3_85 rfl rfl rfl ?_
        refine dk_bipush 88 (-9) dJ6_getChars_ba4f3_86 rfl rfl ?_
        refine dk_icmp_ge 104 91 dJ6_getChars_ba4f3_88 (by decide) rfl (fun _ => ?_) (fun _ => ?_)
        · exact dk_less [none, none, some (.ref a2), none, none, some (.int (k5_72 + (-1))), some (.int t0_12)] (And.intro rfl (And.intro rfl (And.intro rfl (trivial)))) (dj_J6_getChars_ba4f3_J104 (SX := SX) N d a0 a1 a2 (k5_72 + (-1)) t0_12 h_84)
        · refine dk_aload_n 92 2 dJ6_getChars_ba4f3_91 rfl rfl rfl ?_
          refine dk_iinc 95 5 (-1) [some (.int k0_72), none, some (.ref a2), none, none, some (.int ((k5_72 + (-1)) + (-1))), some (.int t0_12)] dJ6_getChars_ba4f3_92 rfl rfl rfl (by decide) rfl ?_
          refine dk_iload 97 5 dJ6_getChars_ba4f3_95 rfl rfl ?_
          refine dk_getsDT 100 dJ6_getChars_ba4f3_97 rfl rfl fl_java_lang_Integer_87 ?_
          refine dk_iload_n 101 0 dJ6_getChars_ba4f3_100 rfl rfl rfl ?_
          refine dk_ineg 102 dJ6_getChars_ba4f3_101 rfl ?_
          refine dk_baldDT 103 dJ6_getChars_ba4f3_102 rfl ?_
          refine dk_bast 104 dJ6_getChars_ba4f3_103 rfl (fun h_103 _ => ?_)
          exact dk_less [none, none, some (.ref a2), none, none, some (.int ((k5_72 + (-1)) + (-1))), some (.int t0_12)] (And.intro rfl (And.intro rfl (And.intro rfl (trivial)))) (dj_J6_getChars_ba4f3_J104 (SX := SX) N d a0 a1 a2 ((k5_72 + (-1)) + (-1)) t0_12 h_103)) N ((0 - s0_12), s5_12) h

set_option maxRecDepth 100000 in
set_option maxHeartbeats 4000000 in
theorem dg_J6_getChars_ba4f3 (N d : Nat) (a0 : Int32) (a1 : Int32) (a2 : Nat) (h : DS) : DOk SX (d + 0) m_J6_getChars_ba4f3 0 [some (.int a0), some (.int a1), some (.ref a2), none, none, none, none] [] h (g_J6_getChars_ba4f3 N a0 a1 a2 h) := by
  unfold g_J6_getChars_ba4f3
  refine dk_iload_n 1 1 dJ6_getChars_ba4f3_0 rfl rfl rfl ?_
  refine dk_istore 3 5 [some (.int a0), some (.int a1), some (.ref a2), none, none, some (.int a1), none] dJ6_getChars_ba4f3_1 rfl (by decide) rfl ?_
  refine dk_iload_n 4 0 dJ6_getChars_ba4f3_3 rfl rfl rfl ?_
  refine dk_if_ge 11 7 dJ6_getChars_ba4f3_4 (by decide) rfl (fun _ => ?_) (fun _ => ?_)
  · refine dk_iconst 12 0 dJ6_getChars_ba4f3_11 rfl rfl ?_
    exact dk_less [some (.int a0), none, some (.ref a2), none, none, some (.int a1), none] (And.intro rfl (And.intro rfl (And.intro rfl (trivial)))) (dj_J6_getChars_ba4f3_J12 (SX := SX) N d a0 a1 a2 a0 a1 (0 : Int32) h)
  · refine dk_iconst 8 1 dJ6_getChars_ba4f3_7 rfl rfl ?_
    refine dk_goto 12 dJ6_getChars_ba4f3_8 (by decide) ?_
    exact dk_less [some (.int a0), none, some (.ref a2), none, none, some (.int a1), none] (And.intro rfl (And.intro rfl (And.intro rfl (trivial)))) (dj_J6_getChars_ba4f3_J12 (SX := SX) N d a0 a1 a2 a0 a1 (1 : Int32) h)

theorem dc_J6_getChars_ba4f3 (N d : Nat) (a0 : Int32) (a1 : Int32) (a2 : Nat) (h : DS) : DCM SX (d + 0) m_J6_getChars_ba4f3 [.int a0, .int a1, .ref a2] h (g_J6_getChars_ba4f3 N a0 a1 a2 h) :=
  DCM.ofDOk km_J6_getChars_ba4f3 (by simp [Value.category]) (Nat.le_of_ble_eq_true rfl) (dg_J6_getChars_ba4f3 N d a0 a1 a2 h)

