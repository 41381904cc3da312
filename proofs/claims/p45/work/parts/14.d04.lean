variable {SX : SXT}
def g_J5_append_c97b9 (N : Nat) (this : Nat) (a1 : Int32) (h : DS) : DA :=
bo (dI h this 13 3) fun a_1 =>
bd3 (g_J6_stringSize_0f7a4 N a1 h) fun v_7 h_7 =>
chk (isT h_7 13 this) <| bd3 (g_J5_ensureCapacityInternal_d00df N this (a_1 + v_7) h_7) fun v_14 h_14 =>
chk (isT h_14 13 this) <| bd3 (g_J5_isLatin1_aae02 N this h_14) fun v_18 h_18 =>
if v_18 = 0 then (bo (nn (dR h_18 this 13 0)) fun r_41 =>
none)
else (bo (nn (dR h_18 this 13 0)) fun r_27 =>
bd3 (g_J6_getChars_ba4f3 N a1 (a_1 + v_7) r_27 h_18) fun v_30 h_30 =>
bo (wI h_30 this 13 3 (a_1 + v_7)) fun h_50 =>
chk (decide (this < 2 ^ 31)) (some (nI this, h_50)))

set_option maxRecDepth 100000 in
set_option maxHeartbeats 4000000 in
theorem dg_J5_append_c97b9 (N d : Nat) (this : Nat) (a1 : Int32) (h : DS) : DOk SX (d + 4) m_J5_append_c97b9 0 [some (.ref this), some (.int a1), none, none] [] h (g_J5_append_c97b9 N this a1 h) := by
  unfold g_J5_append_c97b9
  refine dk_aload_n 1 0 dJ5_append_c97b9_0 rfl rfl rfl ?_
  refine dk_getI 4 dJ5_append_c97b9_1 rfl rfl F_java_lang_AbstractStringBuilder_79 (fun a_1 _ => ?_)
  refine dk_istore_n 5 2 [some (.ref this), some (.int a1), some (.int a_1), none] dJ5_append_c97b9_4 rfl rfl (by decide) rfl ?_
  refine dk_iload_n 6 2 dJ5_append_c97b9_5 rfl rfl rfl ?_
  refine dk_iload_n 7 1 dJ5_append_c97b9_6 rfl rfl rfl ?_
  refine dk_callS (np := 1) (M' := m_J6_stringSize_0f7a4) (As := [.int a1]) (st := [.int a_1]) 10 dJ5_append_c97b9_7 rfl rfl km_J6_stringSize_0f7a4 ks_J6_stringSize_0f7a4 ml_java_lang_AbstractStringBuilder_245 (by decide) rfl rfl (Nat.le_of_ble_eq_true rfl) (dc_J6_stringSize_0f7a4 N (d + 3) a1 h) (fun v_7 h_7 e_7 => ?_)
  show DOk _ _ _ _ _ (.int v_7 :: [.int a_1]) _ _
  refine dk_iadd 11 dJ5_append_c97b9_10 rfl ?_
  refine dk_istore_n 12 3 [some (.ref this), some (.int a1), some (.int a_1), some (.int (a_1 + v_7))] dJ5_append_c97b9_11 rfl rfl (by decide) rfl ?_
  refine dk_aload_n 13 0 dJ5_append_c97b9_12 rfl rfl rfl ?_
  refine dk_iload_n 14 3 dJ5_append_c97b9_13 rfl rfl rfl ?_
  refine dk_callU (M0 := x) (np := 1) (M' := m_J5_ensureCapacityInternal_d00df) (As := [.int (a_1 + v_7)]) (st := []) 17 dJ5_append_c97b9_14 rfl rfl km_J5_ensureCapacityInternal_d00df ki_J5_ensureCapacityInternal_d00df kw_J5_ensureCapacityInternal_d00df sm_java_lang_AbstractStringBuilder_ensureCapacityInternal__I_V ml_java_lang_AbstractStringBuilder_100 (by decide) rfl rfl (Nat.le_of_ble_eq_true rfl) (dc_J5_ensureCapacityInternal_d00df N (d + 0) this (a_1 + v_7) h_7) (fun v_14 h_14 e_14 => ?_)
  show DOk _ _ _ _ _ [] _ _
  refine dk_aload_n 18 0 dJ5_append_c97b9_17 rfl rfl rfl ?_
  refine dk_callU (M0 := x) (np := 0) (M' := m_J5_isLatin1_aae02) (As := []) (st := []) 21 dJ5_append_c97b9_18 rfl rfl km_J5_isLatin1_aae02 ki_J5_isLatin1_aae02 kw_J5_isLatin1_aae02 sm_java_lang_AbstractStringBuilder_isLatin1___Z ml_java_lang_AbstractStringBuilder_83 (by decide) rfl rfl (Nat.le_of_ble_eq_true rfl) (dc_J5_isLatin1_aae02 N (d + 3) this h_14) (fun v_18 h_18 e_18 => ?_)
  show DOk _ _ _ _ _ (.int v_18 :: []) _ _
  refine dk_if_eq 37 24 dJ5_append_c97b9_21 (by decide) rfl (fun _ => ?_) (fun _ => ?_)
  · refine dk_iload_n 38 1 dJ5_append_c97b9_37 rfl rfl rfl ?_
    refine dk_iload_n 39 2 dJ5_append_c97b9_38 rfl rfl rfl ?_
    refine dk_iload_n 40 3 dJ5_append_c97b9_39 rfl rfl rfl ?_
    refine dk_aload_n 41 0 dJ5_append_c97b9_40 rfl rfl rfl ?_
    refine dk_getR 44 dJ5_append_c97b9_41 rfl rfl F_java_lang_AbstractStringBuilder_15 (fun r_41 _ => ?_)
    exact DOk.nil
  · refine dk_iload_n 25 1 dJ5_append_c97b9_24 rfl rfl rfl ?_
    refine dk_iload_n 26 3 dJ5_append_c97b9_25 rfl rfl rfl ?_
    refine dk_aload_n 27 0 dJ5_append_c97b9_26 rfl rfl rfl ?_
    refine dk_getR 30 dJ5_append_c97b9_27 rfl rfl F_java_lang_AbstractStringBuilder_15 (fun r_27 _ => ?_)
    refine dk_callS (np := 3) (M' := m_J6_getChars_ba4f3) (As := [.int a1, .int (a_1 + v_7), .ref r_27]) (st := []) 33 dJ5_append_c97b9_30 rfl rfl km_J6_getChars_ba4f3 ks_J6_getChars_ba4f3 ml_java_lang_AbstractStringBuilder_248 (by decide) rfl rfl (Nat.le_of_ble_eq_true rfl) (dc_J6_getChars_ba4f3 N (d + 3) a1 (a_1 + v_7) r_27 h_18) (fun v_30 h_30 e_30 => ?_)
    show DOk _ _ _ _ _ (.int v_30 :: []) _ _
    refine dk_pop 34 dJ5_append_c97b9_33 rfl rfl ?_
    refine dk_goto 48 dJ5_append_c97b9_34 (by decide) ?_
    refine dk_aload_n 49 0 dJ5_append_c97b9_48 rfl rfl rfl ?_
    refine dk_iload_n 50 3 dJ5_append_c97b9_49 rfl rfl rfl ?_
    refine dk_putI 53 dJ5_append_c97b9_50 rfl rfl F_java_lang_AbstractStringBuilder_79 rfl pZ_13_3 rfl rfl (fun h_50 _ => ?_)
    refine dk_aload_n 54 0 dJ5_append_c97b9_53 rfl rfl rfl ?_
    exact dk_aret dJ5_append_c97b9_54 rfl (Or.inl ⟨_, rfl⟩)

theorem dc_J5_append_c97b9 (N d : Nat) (this : Nat) (a1 : Int32) (h : DS) : DCM SX (d + 4) m_J5_append_c97b9 [.ref this, .int a1] h (g_J5_append_c97b9 N this a1 h) :=
  DCM.ofDOk km_J5_append_c97b9 (by simp [Value.category]) (Nat.le_of_ble_eq_true rfl) (dg_J5_append_c97b9 N d this a1 h)

def g_J5_getValue_6d5f1 (N : Nat) (this : Nat) (h : DS) : DA :=
bo (nn (dR h this 13 0)) fun r_1 =>
chk (decide (r_1 < 2 ^ 31)) (some (nI r_1, h))

set_option maxRecDepth 100000 in
set_option maxHeartbeats 4000000 in
theorem dg_J5_getValue_6d5f1 (N d : Nat) (this : Nat) (h : DS) : DOk SX (d + 0) m_J5_getValue_6d5f1 0 [some (.ref this)] [] h (g_J5_getValue_6d5f1 N this h) := by
  unfold g_J5_getValue_6d5f1
  refine dk_aload_n 1 0 dJ5_getValue_6d5f1_0 rfl rfl rfl ?_
  refine dk_getR 4 dJ5_getValue_6d5f1_1 rfl rfl F_java_lang_AbstractStringBuilder_15 (fun r_1 _ => ?_)
  exact dk_aret dJ5_getValue_6d5f1_4 rfl (Or.inr ⟨_, rfl⟩)

theorem dc_J5_getValue_6d5f1 (N d : Nat) (this : Nat) (h : DS) : DCM SX (d + 0) m_J5_getValue_6d5f1 [.ref this] h (g_J5_getValue_6d5f1 N this h) :=
  DCM.ofDOk km_J5_getValue_6d5f1 (by simp [Value.category]) (Nat.le_of_ble_eq_true rfl) (dg_J5_getValue_6d5f1 N d this h)

def g_J4_length_8abf5 (N : Nat) (this : Nat) (h : DS) : DA :=
chk (isT h 13 this) <| bd3 (g_J5_length_8abf5 N this h) fun v_1 h_1 =>
some (v_1, h_1)

set_option maxRecDepth 100000 in
set_option maxHeartbeats 4000000 in
theorem dg_J4_length_8abf5 (N d : Nat) (this : Nat) (h : DS) : DOk SX (d + 1) m_J4_length_8abf5 0 [some (.ref this)] [] h (g_J4_length_8abf5 N this h) := by
  unfold g_J4_length_8abf5
  refine dk_aload_n 1 0 dJ4_length_8abf5_0 rfl rfl rfl ?_
  refine dk_callSU (np := 0) (M' := m_J5_length_8abf5) (As := []) (st := []) 4 dJ4_length_8abf5_1 rfl rfl km_J5_length_8abf5 ki_J5_length_8abf5 sm_java_lang_AbstractStringBuilder_length___I rfl (by decide) ml_java_lang_StringBuilder_343 (by decide) rfl rfl (Nat.le_of_ble_eq_true rfl) (dc_J5_length_8abf5 N (d + 0) this h) (fun v_1 h_1 e_1 => ?_)
  show DOk _ _ _ _ _ (.int v_1 :: []) _ _
  exact dk_iret dJ4_length_8abf5_4 rfl

theorem dc_J4_length_8abf5 (N d : Nat) (this : Nat) (h : DS) : DCM SX (d + 1) m_J4_length_8abf5 [.ref this] h (g_J4_length_8abf5 N this h) :=
  DCM.ofDOk km_J4_length_8abf5 (by simp [Value.category]) (Nat.le_of_ble_eq_true rfl) (dg_J4_length_8abf5 N d this h)

def g_J7_checkLength_df160 (N : Nat) (a0 : Int32) (a1 : Int32) (h : DS) : DA :=
if a0 ≤ a1 then (some (0, h))
else (none)

set_option maxRecDepth 100000 in
set_option maxHeartbeats 4000000 in
theorem dg_J7_checkLength_df160 (N d : Nat) (a0 : Int32) (a1 : Int32) (h : DS) : DOk SX (d + 0) m_J7_checkLength_df160 0 [some (.int a0), some (.int a1)] [] h (g_J7_checkLength_df160 N a0 a1 h) := by
  unfold g_J7_checkLength_df160
  refine dk_iload_n 1 1 dJ7_checkLength_df160_0 rfl rfl rfl ?_
  refine dk_iload_n 2 0 dJ7_checkLength_df160_1 rfl rfl rfl ?_
  refine dk_icmp_ge 37 5 dJ7_checkLength_df160_2 (by decide) rfl (fun _ => ?_) (fun _ => ?_)
  · exact dk_vret dJ7_checkLength_df160_37 rfl
  · exact DOk.nil

theorem dc_J7_checkLength_df160 (N d : Nat) (a0 : Int32) (a1 : Int32) (h : DS) : DCM SX (d + 0) m_J7_checkLength_df160 [.int a0, .int a1] h (g_J7_checkLength_df160 N a0 a1 h) :=
  DCM.ofDOk km_J7_checkLength_df160 (by simp [Value.category]) (Nat.le_of_ble_eq_true rfl) (dg_J7_checkLength_df160 N d a0 a1 h)

def g_J7_copyOfRangeByte_39247 (N : Nat) (a0 : Nat) (a1 : Int32) (a2 : Int32) (h : DS) : DA :=
bd3 (g_J7_checkLength_df160 N a1 a2 h) fun v_2 h_2 =>
bo (nA h_2 102 (a2 - a1)) fun h_10 =>
bo (bN h_10 a0) fun c_20 =>
bnd (if (a2 - a1) < ((Int32.ofNat c_20) - a1) then (a2 - a1) else ((Int32.ofNat c_20) - a1)) fun a_24 =>
bo (bP h_10 a0 a1 h_2.2.1.length (0 : Int32) a_24) fun h_27 =>
chk (decide (h_2.2.1.length < 2 ^ 31)) (some (nI h_2.2.1.length, h_27))

set_option maxRecDepth 100000 in
set_option maxHeartbeats 4000000 in
theorem dg_J7_copyOfRangeByte_39247 (N d : Nat) (a0 : Nat) (a1 : Int32) (a2 : Int32) (h : DS) : DOk SX (d + 1) m_J7_copyOfRangeByte_39247 0 [some (.ref a0), some (.int a1), some (.int a2), none, none] [] h (g_J7_copyOfRangeByte_39247 N a0 a1 a2 h) := by
  unfold g_J7_copyOfRangeByte_39247
  refine dk_iload_n 1 1 dJ7_copyOfRangeByte_39247_0 rfl rfl rfl ?_
  refine dk_iload_n 2 2 dJ7_copyOfRangeByte_39247_1 rfl rfl rfl ?_
  refine dk_callS (np := 2) (M' := m_J7_checkLength_df160) (As := [.int a1, .int a2]) (st := []) 5 dJ7_copyOfRangeByte_39247_2 rfl rfl km_J7_checkLength_df160 ks_J7_checkLength_df160 ml_java_util_Arrays_343 (by decide) rfl rfl (Nat.le_of_ble_eq_true rfl) (dc_J7_checkLength_df160 N (d + 0) a1 a2 h) (fun v_2 h_2 e_2 => ?_)
  show DOk _ _ _ _ _ [] _ _
  refine dk_iload_n 6 2 dJ7_copyOfRangeByte_39247_5 rfl rfl rfl ?_
  refine dk_iload_n 7 1 dJ7_copyOfRangeByte_39247_6 rfl rfl rfl ?_
  refine dk_isub 8 dJ7_copyOfRangeByte_39247_7 rfl ?_
  refine dk_istore_n 9 3 [some (.ref a0), some (.int a1), some (.int a2), some (.int (a2 - a1)), none] dJ7_copyOfRangeByte_39247_8 rfl rfl (by decide) rfl ?_
  refine dk_iload_n 10 3 dJ7_copyOfRangeByte_39247_9 rfl rfl rfl ?_
  refine dk_newaB 12 dJ7_copyOfRangeByte_39247_10 rfl (fun h_10 _ => ?_)
  refine dk_astore 14 4 [some (.ref a0), some (.int a1), some (.int a2), some (.int (a2 - a1)), some (.ref h_2.2.1.length)] dJ7_copyOfRangeByte_39247_12 rfl (by decide) rfl ?_
  refine dk_aload_n 15 0 dJ7_copyOfRangeByte_39247_14 rfl rfl rfl ?_
  refine dk_iload_n 16 1 dJ7_copyOfRangeByte_39247_15 rfl rfl rfl ?_
  refine dk_aload 18 4 dJ7_copyOfRangeByte_39247_16 rfl rfl ?_
  refine dk_iconst 19 0 dJ7_copyOfRangeByte_39247_18 rfl rfl ?_
  refine dk_aload_n 20 0 dJ7_copyOfRangeByte_39247_19 rfl rfl rfl ?_
  refine dk_blen 21 dJ7_copyOfRangeByte_39247_20 rfl (fun c_20 _ => ?_)
  refine dk_iload_n 22 1 dJ7_copyOfRangeByte_39247_21 rfl rfl rfl ?_
  refine dk_isub 23 dJ7_copyOfRangeByte_39247_22 rfl ?_
  refine dk_iload_n 24 3 dJ7_copyOfRangeByte_39247_23 rfl rfl rfl ?_
  refine dk_min 27 dJ7_copyOfRangeByte_39247_24 rfl rfl ml_java_util_Arrays_304 (Nat.le_of_ble_eq_true rfl) ?_
  refine dk_bndI (fun a_24 => ?_)
  refine dk_bcopy 30 dJ7_copyOfRangeByte_39247_27 rfl rfl ml_java_util_Arrays_150 (Nat.le_of_ble_eq_true rfl) (fun h_27 _ => ?_)
  refine dk_aload 32 4 dJ7_copyOfRangeByte_39247_30 rfl rfl ?_
  exact dk_aret dJ7_copyOfRangeByte_39247_32 rfl (Or.inr ⟨_, rfl⟩)

theorem dc_J7_copyOfRangeByte_39247 (N d : Nat) (a0 : Nat) (a1 : Int32) (a2 : Int32) (h : DS) : DCM SX (d + 1) m_J7_copyOfRangeByte_39247 [.ref a0, .int a1, .int a2] h (g_J7_copyOfRangeByte_39247 N a0 a1 a2 h) :=
  DCM.ofDOk km_J7_copyOfRangeByte_39247 (by simp [Value.category]) (Nat.le_of_ble_eq_true rfl) (dg_J7_copyOfRangeByte_39247 N d a0 a1 a2 h)

def g_J7_copyOfRange_39247 (N : Nat) (a0 : Nat) (a1 : Int32) (a2 : Int32) (h : DS) : DA :=
if a1 = 0 then (bo (bN h a0) fun c_6 =>
if a2 = (Int32.ofNat c_6) then (bo (cB h a0) fun h_18 =>
chk (decide (h.2.1.length < 2 ^ 31)) (some (nI h.2.1.length, h_18)))
else (bd3 (g_J7_copyOfRangeByte_39247 N a0 a1 a2 h) fun v_13 h_13 =>
chk (decide (v_13 ≠ -1)) <| bnd v_13.toNatClampNeg fun r_13 =>
chk (decide (r_13 < 2 ^ 31)) (some (nI r_13, h_13))))
else (bd3 (g_J7_copyOfRangeByte_39247 N a0 a1 a2 h) fun v_13 h_13 =>
chk (decide (v_13 ≠ -1)) <| bnd v_13.toNatClampNeg fun r_13 =>
chk (decide (r_13 < 2 ^ 31)) (some (nI r_13, h_13)))

set_option maxRecDepth 100000 in
set_option maxHeartbeats 4000000 in
theorem dg_J7_copyOfRange_39247 (N d : Nat) (a0 : Nat) (a1 : Int32) (a2 : Int32) (h : DS) : DOk SX (d + 2) m_J7_copyOfRange_39247 0 [some (.ref a0), some (.int a1), some (.int a2)] [] h (g_J7_copyOfRange_39247 N a0 a1 a2 h) := by
  unfold g_J7_copyOfRange_39247
  refine dk_iload_n 1 1 dJ7_copyOfRange_39247_0 rfl rfl rfl ?_
  refine dk_if_ne 10 4 dJ7_copyOfRange_39247_1 (by decide) rfl (fun _ => ?_) (fun _ => ?_)
  · refine dk_aload_n 11 0 dJ7_copyOfRange_39247_10 rfl rfl rfl ?_
    refine dk_iload_n 12 1 dJ7_copyOfRange_39247_11 rfl rfl rfl ?_
    refine dk_iload_n 13 2 dJ7_copyOfRange_39247_12 rfl rfl rfl ?_
    refine dk_callS (np := 3) (M' := m_J7_copyOfRangeByte_39247) (As := [.ref a0, .int a1, .int a2]) (st := []) 16 dJ7_copyOfRange_39247_13 rfl rfl km_J7_copyOfRangeByte_39247 ks_J7_copyOfRangeByte_39247 ml_java_util_Arrays_339 (by decide) rfl rfl (Nat.le_of_ble_eq_true rfl) (dc_J7_copyOfRangeByte_39247 N (d + 0) a0 a1 a2 h) (fun v_13 h_13 e_13 => ?_)
    show DOk _ _ _ _ _ ((if v_13 = -1 then Value.null else .ref v_13.toNatClampNeg) :: []) _ _
    refine dk_rr (fun r_13 => ?_)
    exact dk_aret dJ7_copyOfRange_39247_16 rfl (Or.inr ⟨_, rfl⟩)
  · refine dk_iload_n 5 2 dJ7_copyOfRange_39247_4 rfl rfl rfl ?_
    refine dk_aload_n 6 0 dJ7_copyOfRange_39247_5 rfl rfl rfl ?_
    refine dk_blen 7 dJ7_copyOfRange_39247_6 rfl (fun c_6 _ => ?_)
    refine dk_icmp_eq 17 10 dJ7_copyOfRange_39247_7 (by decide) rfl (fun _ => ?_) (fun _ => ?_)
    · refine dk_aload_n 18 0 dJ7_copyOfRange_39247_17 rfl rfl rfl ?_
      refine dk_cloneB 21 dJ7_copyOfRange_39247_18 rfl rfl ml_java_util_Arrays_310 (Nat.le_of_ble_eq_true rfl) (fun h_18 hh_18 => ?_)
      obtain ⟨N_18, hN_18⟩ := cB_at hh_18
      refine dk_castB 24 dJ7_copyOfRange_39247_21 rfl rfl kl_java_util_Arrays_311 hN_18 ?_
      exact dk_aret dJ7_copyOfRange_39247_24 rfl (Or.inr ⟨_, rfl⟩)
    · refine dk_aload_n 11 0 dJ7_copyOfRange_39247_10 rfl rfl rfl ?_
      refine dk_iload_n 12 1 dJ7_copyOfRange_39247_11 rfl rfl rfl ?_
      refine dk_iload_n 13 2 dJ7_copyOfRange_39247_12 rfl rfl rfl ?_
      refine dk_callS (np := 3) (M' := m_J7_copyOfRangeByte_39247) (As := [.ref a0, .int a1, .int a2]) (st := []) 16 dJ7_copyOfRange_39247_13 rfl rfl km_J7_copyOfRangeByte_39247 ks_J7_copyOfRangeByte_39247 ml_java_util_Arrays_339 (by decide) rfl rfl (Nat.le_of_ble_eq_true rfl) (dc_J7_copyOfRangeByte_39247 N (d + 0) a0 a1 a2 h) (fun v_13 h_13 e_13 => ?_)
      show DOk _ _ _ _ _ ((if v_13 = -1 then Value.null else .ref v_13.toNatClampNeg) :: []) _ _
      refine dk_rr (fun r_13 => ?_)
      exact dk_aret dJ7_copyOfRange_39247_16 rfl (Or.inr ⟨_, rfl⟩)

theorem dc_J7_copyOfRange_39247 (N d : Nat) (a0 : Nat) (a1 : Int32) (a2 : Int32) (h : DS) : DCM SX (d + 2) m_J7_copyOfRange_39247 [.ref a0, .int a1, .int a2] h (g_J7_copyOfRange_39247 N a0 a1 a2 h) :=
  DCM.ofDOk km_J7_copyOfRange_39247 (by simp [Value.category]) (Nat.le_of_ble_eq_true rfl) (dg_J7_copyOfRange_39247 N d a0 a1 a2 h)

def g_J0_init_db425_J79 (N : Nat) (this : Nat) (a1 : Nat)   (s3_79 : Nat) (s4_79 : Int32) (h : DS) : DA :=
bo (wI h this 14 1 (1 : Int32)) fun h_81 =>
bd3 (g_J7_copyOfRange_39247 N s3_79 (0 : Int32) (s4_79 <<< ((1 : Int32) &&& 31)) h_81) fun v_91 h_91 =>
chk (decide (v_91 ≠ -1)) <| bnd v_91.toNatClampNeg fun r_91 =>
bo (wR h_91 this 14 0 (some r_91)) fun h_94 =>
some (0, h_94)

def g_J0_init_db425 (N : Nat) (this : Nat) (a1 : Nat) (h : DS) : DA :=
chk (isT h 13 a1) <| bd3 (g_J5_getValue_6d5f1 N a1 h) fun v_5 h_5 =>
chk (decide (v_5 ≠ -1)) <| bnd v_5.toNatClampNeg fun r_5 =>
chk (isT h_5 13 a1) <| bd3 (g_J4_length_8abf5 N a1 h_5) fun v_10 h_10 =>
chk (isT h_10 13 a1) <| bd3 (g_J5_isLatin1_aae02 N a1 h_10) fun v_16 h_16 =>
if v_16 = 0 then (if (1 : Int32) = 0 then (g_J0_init_db425_J79 N this a1 r_5 v_10 h_16)
else (bo (dI h_16 a1 13 2) fun a_48 =>
if a_48 = 0 then (g_J0_init_db425_J79 N this a1 r_5 v_10 h_16)
else (none)))
else (bo (wI h_16 this 14 1 (0 : Int32)) fun h_24 =>
bd3 (g_J7_copyOfRange_39247 N r_5 (0 : Int32) v_10 h_24) fun v_32 h_32 =>
chk (decide (v_32 ≠ -1)) <| bnd v_32.toNatClampNeg fun r_32 =>
bo (wR h_32 this 14 0 (some r_32)) fun h_35 =>
some (0, h_35))

set_option maxRecDepth 100000 in
set_option maxHeartbeats 4000000 in
theorem dj_J0_init_db425_J79 (N d : Nat) (this : Nat) (a1 : Nat)   (s3_79 : Nat) (s4_79 : Int32) (h : DS) : DOk SX (d + 3) m_J0_init_db425 79 [some (.ref this), none, none, some (.ref s3_79), some (.int s4_79)] [] h (g_J0_init_db425_J79 N this a1 s3_79 s4_79 h) := by
  unfold g_J0_init_db425_J79
  refine dk_aload_n 80 0 dJ0_init_db425_79 rfl rfl rfl ?_
  refine dk_iconst 81 1 dJ0_init_db425_80 rfl rfl ?_
  refine dk_putIF 84 dJ0_init_db425_81 rfl rfl rfl rfl F_java_lang_String_15 rfl pZ_14_1 rfl rfl (fun h_81 _ => ?_)
  refine dk_aload_n 85 0 dJ0_init_db425_84 rfl rfl rfl ?_
  refine dk_aload_n 86 3 dJ0_init_db425_85 rfl rfl rfl ?_
  refine dk_iconst 87 0 dJ0_init_db425_86 rfl rfl ?_
  refine dk_iload 89 4 dJ0_init_db425_87 rfl rfl ?_
  refine dk_iconst 90 1 dJ0_init_db425_89 rfl rfl ?_
  refine dk_ishl 91 dJ0_init_db425_90 rfl ?_
  refine dk_callS (np := 3) (M' := m_J7_copyOfRange_39247) (As := [.ref s3_79, .int 0, .int (s4_79 <<< ((1 : Int32) &&& 31))]) (st := [.ref this]) 94 dJ0_init_db425_91 rfl rfl km_J7_copyOfRange_39247 ks_J7_copyOfRange_39247 ml_java_lang_String_54 (by decide) rfl rfl (Nat.le_of_ble_eq_true rfl) (dc_J7_copyOfRange_39247 N (d + 0) s3_79 (0 : Int32) (s4_79 <<< ((1 : Int32) &&& 31)) h_81) (fun v_91 h_91 e_91 => ?_)
  show DOk _ _ _ _ _ ((if v_91 = -1 then Value.null else .ref v_91.toNatClampNeg) :: [.ref this]) _ _
  refine dk_rr (fun r_91 => ?_)
  refine dk_putRF (o := (some r_91)) 97 dJ0_init_db425_94 rfl rfl rfl rfl F_java_lang_String_9 rfl pZ_14_0 (fun q => nr_a q) (fun q => ft_a q) (fun h_94 _ => ?_)
  exact dk_vret dJ0_init_db425_97 rfl

set_option maxRecDepth 100000 in
set_option maxHeartbeats 4000000 in
theorem dg_J0_init_db425 (N d : Nat) (this : Nat) (a1 : Nat) (h : DS) : DOk SX (d + 3) m_J0_init_db425 0 [some (.ref this), some (.ref a1), some (.null), none, none] [] h (g_J0_init_db425 N this a1 h) := by
  unfold g_J0_init_db425
  refine dk_aload_n 1 0 dJ0_init_db425_0 rfl rfl rfl ?_
  refine dk_objInit 4 dJ0_init_db425_1 rfl rfl ml_java_lang_String_1 (Nat.le_of_ble_eq_true rfl) ?_
  refine dk_aload_n 5 1 dJ0_init_db425_4 rfl rfl rfl ?_
  refine dk_callU (M0 := x) (np := 0) (M' := m_J5_getValue_6d5f1) (As := []) (st := []) 8 dJ0_init_db425_5 rfl rfl km_J5_getValue_6d5f1 ki_J5_getValue_6d5f1 kw_J5_getValue_6d5f1 sm_java_lang_AbstractStringBuilder_getValue____B ml_java_lang_String_552 (by decide) rfl rfl (Nat.le_of_ble_eq_true rfl) (dc_J5_getValue_6d5f1 N (d + 2) a1 h) (fun v_5 h_5 e_5 => ?_)
  show DOk _ _ _ _ _ ((if v_5 = -1 then Value.null else .ref v_5.toNatClampNeg) :: []) _ _
  refine dk_rr (fun r_5 => ?_)
  refine dk_astore_n 9 3 [some (.ref this), some (.ref a1), some (.null), some (.ref r_5), none] dJ0_init_db425_8 rfl rfl (by decide) rfl ?_
  refine dk_aload_n 10 1 dJ0_init_db425_9 rfl rfl rfl ?_
  refine dk_callO (np := 0) (M' := m_J4_length_8abf5) (As := []) (st := []) (x0 := m_J5_length_8abf5.2.1) 13 dJ0_init_db425_10 rfl rfl km_J5_length_8abf5 km_J4_length_8abf5 ki_J5_length_8abf5 ki_J4_length_8abf5 kw_J5_length_8abf5 sm_java_lang_AbstractStringBuilder_length___I ml_java_lang_String_549 (by decide) rfl rfl rfl rfl rfl (Nat.le_of_ble_eq_true rfl) (dc_J4_length_8abf5 N (d + 1) a1 h_5) (fun v_10 h_10 e_10 => ?_)
  show DOk _ _ _ _ _ (.int v_10 :: []) _ _
  refine dk_istore 15 4 [some (.ref this), some (.ref a1), some (.null), some (.ref r_5), some (.int v_10)] dJ0_init_db425_13 rfl (by decide) rfl ?_
  refine dk_aload_n 16 1 dJ0_init_db425_15 rfl rfl rfl ?_
  refine dk_callU (M0 := x) (np := 0) (M' := m_J5_isLatin1_aae02) (As := []) (st := []) 19 dJ0_init_db425_16 rfl rfl km_J5_isLatin1_aae02 ki_J5_isLatin1_aae02 kw_J5_isLatin1_aae02 sm_java_lang_AbstractStringBuilder_isLatin1___Z ml_java_lang_String_1047 (by decide) rfl rfl (Nat.le_of_ble_eq_true rfl) (dc_J5_isLatin1_aae02 N (d + 2) a1 h_10) (fun v_16 h_16 e_16 => ?_)
  show DOk _ _ _ _ _ (.int v_16 :: []) _ _
  refine dk_if_eq 41 22 dJ0_init_db425_19 (by decide) rfl (fun _ => ?_) (fun _ => ?_)
  · refine dk_getsC 44 dJ0_init_db425_41 rfl rfl fl_java_lang_String_38 ?_
    refine dk_if_eq 79 47 dJ0_init_db425_44 (by decide) rfl (fun _ => ?_) (fun _ => ?_)
    · exact dk_less [some (.ref this), none, none, some (.ref r_5), some (.int v_10)] (And.intro rfl (And.intro rfl (And.intro rfl (trivial)))) (dj_J0_init_db425_J79 (SX := SX) N d this a1 r_5 v_10 h_16)
    · refine dk_aload_n 48 1 dJ0_init_db425_47 rfl rfl rfl ?_
      refine dk_getI 51 dJ0_init_db425_48 rfl rfl F_java_lang_String_1048 (fun a_48 _ => ?_)
      refine dk_if_eq 79 54 dJ0_init_db425_51 (by decide) rfl (fun _ => ?_) (fun _ => ?_)
      · exact dk_less [some (.ref this), none, none, some (.ref r_5), some (.int v_10)] (And.intro rfl (And.intro rfl (And.intro rfl (trivial)))) (dj_J0_init_db425_J79 (SX := SX) N d this a1 r_5 v_10 h_16)
      · refine dk_aload_n 55 0 dJ0_init_db425_54 rfl rfl rfl ?_
        refine dk_aload_n 56 3 dJ0_init_db425_55 rfl rfl rfl ?_
        refine dk_iconst 57 0 dJ0_init_db425_56 rfl rfl ?_
        refine dk_iload 59 4 dJ0_init_db425_57 rfl rfl ?_
        exact DOk.nil
  · refine dk_aload_n 23 0 dJ0_init_db425_22 rfl rfl rfl ?_
    refine dk_iconst 24 0 dJ0_init_db425_23 rfl rfl ?_
    refine dk_putIF 27 dJ0_init_db425_24 rfl rfl rfl rfl F_java_lang_String_15 rfl pZ_14_1 rfl rfl (fun h_24 _ => ?_)
    refine dk_aload_n 28 0 dJ0_init_db425_27 rfl rfl rfl ?_
    refine dk_aload_n 29 3 dJ0_init_db425_28 rfl rfl rfl ?_
    refine dk_iconst 30 0 dJ0_init_db425_29 rfl rfl ?_
    refine dk_iload 32 4 dJ0_init_db425_30 rfl rfl ?_
    refine dk_callS (np := 3) (M' := m_J7_copyOfRange_39247) (As := [.ref r_5, .int 0, .int v_10]) (st := [.ref this]) 35 dJ0_init_db425_32 rfl rfl km_J7_copyOfRange_39247 ks_J7_copyOfRange_39247 ml_java_lang_String_54 (by decide) rfl rfl (Nat.le_of_ble_eq_true rfl) (dc_J7_copyOfRange_39247 N (d + 0) r_5 (0 : Int32) v_10 h_24) (fun v_32 h_32 e_32 => ?_)
    show DOk _ _ _ _ _ ((if v_32 = -1 then Value.null else .ref v_32.toNatClampNeg) :: [.ref this]) _ _
    refine dk_rr (fun r_32 => ?_)
    refine dk_putRF (o := (some r_32)) 38 dJ0_init_db425_35 rfl rfl rfl rfl F_java_lang_String_9 rfl pZ_14_0 (fun q => nr_a q) (fun q => ft_a q) (fun h_35 _ => ?_)
    refine dk_goto 97 dJ0_init_db425_38 (by decide) ?_
    exact dk_vret dJ0_init_db425_97 rfl

theorem dc_J0_init_db425 (N d : Nat) (this : Nat) (a1 : Nat) (h : DS) : DCM SX (d + 3) m_J0_init_db425 [.ref this, .ref a1, .null] h (g_J0_init_db425 N this a1 h) :=
  DCM.ofDOk km_J0_init_db425 (by simp [Value.category]) (Nat.le_of_ble_eq_true rfl) (dg_J0_init_db425 N d this a1 h)

def g_J0_init_81219 (N : Nat) (this : Nat) (a1 : Nat) (h : DS) : DA :=
bd3 (g_J0_init_db425 N this a1 h) fun v_3 h_3 =>
some (0, h_3)

set_option maxRecDepth 100000 in
set_option maxHeartbeats 4000000 in
theorem dg_J0_init_81219 (N d : Nat) (this : Nat) (a1 : Nat) (h : DS) : DOk SX (d + 4) m_J0_init_81219 0 [some (.ref this), some (.ref a1)] [] h (g_J0_init_81219 N this a1 h) := by
  unfold g_J0_init_81219
  refine dk_aload_n 1 0 dJ0_init_81219_0 rfl rfl rfl ?_
  refine dk_aload_n 2 1 dJ0_init_81219_1 rfl rfl rfl ?_
  refine dk_null 3 dJ0_init_81219_2 rfl ?_
  refine dk_callI (np := 2) (M' := m_J0_init_db425) (As := [.ref a1, .null]) (st := []) 6 dJ0_init_81219_3 rfl rfl km_J0_init_db425 ki_J0_init_db425 ml_java_lang_String_489 (by decide) rfl rfl rfl rfl (Nat.le_of_ble_eq_true rfl) (dc_J0_init_db425 N (d + 0) this a1 h) (fun v_3 h_3 e_3 => ?_)
  exact dk_vret dJ0_init_81219_6 rfl

theorem dc_J0_init_81219 (N d : Nat) (this : Nat) (a1 : Nat) (h : DS) : DCM SX (d + 4) m_J0_init_81219 [.ref this, .ref a1] h (g_J0_init_81219 N this a1 h) :=
  DCM.ofDOk km_J0_init_81219 (by simp [Value.category]) (Nat.le_of_ble_eq_true rfl) (dg_J0_init_81219 N d this a1 h)

def g_J0_isLatin1_aae02 (N : Nat) (this : Nat) (h : DS) : DA :=
if (1 : Int32) = 0 then (some ((0 : Int32), h))
else (bo (bC h this) fun a_7 =>
if a_7 = 0 then (some ((1 : Int32), h))
else (some ((0 : Int32), h)))

set_option maxRecDepth 100000 in
set_option maxHeartbeats 4000000 in
theorem dg_J0_isLatin1_aae02 (N d : Nat) (this : Nat) (h : DS) : DOk SX (d + 0) m_J0_isLatin1_aae02 0 [some (.ref this)] [] h (g_J0_isLatin1_aae02 N this h) := by
  unfold g_J0_isLatin1_aae02
  refine dk_getsC 3 dJ0_isLatin1_aae02_0 rfl rfl fl_java_lang_String_38 ?_
  refine dk_if_eq 17 6 dJ0_isLatin1_aae02_3 (by decide) rfl (fun _ => ?_) (fun _ => ?_)
  · refine dk_iconst 18 0 dJ0_isLatin1_aae02_17 rfl rfl ?_
    exact dk_zretc dJ0_isLatin1_aae02_18 rfl rfl
  · refine dk_aload_n 7 0 dJ0_isLatin1_aae02_6 rfl rfl rfl ?_
    refine dk_getSC 10 dJ0_isLatin1_aae02_7 rfl rfl F_java_lang_String_15 (fun a_7 _ => ?_)
    refine dk_if_ne 17 13 dJ0_isLatin1_aae02_10 (by decide) rfl (fun _ => ?_) (fun _ => ?_)
    · refine dk_iconst 18 0 dJ0_isLatin1_aae02_17 rfl rfl ?_
      exact dk_zretc dJ0_isLatin1_aae02_18 rfl rfl
    · refine dk_iconst 14 1 dJ0_isLatin1_aae02_13 rfl rfl ?_
      refine dk_goto 18 dJ0_isLatin1_aae02_14 (by decide) ?_
      exact dk_zretc dJ0_isLatin1_aae02_18 rfl rfl

theorem dc_J0_isLatin1_aae02 (N d : Nat) (this : Nat) (h : DS) : DCM SX (d + 0) m_J0_isLatin1_aae02 [.ref this] h (g_J0_isLatin1_aae02 N this h) :=
  DCM.ofDOk km_J0_isLatin1_aae02 (by simp [Value.category]) (Nat.le_of_ble_eq_true rfl) (dg_J0_isLatin1_aae02 N d this h)

def g_J1_charAt_3b067 (N : Nat) (a0 : Nat) (a1 : Int32) (h : DS) : DA :=
bo (bN h a0) fun c_2 =>
bdX (f_J0_checkIndex_df160 N a1 (Int32.ofNat c_2) h.1) h fun v_3 h_3 =>
bo (bG h_3 a0 a1) fun a_8 =>
chk (isC (((a_8 &&& (255 : Int32)).toUInt32 % 65536).toInt32)) (some ((((a_8 &&& (255 : Int32)).toUInt32 % 65536).toInt32), h_3))

set_option maxRecDepth 100000 in
set_option maxHeartbeats 4000000 in
theorem dg_J1_charAt_3b067 (N d : Nat) (a0 : Nat) (a1 : Int32) (h : DS) : DOk SX (d + 2) m_J1_charAt_3b067 0 [some (.ref a0), some (.int a1)] [] h (g_J1_charAt_3b067 N a0 a1 h) := by
  unfold g_J1_charAt_3b067
  refine dk_iload_n 1 1 dJ1_charAt_3b067_0 rfl rfl rfl ?_
  refine dk_aload_n 2 0 dJ1_charAt_3b067_1 rfl rfl rfl ?_
  refine dk_blen 3 dJ1_charAt_3b067_2 rfl (fun c_2 _ => ?_)
  refine dk_callXS (np := 2) (M' := m_J0_checkIndex_df160) (As := [.int a1, .int (Int32.ofNat c_2)]) (st := []) 6 dJ1_charAt_3b067_3 rfl rfl km_J0_checkIndex_df160 ks_J0_checkIndex_df160 ml_java_lang_StringLatin1_9 (by decide) rfl rfl (fun k hk => by simp at hk) (Nat.le_of_ble_eq_true rfl) (c_J0_checkIndex_df160 N (d + 0) a1 (Int32.ofNat c_2) h.1) (fun _ h => by cases h) (fun v_3 n_3 e_3 => ?_)
  generalize pat h n_3 = h_3
  show DOk _ _ _ _ _ [] _ _
  refine dk_aload_n 7 0 dJ1_charAt_3b067_6 rfl rfl rfl ?_
  refine dk_iload_n 8 1 dJ1_charAt_3b067_7 rfl rfl rfl ?_
  refine dk_bald 9 dJ1_charAt_3b067_8 rfl (fun a_8 _ => ?_)
  refine dk_sipush 12 255 dJ1_charAt_3b067_9 rfl rfl ?_
  refine dk_iand 13 dJ1_charAt_3b067_12 rfl ?_
  refine dk_i2c 14 dJ1_charAt_3b067_13 rfl ?_
  exact dk_cret dJ1_charAt_3b067_14 rfl

theorem dc_J1_charAt_3b067 (N d : Nat) (a0 : Nat) (a1 : Int32) (h : DS) : DCM SX (d + 2) m_J1_charAt_3b067 [.ref a0, .int a1] h (g_J1_charAt_3b067 N a0 a1 h) :=
  DCM.ofDOk km_J1_charAt_3b067 (by simp [Value.category]) (Nat.le_of_ble_eq_true rfl) (dg_J1_charAt_3b067 N d a0 a1 h)

def g_J0_charAt_5068e (N : Nat) (this : Nat) (a1 : Int32) (h : DS) : DA :=
chk (strB h this) <| bd3 (g_J0_isLatin1_aae02 N this h) fun v_1 h_1 =>
if v_1 = 0 then (bo (bV h_1 this) fun r_17 =>
none)
else (bo (bV h_1 this) fun r_8 =>
bd3 (g_J1_charAt_3b067 N r_8 a1 h_1) fun v_12 h_12 =>
chk (isC v_12) (some (v_12, h_12)))

set_option maxRecDepth 100000 in
set_option maxHeartbeats 4000000 in
theorem dg_J0_charAt_5068e (N d : Nat) (this : Nat) (a1 : Int32) (h : DS) : DOk SX (d + 3) m_J0_charAt_5068e 0 [some (.ref this), some (.int a1)] [] h (g_J0_charAt_5068e N this a1 h) := by
  unfold g_J0_charAt_5068e
  refine dk_aload_n 1 0 dJ0_charAt_5068e_0 rfl rfl rfl ?_
  refine dk_callStr (np := 0) (M' := m_J0_isLatin1_aae02) (As := []) (st := []) 4 dJ0_charAt_5068e_1 rfl rfl km_J0_isLatin1_aae02 ki_J0_isLatin1_aae02 kv_J0_isLatin1_aae02 ml_java_lang_String_492 (by decide) rfl rfl rfl (Nat.le_of_ble_eq_true rfl) (dc_J0_isLatin1_aae02 N (d + 2) this h) (fun v_1 h_1 e_1 => ?_)
  show DOk _ _ _ _ _ (.int v_1 :: []) _ _
  refine dk_if_eq 16 7 dJ0_charAt_5068e_4 (by decide) rfl (fun _ => ?_) (fun _ => ?_)
  · refine dk_aload_n 17 0 dJ0_charAt_5068e_16 rfl rfl rfl ?_
    refine dk_getSV 20 dJ0_charAt_5068e_17 rfl rfl F_java_lang_String_9 (fun r_17 _ => ?_)
    refine dk_iload_n 21 1 dJ0_charAt_5068e_20 rfl rfl rfl ?_
    exact DOk.nil
  · refine dk_aload_n 8 0 dJ0_charAt_5068e_7 rfl rfl rfl ?_
    refine dk_getSV 11 dJ0_charAt_5068e_8 rfl rfl F_java_lang_String_9 (fun r_8 _ => ?_)
    refine dk_iload_n 12 1 dJ0_charAt_5068e_11 rfl rfl rfl ?_
    refine dk_callS (np := 2) (M' := m_J1_charAt_3b067) (As := [.ref r_8, .int a1]) (st := []) 15 dJ0_charAt_5068e_12 rfl rfl km_J1_charAt_3b067 ks_J1_charAt_3b067 ml_java_lang_String_495 (by decide) rfl rfl (Nat.le_of_ble_eq_true rfl) (dc_J1_charAt_3b067 N (d + 0) r_8 a1 h_1) (fun v_12 h_12 e_12 => ?_)
    show DOk _ _ _ _ _ (.int v_12 :: []) _ _
    exact dk_cret dJ0_charAt_5068e_15 rfl

theorem dc_J0_charAt_5068e (N d : Nat) (this : Nat) (a1 : Int32) (h : DS) : DCM SX (d + 3) m_J0_charAt_5068e [.ref this, .int a1] h (g_J0_charAt_5068e N this a1 h) :=
  DCM.ofDOk km_J0_charAt_5068e (by simp [Value.category]) (Nat.le_of_ble_eq_true rfl) (dg_J0_charAt_5068e N d this a1 h)

def g_J4_init_da8c8 (N : Nat) (this : Nat) (h : DS) : DA :=
bd3 (g_J5_init_d00df N this (16 : Int32) h) fun v_3 h_3 =>
some (0, h_3)

set_option maxRecDepth 100000 in
set_option maxHeartbeats 4000000 in
theorem dg_J4_init_da8c8 (N d : Nat) (this : Nat) (h : DS) : DOk SX (d + 2) m_J4_init_da8c8 0 [some (.ref this)] [] h (g_J4_init_da8c8 N this h) := by
  unfold g_J4_init_da8c8
  refine dk_aload_n 1 0 dJ4_init_da8c8_0 rfl rfl rfl ?_
  refine dk_bipush 3 16 dJ4_init_da8c8_1 rfl rfl ?_
  refine dk_callI (np := 1) (M' := m_J5_init_d00df) (As := [.int 16]) (st := []) 6 dJ4_init_da8c8_3 rfl rfl km_J5_init_d00df ki_J5_init_d00df ml_java_lang_StringBuilder_1 (by decide) rfl rfl rfl rfl (Nat.le_of_ble_eq_true rfl) (dc_J5_init_d00df N (d + 0) this (16 : Int32) h) (fun v_3 h_3 e_3 => ?_)
  exact dk_vret dJ4_init_da8c8_6 rfl

theorem dc_J4_init_da8c8 (N d : Nat) (this : Nat) (h : DS) : DCM SX (d + 2) m_J4_init_da8c8 [.ref this] h (g_J4_init_da8c8 N this h) :=
  DCM.ofDOk km_J4_init_da8c8 (by simp [Value.category]) (Nat.le_of_ble_eq_true rfl) (dg_J4_init_da8c8 N d this h)

def g_J4_append_15ec4 (N : Nat) (this : Nat) (a1 : Nat) (h : DS) : DA :=
chk (isT h 13 this) <| bd3 (g_J5_append_cf1ce N this a1 h) fun v_2 h_2 =>
chk (decide (v_2 ≠ -1)) <| bnd v_2.toNatClampNeg fun r_2 =>
chk (decide (this < 2 ^ 31)) (some (nI this, h_2))

set_option maxRecDepth 100000 in
set_option maxHeartbeats 4000000 in
theorem dg_J4_append_15ec4 (N d : Nat) (this : Nat) (a1 : Nat) (h : DS) : DOk SX (d + 5) m_J4_append_15ec4 0 [some (.ref this), some (.ref a1)] [] h (g_J4_append_15ec4 N this a1 h) := by
  unfold g_J4_append_15ec4
  refine dk_aload_n 1 0 dJ4_append_15ec4_0 rfl rfl rfl ?_
  refine dk_aload_n 2 1 dJ4_append_15ec4_1 rfl rfl rfl ?_
  refine dk_callSU (np := 1) (M' := m_J5_append_cf1ce) (As := [.ref a1]) (st := []) 5 dJ4_append_15ec4_2 rfl rfl km_J5_append_cf1ce ki_J5_append_cf1ce sm_java_lang_AbstractStringBuilder_append__Ljava_lang_String__Ljava_lang_AbstractStringBuilder_ rfl (by decide) ml_java_lang_StringBuilder_29 (by decide) rfl rfl (Nat.le_of_ble_eq_true rfl) (dc_J5_append_cf1ce N (d + 0) this a1 h) (fun v_2 h_2 e_2 => ?_)
  show DOk _ _ _ _ _ ((if v_2 = -1 then Value.null else .ref v_2.toNatClampNeg) :: []) _ _
  refine dk_rr (fun r_2 => ?_)
  refine dk_pop 6 dJ4_append_15ec4_5 rfl rfl ?_
  refine dk_aload_n 7 0 dJ4_append_15ec4_6 rfl rfl rfl ?_
  exact dk_aret dJ4_append_15ec4_7 rfl (Or.inl ⟨_, rfl⟩)

theorem dc_J4_append_15ec4 (N d : Nat) (this : Nat) (a1 : Nat) (h : DS) : DCM SX (d + 5) m_J4_append_15ec4 [.ref this, .ref a1] h (g_J4_append_15ec4 N this a1 h) :=
  DCM.ofDOk km_J4_append_15ec4 (by simp [Value.category]) (Nat.le_of_ble_eq_true rfl) (dg_J4_append_15ec4 N d this a1 h)

def g_J4_append_bf812 (N : Nat) (this : Nat) (a1 : Int32) (h : DS) : DA :=
chk (isT h 13 this) <| bd3 (g_J5_append_c97b9 N this a1 h) fun v_2 h_2 =>
chk (decide (v_2 ≠ -1)) <| bnd v_2.toNatClampNeg fun r_2 =>
chk (decide (this < 2 ^ 31)) (some (nI this, h_2))

set_option maxRecDepth 100000 in
set_option maxHeartbeats 4000000 in
theorem dg_J4_append_bf812 (N d : Nat) (this : Nat) (a1 : Int32) (h : DS) : DOk SX (d + 5) m_J4_append_bf812 0 [some (.ref this), some (.int a1)] [] h (g_J4_append_bf812 N this a1 h) := by
  unfold g_J4_append_bf812
  refine dk_aload_n 1 0 dJ4_append_bf812_0 rfl rfl rfl ?_
  refine dk_iload_n 2 1 dJ4_append_bf812_1 rfl rfl rfl ?_
  refine dk_callSU (np := 1) (M' := m_J5_append_c97b9) (As := [.int a1]) (st := []) 5 dJ4_append_bf812_2 rfl rfl km_J5_append_c97b9 ki_J5_append_c97b9 sm_java_lang_AbstractStringBuilder_append__I_Ljava_lang_AbstractStringBuilder_ rfl (by decide) ml_java_lang_StringBuilder_53 (by decide) rfl rfl (Nat.le_of_ble_eq_true rfl) (dc_J5_append_c97b9 N (d + 0) this a1 h) (fun v_2 h_2 e_2 => ?_)
  show DOk _ _ _ _ _ ((if v_2 = -1 then Value.null else .ref v_2.toNatClampNeg) :: []) _ _
  refine dk_rr (fun r_2 => ?_)
  refine dk_pop 6 dJ4_append_bf812_5 rfl rfl ?_
  refine dk_aload_n 7 0 dJ4_append_bf812_6 rfl rfl rfl ?_
  exact dk_aret dJ4_append_bf812_7 rfl (Or.inl ⟨_, rfl⟩)

theorem dc_J4_append_bf812 (N d : Nat) (this : Nat) (a1 : Int32) (h : DS) : DCM SX (d + 5) m_J4_append_bf812 [.ref this, .int a1] h (g_J4_append_bf812 N this a1 h) :=
  DCM.ofDOk km_J4_append_bf812 (by simp [Value.category]) (Nat.le_of_ble_eq_true rfl) (dg_J4_append_bf812 N d this a1 h)

def g_J4_toString_0e30d (N : Nat) (this : Nat) (h : DS) : DA :=
bo (nO h 14 4) fun h_0 =>
bd3 (g_J0_init_81219 N h.2.1.length this h_0) fun v_5 h_5 =>
chk (decide (h.2.1.length < 2 ^ 31)) (some (nI h.2.1.length, h_5))

set_option maxRecDepth 100000 in
set_option maxHeartbeats 4000000 in
theorem dg_J4_toString_0e30d (N d : Nat) (this : Nat) (h : DS) : DOk SX (d + 5) m_J4_toString_0e30d 0 [some (.ref this)] [] h (g_J4_toString_0e30d N this h) := by
  unfold g_J4_toString_0e30d
  refine dk_new (ty := ty14) (ci := 14) 3 dJ4_toString_0e30d_0 rfl rfl kl_java_lang_StringBuilder_18 in_java_lang_String wi_java_lang_String (by decide) rfl ty14_ok dv_14 (fun h_0 _ => ?_)
  refine dk_dup 4 dJ4_toString_0e30d_3 rfl rfl ?_
  refine dk_aload_n 5 0 dJ4_toString_0e30d_4 rfl rfl rfl ?_
  refine dk_callI (np := 1) (M' := m_J0_init_81219) (As := [.ref this]) (st := [.ref h.2.1.length]) 8 dJ4_toString_0e30d_5 rfl rfl km_J0_init_81219 ki_J0_init_81219 ml_java_lang_StringBuilder_137 (by decide) rfl rfl rfl rfl (Nat.le_of_ble_eq_true rfl) (dc_J0_init_81219 N (d + 0) h.2.1.length this h_0) (fun v_5 h_5 e_5 => ?_)
  exact dk_aret dJ4_toString_0e30d_8 rfl (Or.inl ⟨_, rfl⟩)

theorem dc_J4_toString_0e30d (N d : Nat) (this : Nat) (h : DS) : DCM SX (d + 5) m_J4_toString_0e30d [.ref this] h (g_J4_toString_0e30d N this h) :=
  DCM.ofDOk km_J4_toString_0e30d (by simp [Value.category]) (Nat.le_of_ble_eq_true rfl) (dg_J4_toString_0e30d N d this h)

def g_L_cell (N : Nat) (Lc : Nat) (xs : Nat → Int32) (a1 : Int32) (h : DS) : DA :=
if (Int32.ofNat Lc) ≤ a1 then (some ((((661 : Int32) * a1) + (659 : Int32)), h))
else (chk (inb a1 Lc) <|
some ((xs (a1).toNatClampNeg), h))

set_option maxRecDepth 100000 in
set_option maxHeartbeats 4000000 in
theorem dg_L_cell (N d : Nat) (Lc : Nat) (xs : Nat → Int32) (a1 : Int32) (h : DS) : DOk (some (Lc, xs)) (d + 0) m_L_cell 0 [some (.ref 1003000), some (.int a1)] [] h (g_L_cell N Lc xs a1 h) := by
  unfold g_L_cell
  refine dk_iload_n 1 1 dL_cell_0 rfl rfl rfl ?_
  refine dk_aload_n 2 0 dL_cell_1 rfl rfl rfl ?_
  refine dk_scrL 3 dL_cell_2 rfl ?_
  refine dk_icmp_ge 12 6 dL_cell_3 (by decide) rfl (fun _ => ?_) (fun _ => ?_)
  · refine dk_sipush 15 661 dL_cell_12 rfl rfl ?_
    refine dk_iload_n 16 1 dL_cell_15 rfl rfl rfl ?_
    refine dk_imul 17 dL_cell_16 rfl ?_
    refine dk_sipush 20 659 dL_cell_17 rfl rfl ?_
    refine dk_iadd 21 dL_cell_20 rfl ?_
    exact dk_iret dL_cell_21 rfl
  · refine dk_aload_n 7 0 dL_cell_6 rfl rfl rfl ?_
    refine dk_iload_n 8 1 dL_cell_7 rfl rfl rfl ?_
    refine dk_scrI 9 dL_cell_8 rfl ?_
    refine dk_goto 21 dL_cell_9 (by decide) ?_
    exact dk_iret dL_cell_21 rfl

theorem dc_L_cell (N d : Nat) (Lc : Nat) (xs : Nat → Int32) (a1 : Int32) (h : DS) : DCM (some (Lc, xs)) (d + 0) m_L_cell [.ref 1003000, .int a1] h (g_L_cell N Lc xs a1 h) :=
  DCM.ofDOk km_L_cell (by simp [Value.category]) (Nat.le_of_ble_eq_true rfl) (dg_L_cell N d Lc xs a1 h)

def g_L_between (N : Nat) (a0 : Int32) (a1 : Int32) (a2 : Int32) (h : DS) : DA :=
chk (decide (((a2 - a1) + (1 : Int32)) ≠ 0)) <|
some ((a1 + (irm (a0 &&& (1048575 : Int32)) ((a2 - a1) + (1 : Int32)))), h)

set_option maxRecDepth 100000 in
set_option maxHeartbeats 4000000 in
theorem dg_L_between (N d : Nat) (a0 : Int32) (a1 : Int32) (a2 : Int32) (h : DS) : DOk SX (d + 0) m_L_between 0 [some (.int a0), some (.int a1), some (.int a2)] [] h (g_L_between N a0 a1 a2 h) := by
  unfold g_L_between
  refine dk_iload_n 1 1 dL_between_0 rfl rfl rfl ?_
  refine dk_iload_n 2 0 dL_between_1 rfl rfl rfl ?_
  refine dk_ldc 4 1048575 dL_between_2 rfl rfl cn_EncoresLaw_7 ?_
  refine dk_iand 5 dL_between_4 rfl ?_
  refine dk_iload_n 6 2 dL_between_5 rfl rfl rfl ?_
  refine dk_iload_n 7 1 dL_between_6 rfl rfl rfl ?_
  refine dk_isub 8 dL_between_7 rfl ?_
  refine dk_iconst 9 1 dL_between_8 rfl rfl ?_
  refine dk_iadd 10 dL_between_9 rfl ?_
  refine dk_irem 11 dL_between_10 rfl ?_
  refine dk_iadd 12 dL_between_11 rfl ?_
  exact dk_iret dL_between_12 rfl

theorem dc_L_between (N d : Nat) (a0 : Int32) (a1 : Int32) (a2 : Int32) (h : DS) : DCM SX (d + 0) m_L_between [.int a0, .int a1, .int a2] h (g_L_between N a0 a1 a2 h) :=
  DCM.ofDOk km_L_between (by simp [Value.category]) (Nat.le_of_ble_eq_true rfl) (dg_L_between N d a0 a1 a2 h)

def g_L_say_L17 (N : Nat) (a1 : Nat) (p2_17 : Int32) (p3_17 : Nat) (K70 : DS → DA) (X : Int32 → DS → DA) (s4_17 : Int32) (h : DS) : DA :=
if (20 : Int32) ≤ s4_17 then (K70 h)
else (bo (lA h 100 p3_17 (s4_17 / (4 : Int32))) fun a_34 =>
chk (strB h a1) <| bd3 (g_J0_length_8abf5 N a1 h) fun v_43 h_43 =>
if v_43 ≤ (p2_17 + s4_17) then (bo (sA h_43 100 p3_17 (s4_17 / (4 : Int32)) ((a_34 <<< ((8 : Int32) &&& 31)) ||| (32 : Int32))) fun h_63 =>
X ((s4_17 + 1)) h_63)
else (chk (strB h_43 a1) <| bd3 (g_J0_charAt_5068e N a1 (p2_17 + s4_17) h_43) fun v_54 h_54 =>
bo (sA h_54 100 p3_17 (s4_17 / (4 : Int32)) ((a_34 <<< ((8 : Int32) &&& 31)) ||| v_54)) fun h_63 =>
X ((s4_17 + 1)) h_63))

def g_L_say_L2 (N : Nat) (a1 : Nat)  (K96 : DS → DA) (X : Int32 → DS → DA) (s2_2 : Int32) (h : DS) : DA :=
chk (strB h a1) <| bd3 (g_J0_length_8abf5 N a1 h) fun v_4 h_4 =>
if v_4 ≤ s2_2 then (K96 h_4)
else (bo (nA h_4 100 (5 : Int32)) fun h_11 =>
jt (fun Y a hz => g_L_say_L17 N a1 s2_2 h_4.2.1.length (fun hk70 => bo (lA hk70 100 h_4.2.1.length (0 : Int32)) fun a_73 =>
bo (lA hk70 100 h_4.2.1.length (1 : Int32)) fun a_76 =>
bo (lA hk70 100 h_4.2.1.length (2 : Int32)) fun a_79 =>
bo (lA hk70 100 h_4.2.1.length (3 : Int32)) fun a_82 =>
bo (lA hk70 100 h_4.2.1.length (4 : Int32)) fun a_85 =>
chk (isT hk70 11 0) <| bdX (f_X11_feed N a_73 a_76 a_79 a_82 a_85 hk70.1) hk70 fun v_86 hh_86 => bnd (gs (f_X12_feed N a_73 a_76 a_79 a_82 a_85) hh_86) fun h_86 =>
X ((s2_2 + 20)) h_86) Y a hz) N (0) h_11)

def g_L_say (N : Nat) (a1 : Nat) (h : DS) : DA :=
jt (fun Y a hz => g_L_say_L2 N a1  (fun hk96 => chk (strB hk96 a1) <| bd3 (g_J0_length_8abf5 N a1 hk96) fun v_97 h_97 =>
if v_97 ≤ 0 then (some (0, h_97))
else (chk (strB h_97 a1) <| bd3 (g_J0_length_8abf5 N a1 h_97) fun v_105 h_105 =>
chk (isT h_105 11 0) <| bdX (f_X11_end N v_105 h_105.1) h_105 fun v_108 hh_108 => bnd (gs (f_X12_end N v_105) hh_108) fun h_108 =>
some (0, h_108))) Y a hz) N (0) h

set_option maxRecDepth 100000 in
set_option maxHeartbeats 4000000 in
theorem db_L_say_L17 (N d : Nat) (a1 : Nat) (p2_17 : Int32) (p3_17 : Nat) (K70 : DS → DA) (hK70 : ∀  (h : DS), DOk SX (d + 4) m_L_say 70 [some (.ref 0), some (.ref a1), some (.int p2_17), some (.ref p3_17), none] [] h (K70 h)) (X : Int32 → DS → DA) (hX : ∀ (a : Int32) (h : DS), DOk SX (d + 4) m_L_say 17 [some (.ref 0), some (.ref a1), some (.int p2_17), some (.ref p3_17), some (.int a)] [] h (X a h)) (s4_17 : Int32) (h : DS) : DOk SX (d + 4) m_L_say 17 [some (.ref 0), some (.ref a1), some (.int p2_17), some (.ref p3_17), some (.int s4_17)] [] h (g_L_say_L17 N a1 p2_17 p3_17 K70 X s4_17 h) := by
  unfold g_L_say_L17
  refine dk_iload 19 4 dL_say_17 rfl rfl ?_
  refine dk_bipush 21 20 dL_say_19 rfl rfl ?_
  refine dk_icmp_ge 70 24 dL_say_21 (by decide) rfl (fun _ => ?_) (fun _ => ?_)
  · exact dk_less [some (.ref 0), some (.ref a1), some (.int p2_17), some (.ref p3_17), none] (And.intro rfl (And.intro rfl (And.intro rfl (And.intro rfl (trivial))))) (hK70 h)
  · refine dk_aload_n 25 3 dL_say_24 rfl rfl rfl ?_
    refine dk_iload 27 4 dL_say_25 rfl rfl ?_
    refine dk_iconst 28 4 dL_say_27 rfl rfl ?_
    refine dk_idivc 29 dL_say_28 rfl (by decide) ?_
    refine dk_aload_n 30 3 dL_say_29 rfl rfl rfl ?_
    refine dk_iload 32 4 dL_say_30 rfl rfl ?_
    refine dk_iconst 33 4 dL_say_32 rfl rfl ?_
    refine dk_idivc 34 dL_say_33 rfl (by decide) ?_
    refine dk_iald 35 dL_say_34 rfl (fun a_34 _ => ?_)
    refine dk_bipush 37 8 dL_say_35 rfl rfl ?_
    refine dk_ishl 38 dL_say_37 rfl ?_
    refine dk_iload_n 39 2 dL_say_38 rfl rfl rfl ?_
    refine dk_iload 41 4 dL_say_39 rfl rfl ?_
    refine dk_iadd 42 dL_say_41 rfl ?_
    refine dk_aload_n 43 1 dL_say_42 rfl rfl rfl ?_
    refine dk_callStr (np := 0) (M' := m_J0_length_8abf5) (As := []) (st := [.int (p2_17 + s4_17), .int (a_34 <<< ((8 : Int32) &&& 31)), .int (s4_17 / (4 : Int32)), .ref p3_17]) 46 dL_say_43 rfl rfl km_J0_length_8abf5 ki_J0_length_8abf5 kv_J0_length_8abf5 ml_EncoresLaw_17 (by decide) rfl rfl rfl (Nat.le_of_ble_eq_true rfl) (dc_J0_length_8abf5 N (d + 2) a1 h) (fun v_43 h_43 e_43 => ?_)
    show DOk _ _ _ _ _ (.int v_43 :: [.int (p2_17 + s4_17), .int (a_34 <<< ((8 : Int32) &&& 31)), .int (s4_17 / (4 : Int32)), .ref p3_17]) _ _
    refine dk_icmp_ge 60 49 dL_say_46 (by decide) rfl (fun _ => ?_) (fun _ => ?_)
    · refine dk_bipush 62 32 dL_say_60 rfl rfl ?_
      refine dk_ior 63 dL_say_62 rfl ?_
      refine dk_iast 64 dL_say_63 rfl (fun h_63 _ => ?_)
      refine dk_iinc 67 4 1 [some (.ref 0), some (.ref a1), some (.int p2_17), some (.ref p3_17), some (.int (s4_17 + 1))] dL_say_64 rfl rfl rfl (by decide) rfl ?_
      refine dk_goto 17 dL_say_67 (by decide) ?_
      exact dk_less [some (.ref 0), some (.ref a1), some (.int p2_17), some (.ref p3_17), some (.int (s4_17 + 1))] (And.intro rfl (And.intro rfl (And.intro rfl (And.intro rfl (And.intro rfl (trivial)))))) (hX ((s4_17 + 1)) h_63)
    · refine dk_aload_n 50 1 dL_say_49 rfl rfl rfl ?_
      refine dk_iload_n 51 2 dL_say_50 rfl rfl rfl ?_
      refine dk_iload 53 4 dL_say_51 rfl rfl ?_
      refine dk_iadd 54 dL_say_53 rfl ?_
      refine dk_callStr (np := 1) (M' := m_J0_charAt_5068e) (As := [.int (p2_17 + s4_17)]) (st := [.int (a_34 <<< ((8 : Int32) &&& 31)), .int (s4_17 / (4 : Int32)), .ref p3_17]) 57 dL_say_54 rfl rfl km_J0_charAt_5068e ki_J0_charAt_5068e kv_J0_charAt_5068e ml_EncoresLaw_23 (by decide) rfl rfl rfl (Nat.le_of_ble_eq_true rfl) (dc_J0_charAt_5068e N (d + 0) a1 (p2_17 + s4_17) h_43) (fun v_54 h_54 e_54 => ?_)
      show DOk _ _ _ _ _ (.int v_54 :: [.int (a_34 <<< ((8 : Int32) &&& 31)), .int (s4_17 / (4 : Int32)), .ref p3_17]) _ _
      refine dk_goto 62 dL_say_57 (by decide) ?_
      refine dk_ior 63 dL_say_62 rfl ?_
      refine dk_iast 64 dL_say_63 rfl (fun h_63 _ => ?_)
      refine dk_iinc 67 4 1 [some (.ref 0), some (.ref a1), some (.int p2_17), some (.ref p3_17), some (.int (s4_17 + 1))] dL_say_64 rfl rfl rfl (by decide) rfl ?_
      refine dk_goto 17 dL_say_67 (by decide) ?_
      exact dk_less [some (.ref 0), some (.ref a1), some (.int p2_17), some (.ref p3_17), some (.int (s4_17 + 1))] (And.intro rfl (And.intro rfl (And.intro rfl (And.intro rfl (And.intro rfl (trivial)))))) (hX ((s4_17 + 1)) h_63)

set_option maxRecDepth 100000 in
set_option maxHeartbeats 4000000 in
theorem dl_L_say_L17 (N d : Nat) (a1 : Nat) (p2_17 : Int32) (p3_17 : Nat) (K70 : DS → DA) (hK70 : ∀  (h : DS), DOk SX (d + 4) m_L_say 70 [some (.ref 0), some (.ref a1), some (.int p2_17), some (.ref p3_17), none] [] h (K70 h)) : ∀ (n : Nat) (a : Int32) (h : DS), DOk SX (d + 4) m_L_say 17 [some (.ref 0), some (.ref a1), some (.int p2_17), some (.ref p3_17), some (.int a)] [] h (jt (fun Y a hz => g_L_say_L17 N a1 p2_17 p3_17 K70 Y a hz) n a h) :=
  dk_jt (fun a => [some (.ref 0), some (.ref a1), some (.int p2_17), some (.ref p3_17), some (.int a)]) (fun X hX a h => db_L_say_L17 (SX := SX) N d a1 p2_17 p3_17 K70 hK70 X hX a h)

set_option maxRecDepth 100000 in
set_option maxHeartbeats 4000000 in
theorem db_L_say_L2 (N d : Nat) (a1 : Nat)  (K96 : DS → DA) (hK96 : ∀  (h : DS), DOk SX (d + 4) m_L_say 96 [some (.ref 0), some (.ref a1), none, none, none] [] h (K96 h)) (X : Int32 → DS → DA) (hX : ∀ (a : Int32) (h : DS), DOk SX (d + 4) m_L_say 2 [some (.ref 0), some (.ref a1), some (.int a), none, none] [] h (X a h)) (s2_2 : Int32) (h : DS) : DOk SX (d + 4) m_L_say 2 [some (.ref 0), some (.ref a1), some (.int s2_2), none, none] [] h (g_L_say_L2 N a1 K96 X s2_2 h) := by
  unfold g_L_say_L2
  refine dk_iload_n 3 2 dL_say_2 rfl rfl rfl ?_
  refine dk_aload_n 4 1 dL_say_3 rfl rfl rfl ?_
  refine dk_callStr (np := 0) (M' := m_J0_length_8abf5) (As := []) (st := [.int s2_2]) 7 dL_say_4 rfl rfl km_J0_length_8abf5 ki_J0_length_8abf5 kv_J0_length_8abf5 ml_EncoresLaw_17 (by decide) rfl rfl rfl (Nat.le_of_ble_eq_true rfl) (dc_J0_length_8abf5 N (d + 2) a1 h) (fun v_4 h_4 e_4 => ?_)
  show DOk _ _ _ _ _ (.int v_4 :: [.int s2_2]) _ _
  refine dk_icmp_ge 96 10 dL_say_7 (by decide) rfl (fun _ => ?_) (fun _ => ?_)
  · exact dk_less [some (.ref 0), some (.ref a1), none, none, none] (And.intro rfl (And.intro rfl (trivial))) (hK96 h_4)
  · refine dk_iconst 11 5 dL_say_10 rfl rfl ?_
    refine dk_newaI 13 dL_say_11 rfl (fun h_11 _ => ?_)
    refine dk_astore_n 14 3 [some (.ref 0), some (.ref a1), some (.int s2_2), some (.ref h_4.2.1.length), none] dL_say_13 rfl rfl (by decide) rfl ?_
    refine dk_iconst 15 0 dL_say_14 rfl rfl ?_
    refine dk_istore 17 4 [some (.ref 0), some (.ref a1), some (.int s2_2), some (.ref h_4.2.1.length), some (.int 0)] dL_say_15 rfl (by decide) rfl ?_
    refine dk_less [some (.ref 0), some (.ref a1), some (.int s2_2), some (.ref h_4.2.1.length), some (.int 0)] (And.intro rfl (And.intro rfl (And.intro rfl (And.intro rfl (And.intro rfl (trivial)))))) ?_
    exact dl_L_say_L17 (SX := SX) N d a1 s2_2 h_4.2.1.length (fun hk70 => bo (lA hk70 100 h_4.2.1.length (0 : Int32)) fun a_73 =>
bo (lA hk70 100 h_4.2.1.length (1 : Int32)) fun a_76 =>
bo (lA hk70 100 h_4.2.1.length (2 : Int32)) fun a_79 =>
bo (lA hk70 100 h_4.2.1.length (3 : Int32)) fun a_82 =>
bo (lA hk70 100 h_4.2.1.length (4 : Int32)) fun a_85 =>
chk (isT hk70 11 0) <| bdX (f_X11_feed N a_73 a_76 a_79 a_82 a_85 hk70.1) hk70 fun v_86 hh_86 => bnd (gs (f_X12_feed N a_73 a_76 a_79 a_82 a_85) hh_86) fun h_86 =>
X ((s2_2 + 20)) h_86) (fun hk70 => by
        refine dk_aload_n 71 0 dL_say_70 rfl rfl rfl ?_
        refine dk_aload_n 72 3 dL_say_71 rfl rfl rfl ?_
        refine dk_iconst 73 0 dL_say_72 rfl rfl ?_
        refine dk_iald 74 dL_say_73 rfl (fun a_73 _ => ?_)
        refine dk_aload_n 75 3 dL_say_74 rfl rfl rfl ?_
        refine dk_iconst 76 1 dL_say_75 rfl rfl ?_
        refine dk_iald 77 dL_say_76 rfl (fun a_76 _ => ?_)
        refine dk_aload_n 78 3 dL_say_77 rfl rfl rfl ?_
        refine dk_iconst 79 2 dL_say_78 rfl rfl ?_
        refine dk_iald 80 dL_say_79 rfl (fun a_79 _ => ?_)
        refine dk_aload_n 81 3 dL_say_80 rfl rfl rfl ?_
        refine dk_iconst 82 3 dL_say_81 rfl rfl ?_
        refine dk_iald 83 dL_say_82 rfl (fun a_82 _ => ?_)
        refine dk_aload_n 84 3 dL_say_83 rfl rfl rfl ?_
        refine dk_iconst 85 4 dL_say_84 rfl rfl ?_
        refine dk_iald 86 dL_say_85 rfl (fun a_85 _ => ?_)
        refine dk_callXV (np := 5) (M' := m_X11_feed) (As := [.int a_73, .int a_76, .int a_79, .int a_82, .int a_85]) (st := []) 89 dL_say_86 rfl rfl km_X11_feed ki_X11_feed kv_X11_feed ml_EncoresLaw_27 (by decide) rfl rfl rfl (fun k hk => by simp at hk) (Nat.le_of_ble_eq_true rfl) (c_X11_feed N (d + 2) a_73 a_76 a_79 a_82 a_85 hk70.1) (fun _ h => by cases h; exact pr_int) (fun v_86 n_86 e_86 => ?_)
        generalize pat hk70 n_86 = hh_86
        refine dk_gs (fun h_86 _ => ?_)
        show DOk _ _ _ _ _ (.int v_86 :: []) _ _
        refine dk_pop 90 dL_say_89 rfl rfl ?_
        refine dk_iinc 93 2 20 [some (.ref 0), some (.ref a1), some (.int (s2_2 + 20)), some (.ref h_4.2.1.length), none] dL_say_90 rfl rfl rfl (by decide) rfl ?_
        refine dk_goto 2 dL_say_93 (by decide) ?_
        exact dk_less [some (.ref 0), some (.ref a1), some (.int (s2_2 + 20)), none, none] (And.intro rfl (And.intro rfl (And.intro rfl (trivial)))) (hX ((s2_2 + 20)) h_86)) N (0) h_11

set_option maxRecDepth 100000 in
set_option maxHeartbeats 4000000 in
theorem dl_L_say_L2 (N d : Nat) (a1 : Nat)  (K96 : DS → DA) (hK96 : ∀  (h : DS), DOk SX (d + 4) m_L_say 96 [some (.ref 0), some (.ref a1), none, none, none] [] h (K96 h)) : ∀ (n : Nat) (a : Int32) (h : DS), DOk SX (d + 4) m_L_say 2 [some (.ref 0), some (.ref a1), some (.int a), none, none] [] h (jt (fun Y a hz => g_L_say_L2 N a1 K96 Y a hz) n a h) :=
  dk_jt (fun a => [some (.ref 0), some (.ref a1), some (.int a), none, none]) (fun X hX a h => db_L_say_L2 (SX := SX) N d a1  K96 hK96 X hX a h)

set_option maxRecDepth 100000 in
set_option maxHeartbeats 4000000 in
theorem dg_L_say (N d : Nat) (a1 : Nat) (h : DS) : DOk SX (d + 4) m_L_say 0 [some (.ref 0), some (.ref a1), none, none, none] [] h (g_L_say N a1 h) := by
  unfold g_L_say
  refine dk_iconst 1 0 dL_say_0 rfl rfl ?_
  refine dk_istore_n 2 2 [some (.ref 0), some (.ref a1), some (.int 0), none, none] dL_say_1 rfl rfl (by decide) rfl ?_
  refine dk_less [some (.ref 0), some (.ref a1), some (.int 0), none, none] (And.intro rfl (And.intro rfl (And.intro rfl (trivial)))) ?_
  exact dl_L_say_L2 (SX := SX) N d a1  (fun hk96 => chk (strB hk96 a1) <| bd3 (g_J0_length_8abf5 N a1 hk96) fun v_97 h_97 =>
if v_97 ≤ 0 then (some (0, h_97))
else (chk (strB h_97 a1) <| bd3 (g_J0_length_8abf5 N a1 h_97) fun v_105 h_105 =>
chk (isT h_105 11 0) <| bdX (f_X11_end N v_105 h_105.1) h_105 fun v_108 hh_108 => bnd (gs (f_X12_end N v_105) hh_108) fun h_108 =>
some (0, h_108))) (fun hk96 => by
      refine dk_aload_n 97 1 dL_say_96 rfl rfl rfl ?_
      refine dk_callStr (np := 0) (M' := m_J0_length_8abf5) (As := []) (st := []) 100 dL_say_97 rfl rfl km_J0_length_8abf5 ki_J0_length_8abf5 kv_J0_length_8abf5 ml_EncoresLaw_17 (by decide) rfl rfl rfl (Nat.le_of_ble_eq_true rfl) (dc_J0_length_8abf5 N (d + 2) a1 hk96) (fun v_97 h_97 e_97 => ?_)
      show DOk _ _ _ _ _ (.int v_97 :: []) _ _
      refine dk_if_le 112 103 dL_say_100 (by decide) rfl (fun _ => ?_) (fun _ => ?_)
      · exact dk_vret dL_say_112 rfl
      · refine dk_aload_n 104 0 dL_say_103 rfl rfl rfl ?_
        refine dk_aload_n 105 1 dL_say_104 rfl rfl rfl ?_
        refine dk_callStr (np := 0) (M' := m_J0_length_8abf5) (As := []) (st := [.ref 0]) 108 dL_say_105 rfl rfl km_J0_length_8abf5 ki_J0_length_8abf5 kv_J0_length_8abf5 ml_EncoresLaw_17 (by decide) rfl rfl rfl (Nat.le_of_ble_eq_true rfl) (dc_J0_length_8abf5 N (d + 2) a1 h_97) (fun v_105 h_105 e_105 => ?_)
        show DOk _ _ _ _ _ (.int v_105 :: [.ref 0]) _ _
        refine dk_callXV (np := 1) (M' := m_X11_end) (As := [.int v_105]) (st := []) 111 dL_say_108 rfl rfl km_X11_end ki_X11_end kv_X11_end ml_EncoresLaw_33 (by decide) rfl rfl rfl (fun k hk => by simp at hk) (Nat.le_of_ble_eq_true rfl) (c_X11_end N (d + 2) v_105 h_105.1) (fun _ h => by cases h; exact pr_bool) (fun v_108 n_108 e_108 => ?_)
        generalize pat h_105 n_108 = hh_108
        refine dk_gs (fun h_108 _ => ?_)
        show DOk _ _ _ _ _ (.int v_108 :: []) _ _
        refine dk_pop 112 dL_say_111 rfl rfl ?_
        exact dk_vret dL_say_112 rfl) N (0) h

theorem dc_L_say (N d : Nat) (a1 : Nat) (h : DS) : DCM SX (d + 4) m_L_say [.ref 0, .ref a1] h (g_L_say N a1 h) :=
  DCM.ofDOk km_L_say (by simp [Value.category]) (Nat.le_of_ble_eq_true rfl) (dg_L_say N d a1 h)

