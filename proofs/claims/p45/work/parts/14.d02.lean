variable {SX : SXT}
def g_X12_does_L2 (N : Nat) (this : Nat) (a1 : Int32) (a2 : Int32)   (X : Int32 → DS → DA) (s3_2 : Int32) (h : DS) : DA :=
chk (isT h 12 this) <| bd3 (g_X12_once N this a1 a2 h) fun v_5 h_5 =>
if v_5 = 0 then (some (s3_2, h_5))
else (X ((s3_2 + 1)) h_5)

def g_X12_does (N : Nat) (this : Nat) (a1 : Int32) (a2 : Int32) (h : DS) : DA :=
jt (fun Y a hz => g_X12_does_L2 N this a1 a2   Y a hz) N (1) h

set_option maxRecDepth 100000 in
set_option maxHeartbeats 4000000 in
theorem db_X12_does_L2 (N d : Nat) (this : Nat) (a1 : Int32) (a2 : Int32)   (X : Int32 → DS → DA) (hX : ∀ (a : Int32) (h : DS), DOk SX (d + 4) m_X12_does 2 [some (.ref this), some (.int a1), some (.int a2), some (.int a)] [] h (X a h)) (s3_2 : Int32) (h : DS) : DOk SX (d + 4) m_X12_does 2 [some (.ref this), some (.int a1), some (.int a2), some (.int s3_2)] [] h (g_X12_does_L2 N this a1 a2 X s3_2 h) := by
  unfold g_X12_does_L2
  refine dk_aload_n 3 0 dX12_does_2 rfl rfl rfl ?_
  refine dk_iload_n 4 1 dX12_does_3 rfl rfl rfl ?_
  refine dk_iload_n 5 2 dX12_does_4 rfl rfl rfl ?_
  refine dk_callV (np := 2) (M' := m_X12_once) (As := [.int a1, .int a2]) (st := []) 12 8 dX12_does_5 rfl rfl km_X12_once ki_X12_once kv_X12_once ml_EncoresLaw_House_133 (by decide) (by decide) rfl rfl rfl (Nat.le_of_ble_eq_true rfl) (dc_X12_once N (d + 0) this a1 a2 h) (fun v_5 h_5 e_5 => ?_)
  show DOk _ _ _ _ _ (.int v_5 :: []) _ _
  refine dk_if_eq 17 11 dX12_does_8 (by decide) rfl (fun _ => ?_) (fun _ => ?_)
  · refine dk_iload_n 18 3 dX12_does_17 rfl rfl rfl ?_
    exact dk_iret dX12_does_18 rfl
  · refine dk_iinc 14 3 1 [some (.ref this), some (.int a1), some (.int a2), some (.int (s3_2 + 1))] dX12_does_11 rfl rfl rfl (by decide) rfl ?_
    refine dk_goto 2 dX12_does_14 (by decide) ?_
    exact dk_less [some (.ref this), some (.int a1), some (.int a2), some (.int (s3_2 + 1))] (And.intro rfl (And.intro rfl (And.intro rfl (And.intro rfl (trivial))))) (hX ((s3_2 + 1)) h_5)

set_option maxRecDepth 100000 in
set_option maxHeartbeats 4000000 in
theorem dl_X12_does_L2 (N d : Nat) (this : Nat) (a1 : Int32) (a2 : Int32)   : ∀ (n : Nat) (a : Int32) (h : DS), DOk SX (d + 4) m_X12_does 2 [some (.ref this), some (.int a1), some (.int a2), some (.int a)] [] h (jt (fun Y a hz => g_X12_does_L2 N this a1 a2 Y a hz) n a h) :=
  dk_jt (fun a => [some (.ref this), some (.int a1), some (.int a2), some (.int a)]) (fun X hX a h => db_X12_does_L2 (SX := SX) N d this a1 a2    X hX a h)

set_option maxRecDepth 100000 in
set_option maxHeartbeats 4000000 in
theorem dg_X12_does (N d : Nat) (this : Nat) (a1 : Int32) (a2 : Int32) (h : DS) : DOk SX (d + 4) m_X12_does 0 [some (.ref this), some (.int a1), some (.int a2), none] [] h (g_X12_does N this a1 a2 h) := by
  unfold g_X12_does
  refine dk_iconst 1 1 dX12_does_0 rfl rfl ?_
  refine dk_istore_n 2 3 [some (.ref this), some (.int a1), some (.int a2), some (.int 1)] dX12_does_1 rfl rfl (by decide) rfl ?_
  refine dk_less [some (.ref this), some (.int a1), some (.int a2), some (.int 1)] (And.intro rfl (And.intro rfl (And.intro rfl (And.intro rfl (trivial))))) ?_
  exact dl_X12_does_L2 (SX := SX) N d this a1 a2    N (1) h

theorem dc_X12_does (N d : Nat) (this : Nat) (a1 : Int32) (a2 : Int32) (h : DS) : DCM SX (d + 4) m_X12_does [.ref this, .int a1, .int a2] h (g_X12_does N this a1 a2 h) :=
  DCM.ofDOk km_X12_does (by simp [Value.category]) (Nat.le_of_ble_eq_true rfl) (dg_X12_does N d this a1 a2 h)

def g_X12_passes_J61_29 (N : Nat) (this : Nat) (a1 : Int32) (p3_29 : Nat) (p4_29 : Int32)  (X : (Int32 × Int32) → DS → DA) (s2_61 : Int32) (s5_61 : Int32) (s6_61 : Nat) (h : DS) : DA :=
bo (dI h this 12 1) fun a_62 =>
bo (dI h this 12 11) fun a_66 =>
if a_66 ≤ a_62 then (X (s2_61, (s5_61 + 1)) h)
else (bo (lA h 100 s6_61 (1 : Int32)) fun a_77 =>
chk (isT h 12 this) <| bd3 (g_X12_does N this a_77 a1 h) fun v_79 h_79 =>
X ((s2_61 + v_79), (s5_61 + 1)) h_79)

def g_X12_passes_L29 (N : Nat) (this : Nat) (a1 : Int32) (p3_29 : Nat) (p4_29 : Int32)  (X : (Int32 × Int32) → DS → DA) (s2_29 : Int32) (s5_29 : Int32) (h : DS) : DA :=
if p4_29 ≤ s5_29 then (bo (dI h this 12 2) fun a_92 =>
bo (wI h this 12 2 (a_92 + (1 : Int32))) fun h_97 =>
some (s2_29, h_97))
else (bo (lQ h 103 p3_29 s5_29) fun r_39 =>
bo (lA h 100 r_39 (0 : Int32)) fun a_45 =>
bo (dI h this 12 1) fun a_47 =>
if a_45 ≤ a_47 then (g_X12_passes_J61_29 N this a1 p3_29 p4_29 X s2_29 s5_29 r_39 h)
else (bo (lA h 100 r_39 (0 : Int32)) fun a_57 =>
bo (wI h this 12 1 a_57) fun h_58 =>
g_X12_passes_J61_29 N this a1 p3_29 p4_29 X s2_29 s5_29 r_39 h_58))

def g_X12_passes (N : Nat) (this : Nat) (a1 : Int32) (h : DS) : DA :=
bo (wI h this 12 1 (0 : Int32)) fun h_2 =>
bo (wI h_2 this 12 4 (-1 : Int32)) fun h_7 =>
bo (wI h_7 this 12 5 (0 : Int32)) fun h_12 =>
bo (nn (dR h_12 this 12 19)) fun r_18 =>
bo (aN h_12 103 r_18) fun c_23 =>
jt (fun Y a hz => g_X12_passes_L29 N this a1 r_18 (Int32.ofNat c_23)  Y a.1 a.2 hz) N (0, 0) h_12

set_option maxRecDepth 100000 in
set_option maxHeartbeats 4000000 in
theorem dj_X12_passes_J61_29 (N d : Nat) (this : Nat) (a1 : Int32) (p3_29 : Nat) (p4_29 : Int32)  (X : (Int32 × Int32) → DS → DA) (hX : ∀ (a : (Int32 × Int32)) (h : DS), DOk SX (d + 5) m_X12_passes 29 [some (.ref this), some (.int a1), some (.int a.1), some (.ref p3_29), some (.int p4_29), some (.int a.2), none] [] h (X a h)) (s2_61 : Int32) (s5_61 : Int32) (s6_61 : Nat) (h : DS) : DOk SX (d + 5) m_X12_passes 61 [some (.ref this), some (.int a1), some (.int s2_61), some (.ref p3_29), some (.int p4_29), some (.int s5_61), some (.ref s6_61)] [] h (g_X12_passes_J61_29 N this a1 p3_29 p4_29 X s2_61 s5_61 s6_61 h) := by
  unfold g_X12_passes_J61_29
  refine dk_aload_n 62 0 dX12_passes_61 rfl rfl rfl ?_
  refine dk_getI 65 dX12_passes_62 rfl rfl F_EncoresLaw_House_44 (fun a_62 _ => ?_)
  refine dk_aload_n 66 0 dX12_passes_65 rfl rfl rfl ?_
  refine dk_getI 69 dX12_passes_66 rfl rfl F_EncoresLaw_House_16 (fun a_66 _ => ?_)
  refine dk_icmp_ge 84 72 dX12_passes_69 (by decide) rfl (fun _ => ?_) (fun _ => ?_)
  · refine dk_iinc 87 5 1 [some (.ref this), some (.int a1), some (.int s2_61), some (.ref p3_29), some (.int p4_29), some (.int (s5_61 + 1)), some (.ref s6_61)] dX12_passes_84 rfl rfl rfl (by decide) rfl ?_
    refine dk_goto 29 dX12_passes_87 (by decide) ?_
    exact dk_less [some (.ref this), some (.int a1), some (.int s2_61), some (.ref p3_29), some (.int p4_29), some (.int (s5_61 + 1)), none] (And.intro rfl (And.intro rfl (And.intro rfl (And.intro rfl (And.intro rfl (And.intro rfl (trivial))))))) (hX (s2_61, (s5_61 + 1)) h)
  · refine dk_iload_n 73 2 dX12_passes_72 rfl rfl rfl ?_
    refine dk_aload_n 74 0 dX12_passes_73 rfl rfl rfl ?_
    refine dk_aload 76 6 dX12_passes_74 rfl rfl ?_
    refine dk_iconst 77 1 dX12_passes_76 rfl rfl ?_
    refine dk_iald 78 dX12_passes_77 rfl (fun a_77 _ => ?_)
    refine dk_iload_n 79 1 dX12_passes_78 rfl rfl rfl ?_
    refine dk_callV (np := 2) (M' := m_X12_does) (As := [.int a_77, .int a1]) (st := [.int s2_61]) 12 82 dX12_passes_79 rfl rfl km_X12_does ki_X12_does kv_X12_does ml_EncoresLaw_House_137 (by decide) (by decide) rfl rfl rfl (Nat.le_of_ble_eq_true rfl) (dc_X12_does N (d + 0) this a_77 a1 h) (fun v_79 h_79 e_79 => ?_)
    show DOk _ _ _ _ _ (.int v_79 :: [.int s2_61]) _ _
    refine dk_iadd 83 dX12_passes_82 rfl ?_
    refine dk_istore_n 84 2 [some (.ref this), some (.int a1), some (.int (s2_61 + v_79)), some (.ref p3_29), some (.int p4_29), some (.int s5_61), some (.ref s6_61)] dX12_passes_83 rfl rfl (by decide) rfl ?_
    refine dk_iinc 87 5 1 [some (.ref this), some (.int a1), some (.int (s2_61 + v_79)), some (.ref p3_29), some (.int p4_29), some (.int (s5_61 + 1)), some (.ref s6_61)] dX12_passes_84 rfl rfl rfl (by decide) rfl ?_
    refine dk_goto 29 dX12_passes_87 (by decide) ?_
    exact dk_less [some (.ref this), some (.int a1), some (.int (s2_61 + v_79)), some (.ref p3_29), some (.int p4_29), some (.int (s5_61 + 1)), none] (And.intro rfl (And.intro rfl (And.intro rfl (And.intro rfl (And.intro rfl (And.intro rfl (trivial))))))) (hX ((s2_61 + v_79), (s5_61 + 1)) h_79)

set_option maxRecDepth 100000 in
set_option maxHeartbeats 4000000 in
theorem db_X12_passes_L29 (N d : Nat) (this : Nat) (a1 : Int32) (p3_29 : Nat) (p4_29 : Int32)  (X : (Int32 × Int32) → DS → DA) (hX : ∀ (a : (Int32 × Int32)) (h : DS), DOk SX (d + 5) m_X12_passes 29 [some (.ref this), some (.int a1), some (.int a.1), some (.ref p3_29), some (.int p4_29), some (.int a.2), none] [] h (X a h)) (s2_29 : Int32) (s5_29 : Int32) (h : DS) : DOk SX (d + 5) m_X12_passes 29 [some (.ref this), some (.int a1), some (.int s2_29), some (.ref p3_29), some (.int p4_29), some (.int s5_29), none] [] h (g_X12_passes_L29 N this a1 p3_29 p4_29 X s2_29 s5_29 h) := by
  unfold g_X12_passes_L29
  refine dk_iload 31 5 dX12_passes_29 rfl rfl ?_
  refine dk_iload 33 4 dX12_passes_31 rfl rfl ?_
  refine dk_icmp_ge 90 36 dX12_passes_33 (by decide) rfl (fun _ => ?_) (fun _ => ?_)
  · refine dk_aload_n 91 0 dX12_passes_90 rfl rfl rfl ?_
    refine dk_dup 92 dX12_passes_91 rfl rfl ?_
    refine dk_getI 95 dX12_passes_92 rfl rfl F_EncoresLaw_House_47 (fun a_92 _ => ?_)
    refine dk_iconst 96 1 dX12_passes_95 rfl rfl ?_
    refine dk_iadd 97 dX12_passes_96 rfl ?_
    refine dk_putI 100 dX12_passes_97 rfl rfl F_EncoresLaw_House_47 rfl pZ_12_2 rfl rfl (fun h_97 _ => ?_)
    refine dk_iload_n 101 2 dX12_passes_100 rfl rfl rfl ?_
    exact dk_iret dX12_passes_101 rfl
  · refine dk_aload_n 37 3 dX12_passes_36 rfl rfl rfl ?_
    refine dk_iload 39 5 dX12_passes_37 rfl rfl ?_
    refine dk_aald 103 40 (Or.inl rfl) dX12_passes_39 rfl (fun r_39 _ => ?_)
    refine dk_astore 42 6 [some (.ref this), some (.int a1), some (.int s2_29), some (.ref p3_29), some (.int p4_29), some (.int s5_29), some (.ref r_39)] dX12_passes_40 rfl (by decide) rfl ?_
    refine dk_aload 44 6 dX12_passes_42 rfl rfl ?_
    refine dk_iconst 45 0 dX12_passes_44 rfl rfl ?_
    refine dk_iald 46 dX12_passes_45 rfl (fun a_45 _ => ?_)
    refine dk_aload_n 47 0 dX12_passes_46 rfl rfl rfl ?_
    refine dk_getI 50 dX12_passes_47 rfl rfl F_EncoresLaw_House_44 (fun a_47 _ => ?_)
    refine dk_icmp_le 61 53 dX12_passes_50 (by decide) rfl (fun _ => ?_) (fun _ => ?_)
    · exact dk_less [some (.ref this), some (.int a1), some (.int s2_29), some (.ref p3_29), some (.int p4_29), some (.int s5_29), some (.ref r_39)] (And.intro rfl (And.intro rfl (And.intro rfl (And.intro rfl (And.intro rfl (And.intro rfl (And.intro rfl (trivial)))))))) (dj_X12_passes_J61_29 (SX := SX) N d this a1 p3_29 p4_29 X hX s2_29 s5_29 r_39 h)
    · refine dk_aload_n 54 0 dX12_passes_53 rfl rfl rfl ?_
      refine dk_aload 56 6 dX12_passes_54 rfl rfl ?_
      refine dk_iconst 57 0 dX12_passes_56 rfl rfl ?_
      refine dk_iald 58 dX12_passes_57 rfl (fun a_57 _ => ?_)
      refine dk_putI 61 dX12_passes_58 rfl rfl F_EncoresLaw_House_44 rfl pZ_12_1 rfl rfl (fun h_58 _ => ?_)
      exact dk_less [some (.ref this), some (.int a1), some (.int s2_29), some (.ref p3_29), some (.int p4_29), some (.int s5_29), some (.ref r_39)] (And.intro rfl (And.intro rfl (And.intro rfl (And.intro rfl (And.intro rfl (And.intro rfl (And.intro rfl (trivial)))))))) (dj_X12_passes_J61_29 (SX := SX) N d this a1 p3_29 p4_29 X hX s2_29 s5_29 r_39 h_58)

set_option maxRecDepth 100000 in
set_option maxHeartbeats 4000000 in
theorem dl_X12_passes_L29 (N d : Nat) (this : Nat) (a1 : Int32) (p3_29 : Nat) (p4_29 : Int32)  : ∀ (n : Nat) (a : (Int32 × Int32)) (h : DS), DOk SX (d + 5) m_X12_passes 29 [some (.ref this), some (.int a1), some (.int a.1), some (.ref p3_29), some (.int p4_29), some (.int a.2), none] [] h (jt (fun Y a hz => g_X12_passes_L29 N this a1 p3_29 p4_29 Y a.1 a.2 hz) n a h) :=
  dk_jt (fun a => [some (.ref this), some (.int a1), some (.int a.1), some (.ref p3_29), some (.int p4_29), some (.int a.2), none]) (fun X hX a h => db_X12_passes_L29 (SX := SX) N d this a1 p3_29 p4_29   X hX a.1 a.2 h)

set_option maxRecDepth 100000 in
set_option maxHeartbeats 4000000 in
theorem dg_X12_passes (N d : Nat) (this : Nat) (a1 : Int32) (h : DS) : DOk SX (d + 5) m_X12_passes 0 [some (.ref this), some (.int a1), none, none, none, none, none] [] h (g_X12_passes N this a1 h) := by
  unfold g_X12_passes
  refine dk_aload_n 1 0 dX12_passes_0 rfl rfl rfl ?_
  refine dk_iconst 2 0 dX12_passes_1 rfl rfl ?_
  refine dk_putI 5 dX12_passes_2 rfl rfl F_EncoresLaw_House_44 rfl pZ_12_1 rfl rfl (fun h_2 _ => ?_)
  refine dk_aload_n 6 0 dX12_passes_5 rfl rfl rfl ?_
  refine dk_iconst 7 (-1) dX12_passes_6 rfl rfl ?_
  refine dk_putI 10 dX12_passes_7 rfl rfl F_EncoresLaw_House_7 rfl pZ_12_4 rfl rfl (fun h_7 _ => ?_)
  refine dk_aload_n 11 0 dX12_passes_10 rfl rfl rfl ?_
  refine dk_iconst 12 0 dX12_passes_11 rfl rfl ?_
  refine dk_putI 15 dX12_passes_12 rfl rfl F_EncoresLaw_House_53 rfl pZ_12_5 rfl rfl (fun h_12 _ => ?_)
  refine dk_iconst 16 0 dX12_passes_15 rfl rfl ?_
  refine dk_istore_n 17 2 [some (.ref this), some (.int a1), some (.int 0), none, none, none, none] dX12_passes_16 rfl rfl (by decide) rfl ?_
  refine dk_aload_n 18 0 dX12_passes_17 rfl rfl rfl ?_
  refine dk_getR 21 dX12_passes_18 rfl rfl F_EncoresLaw_House_34 (fun r_18 _ => ?_)
  refine dk_astore_n 22 3 [some (.ref this), some (.int a1), some (.int 0), some (.ref r_18), none, none, none] dX12_passes_21 rfl rfl (by decide) rfl ?_
  refine dk_aload_n 23 3 dX12_passes_22 rfl rfl rfl ?_
  refine dk_alen 103 24 (Or.inr (Or.inr (Or.inl rfl))) dX12_passes_23 rfl (fun c_23 _ => ?_)
  refine dk_istore 26 4 [some (.ref this), some (.int a1), some (.int 0), some (.ref r_18), some (.int (Int32.ofNat c_23)), none, none] dX12_passes_24 rfl (by decide) rfl ?_
  refine dk_iconst 27 0 dX12_passes_26 rfl rfl ?_
  refine dk_istore 29 5 [some (.ref this), some (.int a1), some (.int 0), some (.ref r_18), some (.int (Int32.ofNat c_23)), some (.int 0), none] dX12_passes_27 rfl (by decide) rfl ?_
  refine dk_less [some (.ref this), some (.int a1), some (.int 0), some (.ref r_18), some (.int (Int32.ofNat c_23)), some (.int 0), none] (And.intro rfl (And.intro rfl (And.intro rfl (And.intro rfl (And.intro rfl (And.intro rfl (trivial))))))) ?_
  exact dl_X12_passes_L29 (SX := SX) N d this a1 r_18 (Int32.ofNat c_23)   N (0, 0) h_12

theorem dc_X12_passes (N d : Nat) (this : Nat) (a1 : Int32) (h : DS) : DCM SX (d + 5) m_X12_passes [.ref this, .int a1] h (g_X12_passes N this a1 h) :=
  DCM.ofDOk km_X12_passes (by simp [Value.category]) (Nat.le_of_ble_eq_true rfl) (dg_X12_passes N d this a1 h)

def g_X12_isSame_L12 (N : Nat) (this : Nat) (p2_12 : Int32) (K43 : DS → DA) (X : Int32 → DS → DA) (s3_12 : Int32) (h : DS) : DA :=
if (6 : Int32) ≤ s3_12 then (K43 h)
else (chk (isT h 11 0) <| bdX (f_X11_of N p2_12 s3_12 h.1) h fun v_21 hh_21 => bnd (gs (f_X12_of N p2_12 s3_12) hh_21) fun h_21 =>
bo (nn (dR h_21 this 12 15)) fun r_25 =>
bo (lQ h_21 103 r_25 p2_12) fun r_29 =>
bo (lA h_21 100 r_29 s3_12) fun a_31 =>
if v_21 = a_31 then (X ((s3_12 + 1)) h_21)
else (some ((0 : Int32), h_21)))

def g_X12_isSame_L110 (N : Nat) (this : Nat) (p2_110 : Int32) (K145 : DS → DA) (X : Int32 → DS → DA) (s3_110 : Int32) (h : DS) : DA :=
bo (dI h this 12 8) fun a_112 =>
if a_112 ≤ s3_110 then (K145 h)
else (chk (isT h 11 0) <| bdX (f_X11_of N p2_110 ((10 : Int32) + s3_110) h.1) h fun v_124 hh_124 => bnd (gs (f_X12_of N p2_110 ((10 : Int32) + s3_110)) hh_124) fun h_124 =>
chk (isT h_124 12 this) <| bd3 (g_X12_clap N this p2_110 s3_110 (0 : Int32) h_124) fun v_131 h_131 =>
if v_124 = v_131 then (X ((s3_110 + 1)) h_131)
else (some ((0 : Int32), h_131)))

def g_X12_isSame_L2 (N : Nat) (this : Nat)  (K151 : DS → DA) (X : Int32 → DS → DA) (s2_2 : Int32) (h : DS) : DA :=
bo (dI h this 12 7) fun a_4 =>
if a_4 ≤ s2_2 then (K151 h)
else (jt (fun Y a hz => g_X12_isSame_L12 N this s2_2 (fun hk43 => chk (isT hk43 11 0) <| bdX (f_X11_of N s2_2 (6 : Int32) hk43.1) hk43 fun v_47 hh_47 => bnd (gs (f_X12_of N s2_2 (6 : Int32)) hh_47) fun h_47 =>
bo (nn (dR h_47 this 12 20)) fun r_51 =>
bo (lA h_47 100 r_51 s2_2) fun a_55 =>
if v_47 = a_55 then (chk (isT h_47 11 0) <| bdX (f_X11_of N s2_2 (7 : Int32) h_47.1) h_47 fun v_63 hh_63 => bnd (gs (f_X12_of N s2_2 (7 : Int32)) hh_63) fun h_63 =>
bo (dI h_63 this 12 12) fun a_68 =>
if v_63 = ((1 : Int32) + ((a_68 >>> (s2_2 &&& 31)) &&& (1 : Int32))) then (chk (isT h_63 11 0) <| bdX (f_X11_of N s2_2 (8 : Int32) h_63.1) h_63 fun v_83 hh_83 => bnd (gs (f_X12_of N s2_2 (8 : Int32)) hh_83) fun h_83 =>
if v_83 = (-1 : Int32) then (bo (dI h_83 this 12 8) fun a_95 =>
chk (isT h_83 11 0) <| bdX (f_X11_of N s2_2 ((10 : Int32) + a_95) h_83.1) h_83 fun v_99 hh_99 => bnd (gs (f_X12_of N s2_2 ((10 : Int32) + a_95)) hh_99) fun h_99 =>
if v_99 = (-1 : Int32) then (jt (fun Y a hz => g_X12_isSame_L110 N this s2_2 (fun hk145 => X ((s2_2 + 1)) hk145) Y a hz) N (0) h_99)
else (some ((0 : Int32), h_99)))
else (some ((0 : Int32), h_83)))
else (some ((0 : Int32), h_63)))
else (some ((0 : Int32), h_47))) Y a hz) N (0) h)

def g_X12_isSame_L163 (N : Nat) (this : Nat) (p2_163 : Int32) (K193 : DS → DA) (X : Int32 → DS → DA) (s3_163 : Int32) (h : DS) : DA :=
if (5 : Int32) ≤ s3_163 then (K193 h)
else (chk (isT h 11 0) <| bdX (f_X11_deedOf N p2_163 s3_163 h.1) h fun v_171 hh_171 => bnd (gs (f_X12_deedOf N p2_163 s3_163) hh_171) fun h_171 =>
bo (nn (dR h_171 this 12 16)) fun r_175 =>
bo (lQ h_171 103 r_175 p2_163) fun r_179 =>
bo (lA h_171 100 r_179 s3_163) fun a_181 =>
if v_171 = a_181 then (X ((s3_163 + 1)) h_171)
else (some ((0 : Int32), h_171)))

def g_X12_isSame_L153 (N : Nat) (this : Nat)  (K241 : DS → DA) (X : Int32 → DS → DA) (s2_153 : Int32) (h : DS) : DA :=
bo (dI h this 12 8) fun a_155 =>
if a_155 ≤ s2_153 then (K241 h)
else (jt (fun Y a hz => g_X12_isSame_L163 N this s2_153 (fun hk193 => chk (isT hk193 11 0) <| bdX (f_X11_deedOf N s2_153 (5 : Int32) hk193.1) hk193 fun v_196 hh_196 => bnd (gs (f_X12_deedOf N s2_153 (5 : Int32)) hh_196) fun h_196 =>
chk (isT h_196 12 this) <| bd3 (g_X12_loud N this s2_153 h_196) fun v_201 h_201 =>
if v_196 = v_201 then (chk (isT h_201 11 0) <| bdX (f_X11_deedOf N s2_153 (6 : Int32) h_201.1) h_201 fun v_211 hh_211 => bnd (gs (f_X12_deedOf N s2_153 (6 : Int32)) hh_211) fun h_211 =>
chk (isT h_211 12 this) <| bd3 (g_X12_wears N this s2_153 h_211) fun v_216 h_216 =>
if v_211 = v_216 then (chk (isT h_216 11 0) <| bdX (f_X11_deedOf N s2_153 (7 : Int32) h_216.1) h_216 fun v_226 hh_226 => bnd (gs (f_X12_deedOf N s2_153 (7 : Int32)) hh_226) fun h_226 =>
if v_226 = (-1 : Int32) then (X ((s2_153 + 1)) h_226)
else (some ((0 : Int32), h_226)))
else (some ((0 : Int32), h_216)))
else (some ((0 : Int32), h_201))) Y a hz) N (0) h)

def g_X12_isSame_L253 (N : Nat) (this : Nat) (p2_253 : Int32) (K283 : DS → DA) (X : Int32 → DS → DA) (s3_253 : Int32) (h : DS) : DA :=
if (4 : Int32) ≤ s3_253 then (K283 h)
else (chk (isT h 11 0) <| bdX (f_X11_book N p2_253 s3_253 h.1) h fun v_261 hh_261 => bnd (gs (f_X12_book N p2_253 s3_253) hh_261) fun h_261 =>
bo (nn (dR h_261 this 12 17)) fun r_265 =>
bo (lQ h_261 103 r_265 p2_253) fun r_269 =>
bo (lA h_261 100 r_269 s3_253) fun a_271 =>
if v_261 = a_271 then (X ((s3_253 + 1)) h_261)
else (some ((0 : Int32), h_261)))

def g_X12_isSame_L243 (N : Nat) (this : Nat)  (K289 : DS → DA) (X : Int32 → DS → DA) (s2_243 : Int32) (h : DS) : DA :=
bo (dI h this 12 9) fun a_245 =>
if a_245 ≤ s2_243 then (K289 h)
else (jt (fun Y a hz => g_X12_isSame_L253 N this s2_243 (fun hk283 => X ((s2_243 + 1)) hk283) Y a hz) N (0) h)

def g_X12_isSame_L378 (N : Nat) (this : Nat) (p2_378 : Nat) (K403 : DS → DA) (X : Int32 → DS → DA) (s3_378 : Int32) (h : DS) : DA :=
if (11 : Int32) ≤ s3_378 then (K403 h)
else (chk (isT h 11 0) <| bdX (f_X11_look N s3_378 h.1) h fun v_386 hh_386 => bnd (gs (f_X12_look N s3_378) hh_386) fun h_386 =>
bo (lA h_386 100 p2_378 s3_378) fun a_391 =>
if v_386 = a_391 then (X ((s3_378 + 1)) h_386)
else (some ((0 : Int32), h_386)))

def g_X12_isSame (N : Nat) (this : Nat) (h : DS) : DA :=
jt (fun Y a hz => g_X12_isSame_L2 N this  (fun hk151 => jt (fun Y a hz => g_X12_isSame_L153 N this  (fun hk241 => jt (fun Y a hz => g_X12_isSame_L243 N this  (fun hk289 => bo (nA hk289 100 (11 : Int32)) fun h_291 =>
bo (dI h_291 this 12 7) fun a_296 =>
bo (sA h_291 100 hk289.2.1.length (0 : Int32) a_296) fun h_299 =>
bo (dI h_299 this 12 8) fun a_303 =>
bo (sA h_299 100 hk289.2.1.length (1 : Int32) a_303) fun h_306 =>
bo (dI h_306 this 12 1) fun a_310 =>
bo (sA h_306 100 hk289.2.1.length (2 : Int32) a_310) fun h_313 =>
bo (dI h_313 this 12 2) fun a_317 =>
bo (sA h_313 100 hk289.2.1.length (3 : Int32) a_317) fun h_320 =>
bo (dI h_320 this 12 3) fun a_324 =>
bo (sA h_320 100 hk289.2.1.length (4 : Int32) a_324) fun h_327 =>
bo (dI h_327 this 12 6) fun a_331 =>
bo (sA h_327 100 hk289.2.1.length (5 : Int32) a_331) fun h_334 =>
bo (dI h_334 this 12 4) fun a_339 =>
bo (sA h_334 100 hk289.2.1.length (6 : Int32) a_339) fun h_342 =>
bo (dI h_342 this 12 5) fun a_347 =>
bo (sA h_342 100 hk289.2.1.length (7 : Int32) a_347) fun h_350 =>
chk (isT h_350 12 this) <| bd3 (g_X12_there N this h_350) fun v_355 h_355 =>
bo (sA h_355 100 hk289.2.1.length (8 : Int32) v_355) fun h_358 =>
bo (dI h_358 this 12 9) fun a_363 =>
bo (sA h_358 100 hk289.2.1.length (9 : Int32) a_363) fun h_366 =>
bo (dI h_366 this 12 0) fun a_371 =>
bo (sA h_366 100 hk289.2.1.length (10 : Int32) a_371) fun h_374 =>
jt (fun Y a hz => g_X12_isSame_L378 N this hk289.2.1.length (fun hk403 => bo (dI hk403 this 12 7) fun a_405 =>
chk (isT hk403 11 0) <| bdX (f_X11_of N a_405 (0 : Int32) hk403.1) hk403 fun v_409 hh_409 => bnd (gs (f_X12_of N a_405 (0 : Int32)) hh_409) fun h_409 =>
if v_409 = (-1 : Int32) then (bo (dI h_409 this 12 8) fun a_418 =>
chk (isT h_409 11 0) <| bdX (f_X11_deedOf N a_418 (0 : Int32) h_409.1) h_409 fun v_422 hh_422 => bnd (gs (f_X12_deedOf N a_418 (0 : Int32)) hh_422) fun h_422 =>
if v_422 = (-1 : Int32) then (bo (dI h_422 this 12 9) fun a_431 =>
chk (isT h_422 11 0) <| bdX (f_X11_book N a_431 (0 : Int32) h_422.1) h_422 fun v_435 hh_435 => bnd (gs (f_X12_book N a_431 (0 : Int32)) hh_435) fun h_435 =>
if v_435 = (-1 : Int32) then (chk (isT h_435 11 0) <| bdX (f_X11_statute N (0 : Int32) h_435.1) h_435 fun v_444 hh_444 => bnd (gs (f_X12_statute N (0 : Int32)) hh_444) fun h_444 =>
chk (isT h_444 12 this) <| bd3 (g_X12_asks N this h_444) fun v_448 h_448 =>
if v_444 = v_448 then (chk (isT h_448 11 0) <| bdX (f_X11_statute N (1 : Int32) h_448.1) h_448 fun v_456 hh_456 => bnd (gs (f_X12_statute N (1 : Int32)) hh_456) fun h_456 =>
bo (dI h_456 this 12 10) fun a_460 =>
if v_456 = a_460 then (chk (isT h_456 11 0) <| bdX (f_X11_statute N (2 : Int32) h_456.1) h_456 fun v_468 hh_468 => bnd (gs (f_X12_statute N (2 : Int32)) hh_468) fun h_468 =>
bo (dI h_468 this 12 11) fun a_472 =>
if v_468 = a_472 then (chk (isT h_468 11 0) <| bdX (f_X11_statute N (3 : Int32) h_468.1) h_468 fun v_480 hh_480 => bnd (gs (f_X12_statute N (3 : Int32)) hh_480) fun h_480 =>
if v_480 = (-1 : Int32) then (chk (isT h_480 11 0) <| bdX (f_X11_look N (12 : Int32) h_480.1) h_480 fun v_490 hh_490 => bnd (gs (f_X12_look N (12 : Int32)) hh_490) fun h_490 =>
bo (dI h_490 this 12 13) fun a_494 =>
if v_490 = a_494 then (chk (isT h_490 11 0) <| bdX (f_X11_look N (13 : Int32) h_490.1) h_490 fun v_503 hh_503 => bnd (gs (f_X12_look N (13 : Int32)) hh_503) fun h_503 =>
bo (nn (dR h_503 this 12 19)) fun r_507 =>
bo (aN h_503 103 r_507) fun c_510 =>
if v_503 = (Int32.ofNat c_510) then (chk (isT h_503 11 0) <| bdX (f_X11_look N (14 : Int32) h_503.1) h_503 fun v_517 hh_517 => bnd (gs (f_X12_look N (14 : Int32)) hh_517) fun h_517 =>
bo (dI h_517 this 12 14) fun a_521 =>
if v_517 = a_521 then (some ((1 : Int32), h_517))
else (some ((0 : Int32), h_517)))
else (some ((0 : Int32), h_503)))
else (some ((0 : Int32), h_490)))
else (some ((0 : Int32), h_480)))
else (some ((0 : Int32), h_468)))
else (some ((0 : Int32), h_456)))
else (some ((0 : Int32), h_448)))
else (some ((0 : Int32), h_435)))
else (some ((0 : Int32), h_422)))
else (some ((0 : Int32), h_409))) Y a hz) N (0) h_374) Y a hz) N (0) hk241) Y a hz) N (0) hk151) Y a hz) N (0) h

set_option maxRecDepth 100000 in
set_option maxHeartbeats 4000000 in
theorem db_X12_isSame_L12 (N d : Nat) (this : Nat) (p2_12 : Int32) (K43 : DS → DA) (hK43 : ∀  (h : DS), DOk SX (d + 5) m_X12_isSame 43 [some (.ref this), some (.ref 0), some (.int p2_12), none] [] h (K43 h)) (X : Int32 → DS → DA) (hX : ∀ (a : Int32) (h : DS), DOk SX (d + 5) m_X12_isSame 12 [some (.ref this), some (.ref 0), some (.int p2_12), some (.int a)] [] h (X a h)) (s3_12 : Int32) (h : DS) : DOk SX (d + 5) m_X12_isSame 12 [some (.ref this), some (.ref 0), some (.int p2_12), some (.int s3_12)] [] h (g_X12_isSame_L12 N this p2_12 K43 X s3_12 h) := by
  unfold g_X12_isSame_L12
  refine dk_iload_n 13 3 dX12_isSame_12 rfl rfl rfl ?_
  refine dk_bipush 15 6 dX12_isSame_13 rfl rfl ?_
  refine dk_icmp_ge 43 18 dX12_isSame_15 (by decide) rfl (fun _ => ?_) (fun _ => ?_)
  · exact dk_less [some (.ref this), some (.ref 0), some (.int p2_12), none] (And.intro rfl (And.intro rfl (And.intro rfl (trivial)))) (hK43 h)
  · refine dk_aload_n 19 1 dX12_isSame_18 rfl rfl rfl ?_
    refine dk_iload_n 20 2 dX12_isSame_19 rfl rfl rfl ?_
    refine dk_iload_n 21 3 dX12_isSame_20 rfl rfl rfl ?_
    refine dk_callXV (np := 2) (M' := m_X11_of) (As := [.int p2_12, .int s3_12]) (st := []) 24 dX12_isSame_21 rfl rfl km_X11_of ki_X11_of kv_X11_of ml_EncoresLaw_House_141 (by decide) rfl rfl rfl (fun k hk => by simp at hk) (Nat.le_of_ble_eq_true rfl) (c_X11_of N (d + 0) p2_12 s3_12 h.1) (fun _ h => by cases h; exact pr_int) (fun v_21 n_21 e_21 => ?_)
    generalize pat h n_21 = hh_21
    refine dk_gs (fun h_21 _ => ?_)
    show DOk _ _ _ _ _ (.int v_21 :: []) _ _
    refine dk_aload_n 25 0 dX12_isSame_24 rfl rfl rfl ?_
    refine dk_getR 28 dX12_isSame_25 rfl rfl F_EncoresLaw_House_21 (fun r_25 _ => ?_)
    refine dk_iload_n 29 2 dX12_isSame_28 rfl rfl rfl ?_
    refine dk_aald 103 30 (Or.inl rfl) dX12_isSame_29 rfl (fun r_29 _ => ?_)
    refine dk_iload_n 31 3 dX12_isSame_30 rfl rfl rfl ?_
    refine dk_iald 32 dX12_isSame_31 rfl (fun a_31 _ => ?_)
    refine dk_icmp_eq 37 35 dX12_isSame_32 (by decide) rfl (fun _ => ?_) (fun _ => ?_)
    · refine dk_iinc 40 3 1 [some (.ref this), some (.ref 0), some (.int p2_12), some (.int (s3_12 + 1))] dX12_isSame_37 rfl rfl rfl (by decide) rfl ?_
      refine dk_goto 12 dX12_isSame_40 (by decide) ?_
      exact dk_less [some (.ref this), some (.ref 0), some (.int p2_12), some (.int (s3_12 + 1))] (And.intro rfl (And.intro rfl (And.intro rfl (And.intro rfl (trivial))))) (hX ((s3_12 + 1)) h_21)
    · refine dk_iconst 36 0 dX12_isSame_35 rfl rfl ?_
      exact dk_zretc dX12_isSame_36 rfl rfl

set_option maxRecDepth 100000 in
set_option maxHeartbeats 4000000 in
theorem dl_X12_isSame_L12 (N d : Nat) (this : Nat) (p2_12 : Int32) (K43 : DS → DA) (hK43 : ∀  (h : DS), DOk SX (d + 5) m_X12_isSame 43 [some (.ref this), some (.ref 0), some (.int p2_12), none] [] h (K43 h)) : ∀ (n : Nat) (a : Int32) (h : DS), DOk SX (d + 5) m_X12_isSame 12 [some (.ref this), some (.ref 0), some (.int p2_12), some (.int a)] [] h (jt (fun Y a hz => g_X12_isSame_L12 N this p2_12 K43 Y a hz) n a h) :=
  dk_jt (fun a => [some (.ref this), some (.ref 0), some (.int p2_12), some (.int a)]) (fun X hX a h => db_X12_isSame_L12 (SX := SX) N d this p2_12 K43 hK43 X hX a h)

set_option maxRecDepth 100000 in
set_option maxHeartbeats 4000000 in
theorem db_X12_isSame_L110 (N d : Nat) (this : Nat) (p2_110 : Int32) (K145 : DS → DA) (hK145 : ∀  (h : DS), DOk SX (d + 5) m_X12_isSame 145 [some (.ref this), some (.ref 0), some (.int p2_110), none] [] h (K145 h)) (X : Int32 → DS → DA) (hX : ∀ (a : Int32) (h : DS), DOk SX (d + 5) m_X12_isSame 110 [some (.ref this), some (.ref 0), some (.int p2_110), some (.int a)] [] h (X a h)) (s3_110 : Int32) (h : DS) : DOk SX (d + 5) m_X12_isSame 110 [some (.ref this), some (.ref 0), some (.int p2_110), some (.int s3_110)] [] h (g_X12_isSame_L110 N this p2_110 K145 X s3_110 h) := by
  unfold g_X12_isSame_L110
  refine dk_iload_n 111 3 dX12_isSame_110 rfl rfl rfl ?_
  refine dk_aload_n 112 0 dX12_isSame_111 rfl rfl rfl ?_
  refine dk_getI 115 dX12_isSame_112 rfl rfl F_EncoresLaw_House_62 (fun a_112 _ => ?_)
  refine dk_icmp_ge 145 118 dX12_isSame_115 (by decide) rfl (fun _ => ?_) (fun _ => ?_)
  · exact dk_less [some (.ref this), some (.ref 0), some (.int p2_110), none] (And.intro rfl (And.intro rfl (And.intro rfl (trivial)))) (hK145 h)
  · refine dk_aload_n 119 1 dX12_isSame_118 rfl rfl rfl ?_
    refine dk_iload_n 120 2 dX12_isSame_119 rfl rfl rfl ?_
    refine dk_bipush 122 10 dX12_isSame_120 rfl rfl ?_
    refine dk_iload_n 123 3 dX12_isSame_122 rfl rfl rfl ?_
    refine dk_iadd 124 dX12_isSame_123 rfl ?_
    refine dk_callXV (np := 2) (M' := m_X11_of) (As := [.int p2_110, .int ((10 : Int32) + s3_110)]) (st := []) 127 dX12_isSame_124 rfl rfl km_X11_of ki_X11_of kv_X11_of ml_EncoresLaw_House_141 (by decide) rfl rfl rfl (fun k hk => by simp at hk) (Nat.le_of_ble_eq_true rfl) (c_X11_of N (d + 0) p2_110 ((10 : Int32) + s3_110) h.1) (fun _ h => by cases h; exact pr_int) (fun v_124 n_124 e_124 => ?_)
    generalize pat h n_124 = hh_124
    refine dk_gs (fun h_124 _ => ?_)
    show DOk _ _ _ _ _ (.int v_124 :: []) _ _
    refine dk_aload_n 128 0 dX12_isSame_127 rfl rfl rfl ?_
    refine dk_iload_n 129 2 dX12_isSame_128 rfl rfl rfl ?_
    refine dk_iload_n 130 3 dX12_isSame_129 rfl rfl rfl ?_
    refine dk_iconst 131 0 dX12_isSame_130 rfl rfl ?_
    refine dk_callV (np := 3) (M' := m_X12_clap) (As := [.int p2_110, .int s3_110, .int 0]) (st := [.int v_124]) 12 134 dX12_isSame_131 rfl rfl km_X12_clap ki_X12_clap kv_X12_clap ml_EncoresLaw_House_116 (by decide) (by decide) rfl rfl rfl (Nat.le_of_ble_eq_true rfl) (dc_X12_clap N (d + 2) this p2_110 s3_110 (0 : Int32) h_124) (fun v_131 h_131 e_131 => ?_)
    show DOk _ _ _ _ _ (.int v_131 :: [.int v_124]) _ _
    refine dk_icmp_eq 139 137 dX12_isSame_134 (by decide) rfl (fun _ => ?_) (fun _ => ?_)
    · refine dk_iinc 142 3 1 [some (.ref this), some (.ref 0), some (.int p2_110), some (.int (s3_110 + 1))] dX12_isSame_139 rfl rfl rfl (by decide) rfl ?_
      refine dk_goto 110 dX12_isSame_142 (by decide) ?_
      exact dk_less [some (.ref this), some (.ref 0), some (.int p2_110), some (.int (s3_110 + 1))] (And.intro rfl (And.intro rfl (And.intro rfl (And.intro rfl (trivial))))) (hX ((s3_110 + 1)) h_131)
    · refine dk_iconst 138 0 dX12_isSame_137 rfl rfl ?_
      exact dk_zretc dX12_isSame_138 rfl rfl

set_option maxRecDepth 100000 in
set_option maxHeartbeats 4000000 in
theorem dl_X12_isSame_L110 (N d : Nat) (this : Nat) (p2_110 : Int32) (K145 : DS → DA) (hK145 : ∀  (h : DS), DOk SX (d + 5) m_X12_isSame 145 [some (.ref this), some (.ref 0), some (.int p2_110), none] [] h (K145 h)) : ∀ (n : Nat) (a : Int32) (h : DS), DOk SX (d + 5) m_X12_isSame 110 [some (.ref this), some (.ref 0), some (.int p2_110), some (.int a)] [] h (jt (fun Y a hz => g_X12_isSame_L110 N this p2_110 K145 Y a hz) n a h) :=
  dk_jt (fun a => [some (.ref this), some (.ref 0), some (.int p2_110), some (.int a)]) (fun X hX a h => db_X12_isSame_L110 (SX := SX) N d this p2_110 K145 hK145 X hX a h)

set_option maxRecDepth 100000 in
set_option maxHeartbeats 4000000 in
theorem db_X12_isSame_L2 (N d : Nat) (this : Nat)  (K151 : DS → DA) (hK151 : ∀  (h : DS), DOk SX (d + 5) m_X12_isSame 151 [some (.ref this), some (.ref 0), none, none] [] h (K151 h)) (X : Int32 → DS → DA) (hX : ∀ (a : Int32) (h : DS), DOk SX (d + 5) m_X12_isSame 2 [some (.ref this), some (.ref 0), some (.int a), none] [] h (X a h)) (s2_2 : Int32) (h : DS) : DOk SX (d + 5) m_X12_isSame 2 [some (.ref this), some (.ref 0), some (.int s2_2), none] [] h (g_X12_isSame_L2 N this K151 X s2_2 h) := by
  unfold g_X12_isSame_L2
  refine dk_iload_n 3 2 dX12_isSame_2 rfl rfl rfl ?_
  refine dk_aload_n 4 0 dX12_isSame_3 rfl rfl rfl ?_
  refine dk_getI 7 dX12_isSame_4 rfl rfl F_EncoresLaw_House_59 (fun a_4 _ => ?_)
  refine dk_icmp_ge 151 10 dX12_isSame_7 (by decide) rfl (fun _ => ?_) (fun _ => ?_)
  · exact dk_less [some (.ref this), some (.ref 0), none, none] (And.intro rfl (And.intro rfl (trivial))) (hK151 h)
  · refine dk_iconst 11 0 dX12_isSame_10 rfl rfl ?_
    refine dk_istore_n 12 3 [some (.ref this), some (.ref 0), some (.int s2_2), some (.int 0)] dX12_isSame_11 rfl rfl (by decide) rfl ?_
    refine dk_less [some (.ref this), some (.ref 0), some (.int s2_2), some (.int 0)] (And.intro rfl (And.intro rfl (And.intro rfl (And.intro rfl (trivial))))) ?_
    exact dl_X12_isSame_L12 (SX := SX) N d this s2_2 (fun hk43 => chk (isT hk43 11 0) <| bdX (f_X11_of N s2_2 (6 : Int32) hk43.1) hk43 fun v_47 hh_47 => bnd (gs (f_X12_of N s2_2 (6 : Int32)) hh_47) fun h_47 =>
bo (nn (dR h_47 this 12 20)) fun r_51 =>
bo (lA h_47 100 r_51 s2_2) fun a_55 =>
if v_47 = a_55 then (chk (isT h_47 11 0) <| bdX (f_X11_of N s2_2 (7 : Int32) h_47.1) h_47 fun v_63 hh_63 => bnd (gs (f_X12_of N s2_2 (7 : Int32)) hh_63) fun h_63 =>
bo (dI h_63 this 12 12) fun a_68 =>
if v_63 = ((1 : Int32) + ((a_68 >>> (s2_2 &&& 31)) &&& (1 : Int32))) then (chk (isT h_63 11 0) <| bdX (f_X11_of N s2_2 (8 : Int32) h_63.1) h_63 fun v_83 hh_83 => bnd (gs (f_X12_of N s2_2 (8 : Int32)) hh_83) fun h_83 =>
if v_83 = (-1 : Int32) then (bo (dI h_83 this 12 8) fun a_95 =>
chk (isT h_83 11 0) <| bdX (f_X11_of N s2_2 ((10 : Int32) + a_95) h_83.1) h_83 fun v_99 hh_99 => bnd (gs (f_X12_of N s2_2 ((10 : Int32) + a_95)) hh_99) fun h_99 =>
if v_99 = (-1 : Int32) then (jt (fun Y a hz => g_X12_isSame_L110 N this s2_2 (fun hk145 => X ((s2_2 + 1)) hk145) Y a hz) N (0) h_99)
else (some ((0 : Int32), h_99)))
else (some ((0 : Int32), h_83)))
else (some ((0 : Int32), h_63)))
else (some ((0 : Int32), h_47))) (fun hk43 => by
        refine dk_aload_n 44 1 dX12_isSame_43 rfl rfl rfl ?_
        refine dk_iload_n 45 2 dX12_isSame_44 rfl rfl rfl ?_
        refine dk_bipush 47 6 dX12_isSame_45 rfl rfl ?_
        refine dk_callXV (np := 2) (M' := m_X11_of) (As := [.int s2_2, .int 6]) (st := []) 50 dX12_isSame_47 rfl rfl km_X11_of ki_X11_of kv_X11_of ml_EncoresLaw_House_141 (by decide) rfl rfl rfl (fun k hk => by simp at hk) (Nat.le_of_ble_eq_true rfl) (c_X11_of N (d + 0) s2_2 (6 : Int32) hk43.1) (fun _ h => by cases h; exact pr_int) (fun v_47 n_47 e_47 => ?_)
        generalize pat hk43 n_47 = hh_47
        refine dk_gs (fun h_47 _ => ?_)
        show DOk _ _ _ _ _ (.int v_47 :: []) _ _
        refine dk_aload_n 51 0 dX12_isSame_50 rfl rfl rfl ?_
        refine dk_getR 54 dX12_isSame_51 rfl rfl F_EncoresLaw_House_37 (fun r_51 _ => ?_)
        refine dk_iload_n 55 2 dX12_isSame_54 rfl rfl rfl ?_
        refine dk_iald 56 dX12_isSame_55 rfl (fun a_55 _ => ?_)
        refine dk_icmp_ne 106 59 dX12_isSame_56 (by decide) rfl (fun _ => ?_) (fun _ => ?_)
        · refine dk_iconst 107 0 dX12_isSame_106 rfl rfl ?_
          exact dk_zretc dX12_isSame_107 rfl rfl
        · refine dk_aload_n 60 1 dX12_isSame_59 rfl rfl rfl ?_
          refine dk_iload_n 61 2 dX12_isSame_60 rfl rfl rfl ?_
          refine dk_bipush 63 7 dX12_isSame_61 rfl rfl ?_
          refine dk_callXV (np := 2) (M' := m_X11_of) (As := [.int s2_2, .int 7]) (st := []) 66 dX12_isSame_63 rfl rfl km_X11_of ki_X11_of kv_X11_of ml_EncoresLaw_House_141 (by decide) rfl rfl rfl (fun k hk => by simp at hk) (Nat.le_of_ble_eq_true rfl) (c_X11_of N (d + 0) s2_2 (7 : Int32) h_47.1) (fun _ h => by cases h; exact pr_int) (fun v_63 n_63 e_63 => ?_)
          generalize pat h_47 n_63 = hh_63
          refine dk_gs (fun h_63 _ => ?_)
          show DOk _ _ _ _ _ (.int v_63 :: []) _ _
          refine dk_iconst 67 1 dX12_isSame_66 rfl rfl ?_
          refine dk_aload_n 68 0 dX12_isSame_67 rfl rfl rfl ?_
          refine dk_getI 71 dX12_isSame_68 rfl rfl F_EncoresLaw_House_68 (fun a_68 _ => ?_)
          refine dk_iload_n 72 2 dX12_isSame_71 rfl rfl rfl ?_
          refine dk_ishr 73 dX12_isSame_72 rfl ?_
          refine dk_iconst 74 1 dX12_isSame_73 rfl rfl ?_
          refine dk_iand 75 dX12_isSame_74 rfl ?_
          refine dk_iadd 76 dX12_isSame_75 rfl ?_
          refine dk_icmp_ne 106 79 dX12_isSame_76 (by decide) rfl (fun _ => ?_) (fun _ => ?_)
          · refine dk_iconst 107 0 dX12_isSame_106 rfl rfl ?_
            exact dk_zretc dX12_isSame_107 rfl rfl
          · refine dk_aload_n 80 1 dX12_isSame_79 rfl rfl rfl ?_
            refine dk_iload_n 81 2 dX12_isSame_80 rfl rfl rfl ?_
            refine dk_bipush 83 8 dX12_isSame_81 rfl rfl ?_
            refine dk_callXV (np := 2) (M' := m_X11_of) (As := [.int s2_2, .int 8]) (st := []) 86 dX12_isSame_83 rfl rfl km_X11_of ki_X11_of kv_X11_of ml_EncoresLaw_House_141 (by decide) rfl rfl rfl (fun k hk => by simp at hk) (Nat.le_of_ble_eq_true rfl) (c_X11_of N (d + 0) s2_2 (8 : Int32) h_63.1) (fun _ h => by cases h; exact pr_int) (fun v_83 n_83 e_83 => ?_)
            generalize pat h_63 n_83 = hh_83
            refine dk_gs (fun h_83 _ => ?_)
            show DOk _ _ _ _ _ (.int v_83 :: []) _ _
            refine dk_iconst 87 (-1) dX12_isSame_86 rfl rfl ?_
            refine dk_icmp_ne 106 90 dX12_isSame_87 (by decide) rfl (fun _ => ?_) (fun _ => ?_)
            · refine dk_iconst 107 0 dX12_isSame_106 rfl rfl ?_
              exact dk_zretc dX12_isSame_107 rfl rfl
            · refine dk_aload_n 91 1 dX12_isSame_90 rfl rfl rfl ?_
              refine dk_iload_n 92 2 dX12_isSame_91 rfl rfl rfl ?_
              refine dk_bipush 94 10 dX12_isSame_92 rfl rfl ?_
              refine dk_aload_n 95 0 dX12_isSame_94 rfl rfl rfl ?_
              refine dk_getI 98 dX12_isSame_95 rfl rfl F_EncoresLaw_House_62 (fun a_95 _ => ?_)
              refine dk_iadd 99 dX12_isSame_98 rfl ?_
              refine dk_callXV (np := 2) (M' := m_X11_of) (As := [.int s2_2, .int ((10 : Int32) + a_95)]) (st := []) 102 dX12_isSame_99 rfl rfl km_X11_of ki_X11_of kv_X11_of ml_EncoresLaw_House_141 (by decide) rfl rfl rfl (fun k hk => by simp at hk) (Nat.le_of_ble_eq_true rfl) (c_X11_of N (d + 0) s2_2 ((10 : Int32) + a_95) h_83.1) (fun _ h => by cases h; exact pr_int) (fun v_99 n_99 e_99 => ?_)
              generalize pat h_83 n_99 = hh_99
              refine dk_gs (fun h_99 _ => ?_)
              show DOk _ _ _ _ _ (.int v_99 :: []) _ _
              refine dk_iconst 103 (-1) dX12_isSame_102 rfl rfl ?_
              refine dk_icmp_eq 108 106 dX12_isSame_103 (by decide) rfl (fun _ => ?_) (fun _ => ?_)
              · refine dk_iconst 109 0 dX12_isSame_108 rfl rfl ?_
                refine dk_istore_n 110 3 [some (.ref this), some (.ref 0), some (.int s2_2), some (.int 0)] dX12_isSame_109 rfl rfl (by decide) rfl ?_
                refine dk_less [some (.ref this), some (.ref 0), some (.int s2_2), some (.int 0)] (And.intro rfl (And.intro rfl (And.intro rfl (And.intro rfl (trivial))))) ?_
                exact dl_X12_isSame_L110 (SX := SX) N d this s2_2 (fun hk145 => X ((s2_2 + 1)) hk145) (fun hk145 => by
                    refine dk_iinc 148 2 1 [some (.ref this), some (.ref 0), some (.int (s2_2 + 1)), none] dX12_isSame_145 rfl rfl rfl (by decide) rfl ?_
                    refine dk_goto 2 dX12_isSame_148 (by decide) ?_
                    exact dk_less [some (.ref this), some (.ref 0), some (.int (s2_2 + 1)), none] (And.intro rfl (And.intro rfl (And.intro rfl (trivial)))) (hX ((s2_2 + 1)) hk145)) N (0) h_99
              · refine dk_iconst 107 0 dX12_isSame_106 rfl rfl ?_
                exact dk_zretc dX12_isSame_107 rfl rfl) N (0) h

set_option maxRecDepth 100000 in
set_option maxHeartbeats 4000000 in
theorem dl_X12_isSame_L2 (N d : Nat) (this : Nat)  (K151 : DS → DA) (hK151 : ∀  (h : DS), DOk SX (d + 5) m_X12_isSame 151 [some (.ref this), some (.ref 0), none, none] [] h (K151 h)) : ∀ (n : Nat) (a : Int32) (h : DS), DOk SX (d + 5) m_X12_isSame 2 [some (.ref this), some (.ref 0), some (.int a), none] [] h (jt (fun Y a hz => g_X12_isSame_L2 N this K151 Y a hz) n a h) :=
  dk_jt (fun a => [some (.ref this), some (.ref 0), some (.int a), none]) (fun X hX a h => db_X12_isSame_L2 (SX := SX) N d this  K151 hK151 X hX a h)

set_option maxRecDepth 100000 in
set_option maxHeartbeats 4000000 in
theorem db_X12_isSame_L163 (N d : Nat) (this : Nat) (p2_163 : Int32) (K193 : DS → DA) (hK193 : ∀  (h : DS), DOk SX (d + 5) m_X12_isSame 193 [some (.ref this), some (.ref 0), some (.int p2_163), none] [] h (K193 h)) (X : Int32 → DS → DA) (hX : ∀ (a : Int32) (h : DS), DOk SX (d + 5) m_X12_isSame 163 [some (.ref this), some (.ref 0), some (.int p2_163), some (.int a)] [] h (X a h)) (s3_163 : Int32) (h : DS) : DOk SX (d + 5) m_X12_isSame 163 [some (.ref this), some (.ref 0), some (.int p2_163), some (.int s3_163)] [] h (g_X12_isSame_L163 N this p2_163 K193 X s3_163 h) := by
  unfold g_X12_isSame_L163
  refine dk_iload_n 164 3 dX12_isSame_163 rfl rfl rfl ?_
  refine dk_iconst 165 5 dX12_isSame_164 rfl rfl ?_
  refine dk_icmp_ge 193 168 dX12_isSame_165 (by decide) rfl (fun _ => ?_) (fun _ => ?_)
  · exact dk_less [some (.ref this), some (.ref 0), some (.int p2_163), none] (And.intro rfl (And.intro rfl (And.intro rfl (trivial)))) (hK193 h)
  · refine dk_aload_n 169 1 dX12_isSame_168 rfl rfl rfl ?_
    refine dk_iload_n 170 2 dX12_isSame_169 rfl rfl rfl ?_
    refine dk_iload_n 171 3 dX12_isSame_170 rfl rfl rfl ?_
    refine dk_callXV (np := 2) (M' := m_X11_deedOf) (As := [.int p2_163, .int s3_163]) (st := []) 174 dX12_isSame_171 rfl rfl km_X11_deedOf ki_X11_deedOf kv_X11_deedOf ml_EncoresLaw_House_146 (by decide) rfl rfl rfl (fun k hk => by simp at hk) (Nat.le_of_ble_eq_true rfl) (c_X11_deedOf N (d + 0) p2_163 s3_163 h.1) (fun _ h => by cases h; exact pr_int) (fun v_171 n_171 e_171 => ?_)
    generalize pat h n_171 = hh_171
    refine dk_gs (fun h_171 _ => ?_)
    show DOk _ _ _ _ _ (.int v_171 :: []) _ _
    refine dk_aload_n 175 0 dX12_isSame_174 rfl rfl rfl ?_
    refine dk_getR 178 dX12_isSame_175 rfl rfl F_EncoresLaw_House_25 (fun r_175 _ => ?_)
    refine dk_iload_n 179 2 dX12_isSame_178 rfl rfl rfl ?_
    refine dk_aald 103 180 (Or.inl rfl) dX12_isSame_179 rfl (fun r_179 _ => ?_)
    refine dk_iload_n 181 3 dX12_isSame_180 rfl rfl rfl ?_
    refine dk_iald 182 dX12_isSame_181 rfl (fun a_181 _ => ?_)
    refine dk_icmp_eq 187 185 dX12_isSame_182 (by decide) rfl (fun _ => ?_) (fun _ => ?_)
    · refine dk_iinc 190 3 1 [some (.ref this), some (.ref 0), some (.int p2_163), some (.int (s3_163 + 1))] dX12_isSame_187 rfl rfl rfl (by decide) rfl ?_
      refine dk_goto 163 dX12_isSame_190 (by decide) ?_
      exact dk_less [some (.ref this), some (.ref 0), some (.int p2_163), some (.int (s3_163 + 1))] (And.intro rfl (And.intro rfl (And.intro rfl (And.intro rfl (trivial))))) (hX ((s3_163 + 1)) h_171)
    · refine dk_iconst 186 0 dX12_isSame_185 rfl rfl ?_
      exact dk_zretc dX12_isSame_186 rfl rfl

set_option maxRecDepth 100000 in
set_option maxHeartbeats 4000000 in
theorem dl_X12_isSame_L163 (N d : Nat) (this : Nat) (p2_163 : Int32) (K193 : DS → DA) (hK193 : ∀  (h : DS), DOk SX (d + 5) m_X12_isSame 193 [some (.ref this), some (.ref 0), some (.int p2_163), none] [] h (K193 h)) : ∀ (n : Nat) (a : Int32) (h : DS), DOk SX (d + 5) m_X12_isSame 163 [some (.ref this), some (.ref 0), some (.int p2_163), some (.int a)] [] h (jt (fun Y a hz => g_X12_isSame_L163 N this p2_163 K193 Y a hz) n a h) :=
  dk_jt (fun a => [some (.ref this), some (.ref 0), some (.int p2_163), some (.int a)]) (fun X hX a h => db_X12_isSame_L163 (SX := SX) N d this p2_163 K193 hK193 X hX a h)

set_option maxRecDepth 100000 in
set_option maxHeartbeats 4000000 in
theorem db_X12_isSame_L153 (N d : Nat) (this : Nat)  (K241 : DS → DA) (hK241 : ∀  (h : DS), DOk SX (d + 5) m_X12_isSame 241 [some (.ref this), some (.ref 0), none, none] [] h (K241 h)) (X : Int32 → DS → DA) (hX : ∀ (a : Int32) (h : DS), DOk SX (d + 5) m_X12_isSame 153 [some (.ref this), some (.ref 0), some (.int a), none] [] h (X a h)) (s2_153 : Int32) (h : DS) : DOk SX (d + 5) m_X12_isSame 153 [some (.ref this), some (.ref 0), some (.int s2_153), none] [] h (g_X12_isSame_L153 N this K241 X s2_153 h) := by
  unfold g_X12_isSame_L153
  refine dk_iload_n 154 2 dX12_isSame_153 rfl rfl rfl ?_
  refine dk_aload_n 155 0 dX12_isSame_154 rfl rfl rfl ?_
  refine dk_getI 158 dX12_isSame_155 rfl rfl F_EncoresLaw_House_62 (fun a_155 _ => ?_)
  refine dk_icmp_ge 241 161 dX12_isSame_158 (by decide) rfl (fun _ => ?_) (fun _ => ?_)
  · exact dk_less [some (.ref this), some (.ref 0), none, none] (And.intro rfl (And.intro rfl (trivial))) (hK241 h)
  · refine dk_iconst 162 0 dX12_isSame_161 rfl rfl ?_
    refine dk_istore_n 163 3 [some (.ref this), some (.ref 0), some (.int s2_153), some (.int 0)] dX12_isSame_162 rfl rfl (by decide) rfl ?_
    refine dk_less [some (.ref this), some (.ref 0), some (.int s2_153), some (.int 0)] (And.intro rfl (And.intro rfl (And.intro rfl (And.intro rfl (trivial))))) ?_
    exact dl_X12_isSame_L163 (SX := SX) N d this s2_153 (fun hk193 => chk (isT hk193 11 0) <| bdX (f_X11_deedOf N s2_153 (5 : Int32) hk193.1) hk193 fun v_196 hh_196 => bnd (gs (f_X12_deedOf N s2_153 (5 : Int32)) hh_196) fun h_196 =>
chk (isT h_196 12 this) <| bd3 (g_X12_loud N this s2_153 h_196) fun v_201 h_201 =>
if v_196 = v_201 then (chk (isT h_201 11 0) <| bdX (f_X11_deedOf N s2_153 (6 : Int32) h_201.1) h_201 fun v_211 hh_211 => bnd (gs (f_X12_deedOf N s2_153 (6 : Int32)) hh_211) fun h_211 =>
chk (isT h_211 12 this) <| bd3 (g_X12_wears N this s2_153 h_211) fun v_216 h_216 =>
if v_211 = v_216 then (chk (isT h_216 11 0) <| bdX (f_X11_deedOf N s2_153 (7 : Int32) h_216.1) h_216 fun v_226 hh_226 => bnd (gs (f_X12_deedOf N s2_153 (7 : Int32)) hh_226) fun h_226 =>
if v_226 = (-1 : Int32) then (X ((s2_153 + 1)) h_226)
else (some ((0 : Int32), h_226)))
else (some ((0 : Int32), h_216)))
else (some ((0 : Int32), h_201))) (fun hk193 => by
        refine dk_aload_n 194 1 dX12_isSame_193 rfl rfl rfl ?_
        refine dk_iload_n 195 2 dX12_isSame_194 rfl rfl rfl ?_
        refine dk_iconst 196 5 dX12_isSame_195 rfl rfl ?_
        refine dk_callXV (np := 2) (M' := m_X11_deedOf) (As := [.int s2_153, .int 5]) (st := []) 199 dX12_isSame_196 rfl rfl km_X11_deedOf ki_X11_deedOf kv_X11_deedOf ml_EncoresLaw_House_146 (by decide) rfl rfl rfl (fun k hk => by simp at hk) (Nat.le_of_ble_eq_true rfl) (c_X11_deedOf N (d + 0) s2_153 (5 : Int32) hk193.1) (fun _ h => by cases h; exact pr_int) (fun v_196 n_196 e_196 => ?_)
        generalize pat hk193 n_196 = hh_196
        refine dk_gs (fun h_196 _ => ?_)
        show DOk _ _ _ _ _ (.int v_196 :: []) _ _
        refine dk_aload_n 200 0 dX12_isSame_199 rfl rfl rfl ?_
        refine dk_iload_n 201 2 dX12_isSame_200 rfl rfl rfl ?_
        refine dk_callV (np := 1) (M' := m_X12_loud) (As := [.int s2_153]) (st := [.int v_196]) 12 204 dX12_isSame_201 rfl rfl km_X12_loud ki_X12_loud kv_X12_loud ml_EncoresLaw_House_119 (by decide) (by decide) rfl rfl rfl (Nat.le_of_ble_eq_true rfl) (dc_X12_loud N (d + 2) this s2_153 h_196) (fun v_201 h_201 e_201 => ?_)
        show DOk _ _ _ _ _ (.int v_201 :: [.int v_196]) _ _
        refine dk_icmp_ne 233 207 dX12_isSame_204 (by decide) rfl (fun _ => ?_) (fun _ => ?_)
        · refine dk_iconst 234 0 dX12_isSame_233 rfl rfl ?_
          exact dk_zretc dX12_isSame_234 rfl rfl
        · refine dk_aload_n 208 1 dX12_isSame_207 rfl rfl rfl ?_
          refine dk_iload_n 209 2 dX12_isSame_208 rfl rfl rfl ?_
          refine dk_bipush 211 6 dX12_isSame_209 rfl rfl ?_
          refine dk_callXV (np := 2) (M' := m_X11_deedOf) (As := [.int s2_153, .int 6]) (st := []) 214 dX12_isSame_211 rfl rfl km_X11_deedOf ki_X11_deedOf kv_X11_deedOf ml_EncoresLaw_House_146 (by decide) rfl rfl rfl (fun k hk => by simp at hk) (Nat.le_of_ble_eq_true rfl) (c_X11_deedOf N (d + 0) s2_153 (6 : Int32) h_201.1) (fun _ h => by cases h; exact pr_int) (fun v_211 n_211 e_211 => ?_)
          generalize pat h_201 n_211 = hh_211
          refine dk_gs (fun h_211 _ => ?_)
          show DOk _ _ _ _ _ (.int v_211 :: []) _ _
          refine dk_aload_n 215 0 dX12_isSame_214 rfl rfl rfl ?_
          refine dk_iload_n 216 2 dX12_isSame_215 rfl rfl rfl ?_
          refine dk_callV (np := 1) (M' := m_X12_wears) (As := [.int s2_153]) (st := [.int v_211]) 12 219 dX12_isSame_216 rfl rfl km_X12_wears ki_X12_wears kv_X12_wears ml_EncoresLaw_House_92 (by decide) (by decide) rfl rfl rfl (Nat.le_of_ble_eq_true rfl) (dc_X12_wears N (d + 2) this s2_153 h_211) (fun v_216 h_216 e_216 => ?_)
          show DOk _ _ _ _ _ (.int v_216 :: [.int v_211]) _ _
          refine dk_icmp_ne 233 222 dX12_isSame_219 (by decide) rfl (fun _ => ?_) (fun _ => ?_)
          · refine dk_iconst 234 0 dX12_isSame_233 rfl rfl ?_
            exact dk_zretc dX12_isSame_234 rfl rfl
          · refine dk_aload_n 223 1 dX12_isSame_222 rfl rfl rfl ?_
            refine dk_iload_n 224 2 dX12_isSame_223 rfl rfl rfl ?_
            refine dk_bipush 226 7 dX12_isSame_224 rfl rfl ?_
            refine dk_callXV (np := 2) (M' := m_X11_deedOf) (As := [.int s2_153, .int 7]) (st := []) 229 dX12_isSame_226 rfl rfl km_X11_deedOf ki_X11_deedOf kv_X11_deedOf ml_EncoresLaw_House_146 (by decide) rfl rfl rfl (fun k hk => by simp at hk) (Nat.le_of_ble_eq_true rfl) (c_X11_deedOf N (d + 0) s2_153 (7 : Int32) h_216.1) (fun _ h => by cases h; exact pr_int) (fun v_226 n_226 e_226 => ?_)
            generalize pat h_216 n_226 = hh_226
            refine dk_gs (fun h_226 _ => ?_)
            show DOk _ _ _ _ _ (.int v_226 :: []) _ _
            refine dk_iconst 230 (-1) dX12_isSame_229 rfl rfl ?_
            refine dk_icmp_eq 235 233 dX12_isSame_230 (by decide) rfl (fun _ => ?_) (fun _ => ?_)
            · refine dk_iinc 238 2 1 [some (.ref this), some (.ref 0), some (.int (s2_153 + 1)), none] dX12_isSame_235 rfl rfl rfl (by decide) rfl ?_
              refine dk_goto 153 dX12_isSame_238 (by decide) ?_
              exact dk_less [some (.ref this), some (.ref 0), some (.int (s2_153 + 1)), none] (And.intro rfl (And.intro rfl (And.intro rfl (trivial)))) (hX ((s2_153 + 1)) h_226)
            · refine dk_iconst 234 0 dX12_isSame_233 rfl rfl ?_
              exact dk_zretc dX12_isSame_234 rfl rfl) N (0) h

set_option maxRecDepth 100000 in
set_option maxHeartbeats 4000000 in
theorem dl_X12_isSame_L153 (N d : Nat) (this : Nat)  (K241 : DS → DA) (hK241 : ∀  (h : DS), DOk SX (d + 5) m_X12_isSame 241 [some (.ref this), some (.ref 0), none, none] [] h (K241 h)) : ∀ (n : Nat) (a : Int32) (h : DS), DOk SX (d + 5) m_X12_isSame 153 [some (.ref this), some (.ref 0), some (.int a), none] [] h (jt (fun Y a hz => g_X12_isSame_L153 N this K241 Y a hz) n a h) :=
  dk_jt (fun a => [some (.ref this), some (.ref 0), some (.int a), none]) (fun X hX a h => db_X12_isSame_L153 (SX := SX) N d this  K241 hK241 X hX a h)

set_option maxRecDepth 100000 in
set_option maxHeartbeats 4000000 in
theorem db_X12_isSame_L253 (N d : Nat) (this : Nat) (p2_253 : Int32) (K283 : DS → DA) (hK283 : ∀  (h : DS), DOk SX (d + 5) m_X12_isSame 283 [some (.ref this), some (.ref 0), some (.int p2_253), none] [] h (K283 h)) (X : Int32 → DS → DA) (hX : ∀ (a : Int32) (h : DS), DOk SX (d + 5) m_X12_isSame 253 [some (.ref this), some (.ref 0), some (.int p2_253), some (.int a)] [] h (X a h)) (s3_253 : Int32) (h : DS) : DOk SX (d + 5) m_X12_isSame 253 [some (.ref this), some (.ref 0), some (.int p2_253), some (.int s3_253)] [] h (g_X12_isSame_L253 N this p2_253 K283 X s3_253 h) := by
  unfold g_X12_isSame_L253
  refine dk_iload_n 254 3 dX12_isSame_253 rfl rfl rfl ?_
  refine dk_iconst 255 4 dX12_isSame_254 rfl rfl ?_
  refine dk_icmp_ge 283 258 dX12_isSame_255 (by decide) rfl (fun _ => ?_) (fun _ => ?_)
  · exact dk_less [some (.ref this), some (.ref 0), some (.int p2_253), none] (And.intro rfl (And.intro rfl (And.intro rfl (trivial)))) (hK283 h)
  · refine dk_aload_n 259 1 dX12_isSame_258 rfl rfl rfl ?_
    refine dk_iload_n 260 2 dX12_isSame_259 rfl rfl rfl ?_
    refine dk_iload_n 261 3 dX12_isSame_260 rfl rfl rfl ?_
    refine dk_callXV (np := 2) (M' := m_X11_book) (As := [.int p2_253, .int s3_253]) (st := []) 264 dX12_isSame_261 rfl rfl km_X11_book ki_X11_book kv_X11_book ml_EncoresLaw_House_149 (by decide) rfl rfl rfl (fun k hk => by simp at hk) (Nat.le_of_ble_eq_true rfl) (c_X11_book N (d + 3) p2_253 s3_253 h.1) (fun _ h => by cases h; exact pr_int) (fun v_261 n_261 e_261 => ?_)
    generalize pat h n_261 = hh_261
    refine dk_gs (fun h_261 _ => ?_)
    show DOk _ _ _ _ _ (.int v_261 :: []) _ _
    refine dk_aload_n 265 0 dX12_isSame_264 rfl rfl rfl ?_
    refine dk_getR 268 dX12_isSame_265 rfl rfl F_EncoresLaw_House_28 (fun r_265 _ => ?_)
    refine dk_iload_n 269 2 dX12_isSame_268 rfl rfl rfl ?_
    refine dk_aald 103 270 (Or.inl rfl) dX12_isSame_269 rfl (fun r_269 _ => ?_)
    refine dk_iload_n 271 3 dX12_isSame_270 rfl rfl rfl ?_
    refine dk_iald 272 dX12_isSame_271 rfl (fun a_271 _ => ?_)
    refine dk_icmp_eq 277 275 dX12_isSame_272 (by decide) rfl (fun _ => ?_) (fun _ => ?_)
    · refine dk_iinc 280 3 1 [some (.ref this), some (.ref 0), some (.int p2_253), some (.int (s3_253 + 1))] dX12_isSame_277 rfl rfl rfl (by decide) rfl ?_
      refine dk_goto 253 dX12_isSame_280 (by decide) ?_
      exact dk_less [some (.ref this), some (.ref 0), some (.int p2_253), some (.int (s3_253 + 1))] (And.intro rfl (And.intro rfl (And.intro rfl (And.intro rfl (trivial))))) (hX ((s3_253 + 1)) h_261)
    · refine dk_iconst 276 0 dX12_isSame_275 rfl rfl ?_
      exact dk_zretc dX12_isSame_276 rfl rfl

set_option maxRecDepth 100000 in
set_option maxHeartbeats 4000000 in
theorem dl_X12_isSame_L253 (N d : Nat) (this : Nat) (p2_253 : Int32) (K283 : DS → DA) (hK283 : ∀  (h : DS), DOk SX (d + 5) m_X12_isSame 283 [some (.ref this), some (.ref 0), some (.int p2_253), none] [] h (K283 h)) : ∀ (n : Nat) (a : Int32) (h : DS), DOk SX (d + 5) m_X12_isSame 253 [some (.ref this), some (.ref 0), some (.int p2_253), some (.int a)] [] h (jt (fun Y a hz => g_X12_isSame_L253 N this p2_253 K283 Y a hz) n a h) :=
  dk_jt (fun a => [some (.ref this), some (.ref 0), some (.int p2_253), some (.int a)]) (fun X hX a h => db_X12_isSame_L253 (SX := SX) N d this p2_253 K283 hK283 X hX a h)

set_option maxRecDepth 100000 in
set_option maxHeartbeats 4000000 in
theorem db_X12_isSame_L243 (N d : Nat) (this : Nat)  (K289 : DS → DA) (hK289 : ∀  (h : DS), DOk SX (d + 5) m_X12_isSame 289 [some (.ref this), some (.ref 0), none, none] [] h (K289 h)) (X : Int32 → DS → DA) (hX : ∀ (a : Int32) (h : DS), DOk SX (d + 5) m_X12_isSame 243 [some (.ref this), some (.ref 0), some (.int a), none] [] h (X a h)) (s2_243 : Int32) (h : DS) : DOk SX (d + 5) m_X12_isSame 243 [some (.ref this), some (.ref 0), some (.int s2_243), none] [] h (g_X12_isSame_L243 N this K289 X s2_243 h) := by
  unfold g_X12_isSame_L243
  refine dk_iload_n 244 2 dX12_isSame_243 rfl rfl rfl ?_
  refine dk_aload_n 245 0 dX12_isSame_244 rfl rfl rfl ?_
  refine dk_getI 248 dX12_isSame_245 rfl rfl F_EncoresLaw_House_65 (fun a_245 _ => ?_)
  refine dk_icmp_ge 289 251 dX12_isSame_248 (by decide) rfl (fun _ => ?_) (fun _ => ?_)
  · exact dk_less [some (.ref this), some (.ref 0), none, none] (And.intro rfl (And.intro rfl (trivial))) (hK289 h)
  · refine dk_iconst 252 0 dX12_isSame_251 rfl rfl ?_
    refine dk_istore_n 253 3 [some (.ref this), some (.ref 0), some (.int s2_243), some (.int 0)] dX12_isSame_252 rfl rfl (by decide) rfl ?_
    refine dk_less [some (.ref this), some (.ref 0), some (.int s2_243), some (.int 0)] (And.intro rfl (And.intro rfl (And.intro rfl (And.intro rfl (trivial))))) ?_
    exact dl_X12_isSame_L253 (SX := SX) N d this s2_243 (fun hk283 => X ((s2_243 + 1)) hk283) (fun hk283 => by
        refine dk_iinc 286 2 1 [some (.ref this), some (.ref 0), some (.int (s2_243 + 1)), none] dX12_isSame_283 rfl rfl rfl (by decide) rfl ?_
        refine dk_goto 243 dX12_isSame_286 (by decide) ?_
        exact dk_less [some (.ref this), some (.ref 0), some (.int (s2_243 + 1)), none] (And.intro rfl (And.intro rfl (And.intro rfl (trivial)))) (hX ((s2_243 + 1)) hk283)) N (0) h

set_option maxRecDepth 100000 in
set_option maxHeartbeats 4000000 in
theorem dl_X12_isSame_L243 (N d : Nat) (this : Nat)  (K289 : DS → DA) (hK289 : ∀  (h : DS), DOk SX (d + 5) m_X12_isSame 289 [some (.ref this), some (.ref 0), none, none] [] h (K289 h)) : ∀ (n : Nat) (a : Int32) (h : DS), DOk SX (d + 5) m_X12_isSame 243 [some (.ref this), some (.ref 0), some (.int a), none] [] h (jt (fun Y a hz => g_X12_isSame_L243 N this K289 Y a hz) n a h) :=
  dk_jt (fun a => [some (.ref this), some (.ref 0), some (.int a), none]) (fun X hX a h => db_X12_isSame_L243 (SX := SX) N d this  K289 hK289 X hX a h)

set_option maxRecDepth 100000 in
set_option maxHeartbeats 4000000 in
theorem db_X12_isSame_L378 (N d : Nat) (this : Nat) (p2_378 : Nat) (K403 : DS → DA) (hK403 : ∀  (h : DS), DOk SX (d + 5) m_X12_isSame 403 [some (.ref this), some (.ref 0), none, none] [] h (K403 h)) (X : Int32 → DS → DA) (hX : ∀ (a : Int32) (h : DS), DOk SX (d + 5) m_X12_isSame 378 [some (.ref this), some (.ref 0), some (.ref p2_378), some (.int a)] [] h (X a h)) (s3_378 : Int32) (h : DS) : DOk SX (d + 5) m_X12_isSame 378 [some (.ref this), some (.ref 0), some (.ref p2_378), some (.int s3_378)] [] h (g_X12_isSame_L378 N this p2_378 K403 X s3_378 h) := by
  unfold g_X12_isSame_L378
  refine dk_iload_n 379 3 dX12_isSame_378 rfl rfl rfl ?_
  refine dk_bipush 381 11 dX12_isSame_379 rfl rfl ?_
  refine dk_icmp_ge 403 384 dX12_isSame_381 (by decide) rfl (fun _ => ?_) (fun _ => ?_)
  · exact dk_less [some (.ref this), some (.ref 0), none, none] (And.intro rfl (And.intro rfl (trivial))) (hK403 h)
  · refine dk_aload_n 385 1 dX12_isSame_384 rfl rfl rfl ?_
    refine dk_iload_n 386 3 dX12_isSame_385 rfl rfl rfl ?_
    refine dk_callXV (np := 1) (M' := m_X11_look) (As := [.int s3_378]) (st := []) 389 dX12_isSame_386 rfl rfl km_X11_look ki_X11_look kv_X11_look ml_EncoresLaw_House_155 (by decide) rfl rfl rfl (fun k hk => by simp at hk) (Nat.le_of_ble_eq_true rfl) (c_X11_look N (d + 2) s3_378 h.1) (fun _ h => by cases h; exact pr_int) (fun v_386 n_386 e_386 => ?_)
    generalize pat h n_386 = hh_386
    refine dk_gs (fun h_386 _ => ?_)
    show DOk _ _ _ _ _ (.int v_386 :: []) _ _
    refine dk_aload_n 390 2 dX12_isSame_389 rfl rfl rfl ?_
    refine dk_iload_n 391 3 dX12_isSame_390 rfl rfl rfl ?_
    refine dk_iald 392 dX12_isSame_391 rfl (fun a_391 _ => ?_)
    refine dk_icmp_eq 397 395 dX12_isSame_392 (by decide) rfl (fun _ => ?_) (fun _ => ?_)
    · refine dk_iinc 400 3 1 [some (.ref this), some (.ref 0), some (.ref p2_378), some (.int (s3_378 + 1))] dX12_isSame_397 rfl rfl rfl (by decide) rfl ?_
      refine dk_goto 378 dX12_isSame_400 (by decide) ?_
      exact dk_less [some (.ref this), some (.ref 0), some (.ref p2_378), some (.int (s3_378 + 1))] (And.intro rfl (And.intro rfl (And.intro rfl (And.intro rfl (trivial))))) (hX ((s3_378 + 1)) h_386)
    · refine dk_iconst 396 0 dX12_isSame_395 rfl rfl ?_
      exact dk_zretc dX12_isSame_396 rfl rfl

set_option maxRecDepth 100000 in
set_option maxHeartbeats 4000000 in
theorem dl_X12_isSame_L378 (N d : Nat) (this : Nat) (p2_378 : Nat) (K403 : DS → DA) (hK403 : ∀  (h : DS), DOk SX (d + 5) m_X12_isSame 403 [some (.ref this), some (.ref 0), none, none] [] h (K403 h)) : ∀ (n : Nat) (a : Int32) (h : DS), DOk SX (d + 5) m_X12_isSame 378 [some (.ref this), some (.ref 0), some (.ref p2_378), some (.int a)] [] h (jt (fun Y a hz => g_X12_isSame_L378 N this p2_378 K403 Y a hz) n a h) :=
  dk_jt (fun a => [some (.ref this), some (.ref 0), some (.ref p2_378), some (.int a)]) (fun X hX a h => db_X12_isSame_L378 (SX := SX) N d this p2_378 K403 hK403 X hX a h)

set_option maxRecDepth 100000 in
set_option maxHeartbeats 4000000 in
theorem dg_X12_isSame (N d : Nat) (this : Nat) (h : DS) : DOk SX (d + 5) m_X12_isSame 0 [some (.ref this), some (.ref 0), none, none] [] h (g_X12_isSame N this h) := by
  unfold g_X12_isSame
  refine dk_iconst 1 0 dX12_isSame_0 rfl rfl ?_
  refine dk_istore_n 2 2 [some (.ref this), some (.ref 0), some (.int 0), none] dX12_isSame_1 rfl rfl (by decide) rfl ?_
  refine dk_less [some (.ref this), some (.ref 0), some (.int 0), none] (And.intro rfl (And.intro rfl (And.intro rfl (trivial)))) ?_
  exact dl_X12_isSame_L2 (SX := SX) N d this  (fun hk151 => jt (fun Y a hz => g_X12_isSame_L153 N this  (fun hk241 => jt (fun Y a hz => g_X12_isSame_L243 N this  (fun hk289 => bo (nA hk289 100 (11 : Int32)) fun h_291 =>
bo (dI h_291 this 12 7) fun a_296 =>
bo (sA h_291 100 hk289.2.1.length (0 : Int32) a_296) fun h_299 =>
bo (dI h_299 this 12 8) fun a_303 =>
bo (sA h_299 100 hk289.2.1.length (1 : Int32) a_303) fun h_306 =>
bo (dI h_306 this 12 1) fun a_310 =>
bo (sA h_306 100 hk289.2.1.length (2 : Int32) a_310) fun h_313 =>
bo (dI h_313 this 12 2) fun a_317 =>
bo (sA h_313 100 hk289.2.1.length (3 : Int32) a_317) fun h_320 =>
bo (dI h_320 this 12 3) fun a_324 =>
bo (sA h_320 100 hk289.2.1.length (4 : Int32) a_324) fun h_327 =>
bo (dI h_327 this 12 6) fun a_331 =>
bo (sA h_327 100 hk289.2.1.length (5 : Int32) a_331) fun h_334 =>
bo (dI h_334 this 12 4) fun a_339 =>
bo (sA h_334 100 hk289.2.1.length (6 : Int32) a_339) fun h_342 =>
bo (dI h_342 this 12 5) fun a_347 =>
bo (sA h_342 100 hk289.2.1.length (7 : Int32) a_347) fun h_350 =>
chk (isT h_350 12 this) <| bd3 (g_X12_there N this h_350) fun v_355 h_355 =>
bo (sA h_355 100 hk289.2.1.length (8 : Int32) v_355) fun h_358 =>
bo (dI h_358 this 12 9) fun a_363 =>
bo (sA h_358 100 hk289.2.1.length (9 : Int32) a_363) fun h_366 =>
bo (dI h_366 this 12 0) fun a_371 =>
bo (sA h_366 100 hk289.2.1.length (10 : Int32) a_371) fun h_374 =>
jt (fun Y a hz => g_X12_isSame_L378 N this hk289.2.1.length (fun hk403 => bo (dI hk403 this 12 7) fun a_405 =>
chk (isT hk403 11 0) <| bdX (f_X11_of N a_405 (0 : Int32) hk403.1) hk403 fun v_409 hh_409 => bnd (gs (f_X12_of N a_405 (0 : Int32)) hh_409) fun h_409 =>
if v_409 = (-1 : Int32) then (bo (dI h_409 this 12 8) fun a_418 =>
chk (isT h_409 11 0) <| bdX (f_X11_deedOf N a_418 (0 : Int32) h_409.1) h_409 fun v_422 hh_422 => bnd (gs (f_X12_deedOf N a_418 (0 : Int32)) hh_422) fun h_422 =>
if v_422 = (-1 : Int32) then (bo (dI h_422 this 12 9) fun a_431 =>
chk (isT h_422 11 0) <| bdX (f_X11_book N a_431 (0 : Int32) h_422.1) h_422 fun v_435 hh_435 => bnd (gs (f_X12_book N a_431 (0 : Int32)) hh_435) fun h_435 =>
if v_435 = (-1 : Int32) then (chk (isT h_435 11 0) <| bdX (f_X11_statute N (0 : Int32) h_435.1) h_435 fun v_444 hh_444 => bnd (gs (f_X12_statute N (0 : Int32)) hh_444) fun h_444 =>
chk (isT h_444 12 this) <| bd3 (g_X12_asks N this h_444) fun v_448 h_448 =>
if v_444 = v_448 then (chk (isT h_448 11 0) <| bdX (f_X11_statute N (1 : Int32) h_448.1) h_448 fun v_456 hh_456 => bnd (gs (f_X12_statute N (1 : Int32)) hh_456) fun h_456 =>
bo (dI h_456 this 12 10) fun a_460 =>
if v_456 = a_460 then (chk (isT h_456 11 0) <| bdX (f_X11_statute N (2 : Int32) h_456.1) h_456 fun v_468 hh_468 => bnd (gs (f_X12_statute N (2 : Int32)) hh_468) fun h_468 =>
bo (dI h_468 this 12 11) fun a_472 =>
if v_468 = a_472 then (chk (isT h_468 11 0) <| bdX (f_X11_statute N (3 : Int32) h_468.1) h_468 fun v_480 hh_480 => bnd (gs (f_X12_statute N (3 : Int32)) hh_480) fun h_480 =>
if v_480 = (-1 : Int32) then (chk (isT h_480 11 0) <| bdX (f_X11_look N (12 : Int32) h_480.1) h_480 fun v_490 hh_490 => bnd (gs (f_X12_look N (12 : Int32)) hh_490) fun h_490 =>
bo (dI h_490 this 12 13) fun a_494 =>
if v_490 = a_494 then (chk (isT h_490 11 0) <| bdX (f_X11_look N (13 : Int32) h_490.1) h_490 fun v_503 hh_503 => bnd (gs (f_X12_look N (13 : Int32)) hh_503) fun h_503 =>
bo (nn (dR h_503 this 12 19)) fun r_507 =>
bo (aN h_503 103 r_507) fun c_510 =>
if v_503 = (Int32.ofNat c_510) then (chk (isT h_503 11 0) <| bdX (f_X11_look N (14 : Int32) h_503.1) h_503 fun v_517 hh_517 => bnd (gs (f_X12_look N (14 : Int32)) hh_517) fun h_517 =>
bo (dI h_517 this 12 14) fun a_521 =>
if v_517 = a_521 then (some ((1 : Int32), h_517))
else (some ((0 : Int32), h_517)))
else (some ((0 : Int32), h_503)))
else (some ((0 : Int32), h_490)))
else (some ((0 : Int32), h_480)))
else (some ((0 : Int32), h_468)))
else (some ((0 : Int32), h_456)))
else (some ((0 : Int32), h_448)))
else (some ((0 : Int32), h_435)))
else (some ((0 : Int32), h_422)))
else (some ((0 : Int32), h_409))) Y a hz) N (0) h_374) Y a hz) N (0) hk241) Y a hz) N (0) hk151) (fun hk151 => by
      refine dk_iconst 152 0 dX12_isSame_151 rfl rfl ?_
      refine dk_istore_n 153 2 [some (.ref this), some (.ref 0), some (.int 0), none] dX12_isSame_152 rfl rfl (by decide) rfl ?_
      refine dk_less [some (.ref this), some (.ref 0), some (.int 0), none] (And.intro rfl (And.intro rfl (And.intro rfl (trivial)))) ?_
      exact dl_X12_isSame_L153 (SX := SX) N d this  (fun hk241 => jt (fun Y a hz => g_X12_isSame_L243 N this  (fun hk289 => bo (nA hk289 100 (11 : Int32)) fun h_291 =>
bo (dI h_291 this 12 7) fun a_296 =>
bo (sA h_291 100 hk289.2.1.length (0 : Int32) a_296) fun h_299 =>
bo (dI h_299 this 12 8) fun a_303 =>
bo (sA h_299 100 hk289.2.1.length (1 : Int32) a_303) fun h_306 =>
bo (dI h_306 this 12 1) fun a_310 =>
bo (sA h_306 100 hk289.2.1.length (2 : Int32) a_310) fun h_313 =>
bo (dI h_313 this 12 2) fun a_317 =>
bo (sA h_313 100 hk289.2.1.length (3 : Int32) a_317) fun h_320 =>
bo (dI h_320 this 12 3) fun a_324 =>
bo (sA h_320 100 hk289.2.1.length (4 : Int32) a_324) fun h_327 =>
bo (dI h_327 this 12 6) fun a_331 =>
bo (sA h_327 100 hk289.2.1.length (5 : Int32) a_331) fun h_334 =>
bo (dI h_334 this 12 4) fun a_339 =>
bo (sA h_334 100 hk289.2.1.length (6 : Int32) a_339) fun h_342 =>
bo (dI h_342 this 12 5) fun a_347 =>
bo (sA h_342 100 hk289.2.1.length (7 : Int32) a_347) fun h_350 =>
chk (isT h_350 12 this) <| bd3 (g_X12_there N this h_350) fun v_355 h_355 =>
bo (sA h_355 100 hk289.2.1.length (8 : Int32) v_355) fun h_358 =>
bo (dI h_358 this 12 9) fun a_363 =>
bo (sA h_358 100 hk289.2.1.length (9 : Int32) a_363) fun h_366 =>
bo (dI h_366 this 12 0) fun a_371 =>
bo (sA h_366 100 hk289.2.1.length (10 : Int32) a_371) fun h_374 =>
jt (fun Y a hz => g_X12_isSame_L378 N this hk289.2.1.length (fun hk403 => bo (dI hk403 this 12 7) fun a_405 =>
chk (isT hk403 11 0) <| bdX (f_X11_of N a_405 (0 : Int32) hk403.1) hk403 fun v_409 hh_409 => bnd (gs (f_X12_of N a_405 (0 : Int32)) hh_409) fun h_409 =>
if v_409 = (-1 : Int32) then (bo (dI h_409 this 12 8) fun a_418 =>
chk (isT h_409 11 0) <| bdX (f_X11_deedOf N a_418 (0 : Int32) h_409.1) h_409 fun v_422 hh_422 => bnd (gs (f_X12_deedOf N a_418 (0 : Int32)) hh_422) fun h_422 =>
if v_422 = (-1 : Int32) then (bo (dI h_422 this 12 9) fun a_431 =>
chk (isT h_422 11 0) <| bdX (f_X11_book N a_431 (0 : Int32) h_422.1) h_422 fun v_435 hh_435 => bnd (gs (f_X12_book N a_431 (0 : Int32)) hh_435) fun h_435 =>
if v_435 = (-1 : Int32) then (chk (isT h_435 11 0) <| bdX (f_X11_statute N (0 : Int32) h_435.1) h_435 fun v_444 hh_444 => bnd (gs (f_X12_statute N (0 : Int32)) hh_444) fun h_444 =>
chk (isT h_444 12 this) <| bd3 (g_X12_asks N this h_444) fun v_448 h_448 =>
if v_444 = v_448 then (chk (isT h_448 11 0) <| bdX (f_X11_statute N (1 : Int32) h_448.1) h_448 fun v_456 hh_456 => bnd (gs (f_X12_statute N (1 : Int32)) hh_456) fun h_456 =>
bo (dI h_456 this 12 10) fun a_460 =>
if v_456 = a_460 then (chk (isT h_456 11 0) <| bdX (f_X11_statute N (2 : Int32) h_456.1) h_456 fun v_468 hh_468 => bnd (gs (f_X12_statute N (2 : Int32)) hh_468) fun h_468 =>
bo (dI h_468 this 12 11) fun a_472 =>
if v_468 = a_472 then (chk (isT h_468 11 0) <| bdX (f_X11_statute N (3 : Int32) h_468.1) h_468 fun v_480 hh_480 => bnd (gs (f_X12_statute N (3 : Int32)) hh_480) fun h_480 =>
if v_480 = (-1 : Int32) then (chk (isT h_480 11 0) <| bdX (f_X11_look N (12 : Int32) h_480.1) h_480 fun v_490 hh_490 => bnd (gs (f_X12_look N (12 : Int32)) hh_490) fun h_490 =>
bo (dI h_490 this 12 13) fun a_494 =>
if v_490 = a_494 then (chk (isT h_490 11 0) <| bdX (f_X11_look N (13 : Int32) h_490.1) h_490 fun v_503 hh_503 => bnd (gs (f_X12_look N (13 : Int32)) hh_503) fun h_503 =>
bo (nn (dR h_503 this 12 19)) fun r_507 =>
bo (aN h_503 103 r_507) fun c_510 =>
if v_503 = (Int32.ofNat c_510) then (chk (isT h_503 11 0) <| bdX (f_X11_look N (14 : Int32) h_503.1) h_503 fun v_517 hh_517 => bnd (gs (f_X12_look N (14 : Int32)) hh_517) fun h_517 =>
bo (dI h_517 this 12 14) fun a_521 =>
if v_517 = a_521 then (some ((1 : Int32), h_517))
else (some ((0 : Int32), h_517)))
else (some ((0 : Int32), h_503)))
else (some ((0 : Int32), h_490)))
else (some ((0 : Int32), h_480)))
else (some ((0 : Int32), h_468)))
else (some ((0 : Int32), h_456)))
else (some ((0 : Int32), h_448)))
else (some ((0 : Int32), h_435)))
else (some ((0 : Int32), h_422)))
else (some ((0 : Int32), h_409))) Y a hz) N (0) h_374) Y a hz) N (0) hk241) (fun hk241 => by
          refine dk_iconst 242 0 dX12_isSame_241 rfl rfl ?_
          refine dk_istore_n 243 2 [some (.ref this), some (.ref 0), some (.int 0), none] dX12_isSame_242 rfl rfl (by decide) rfl ?_
          refine dk_less [some (.ref this), some (.ref 0), some (.int 0), none] (And.intro rfl (And.intro rfl (And.intro rfl (trivial)))) ?_
          exact dl_X12_isSame_L243 (SX := SX) N d this  (fun hk289 => bo (nA hk289 100 (11 : Int32)) fun h_291 =>
bo (dI h_291 this 12 7) fun a_296 =>
bo (sA h_291 100 hk289.2.1.length (0 : Int32) a_296) fun h_299 =>
bo (dI h_299 this 12 8) fun a_303 =>
bo (sA h_299 100 hk289.2.1.length (1 : Int32) a_303) fun h_306 =>
bo (dI h_306 this 12 1) fun a_310 =>
bo (sA h_306 100 hk289.2.1.length (2 : Int32) a_310) fun h_313 =>
bo (dI h_313 this 12 2) fun a_317 =>
bo (sA h_313 100 hk289.2.1.length (3 : Int32) a_317) fun h_320 =>
bo (dI h_320 this 12 3) fun a_324 =>
bo (sA h_320 100 hk289.2.1.length (4 : Int32) a_324) fun h_327 =>
bo (dI h_327 this 12 6) fun a_331 =>
bo (sA h_327 100 hk289.2.1.length (5 : Int32) a_331) fun h_334 =>
bo (dI h_334 this 12 4) fun a_339 =>
bo (sA h_334 100 hk289.2.1.length (6 : Int32) a_339) fun h_342 =>
bo (dI h_342 this 12 5) fun a_347 =>
bo (sA h_342 100 hk289.2.1.length (7 : Int32) a_347) fun h_350 =>
chk (isT h_350 12 this) <| bd3 (g_X12_there N this h_350) fun v_355 h_355 =>
bo (sA h_355 100 hk289.2.1.length (8 : Int32) v_355) fun h_358 =>
bo (dI h_358 this 12 9) fun a_363 =>
bo (sA h_358 100 hk289.2.1.length (9 : Int32) a_363) fun h_366 =>
bo (dI h_366 this 12 0) fun a_371 =>
bo (sA h_366 100 hk289.2.1.length (10 : Int32) a_371) fun h_374 =>
jt (fun Y a hz => g_X12_isSame_L378 N this hk289.2.1.length (fun hk403 => bo (dI hk403 this 12 7) fun a_405 =>
chk (isT hk403 11 0) <| bdX (f_X11_of N a_405 (0 : Int32) hk403.1) hk403 fun v_409 hh_409 => bnd (gs (f_X12_of N a_405 (0 : Int32)) hh_409) fun h_409 =>
if v_409 = (-1 : Int32) then (bo (dI h_409 this 12 8) fun a_418 =>
chk (isT h_409 11 0) <| bdX (f_X11_deedOf N a_418 (0 : Int32) h_409.1) h_409 fun v_422 hh_422 => bnd (gs (f_X12_deedOf N a_418 (0 : Int32)) hh_422) fun h_422 =>
if v_422 = (-1 : Int32) then (bo (dI h_422 this 12 9) fun a_431 =>
chk (isT h_422 11 0) <| bdX (f_X11_book N a_431 (0 : Int32) h_422.1) h_422 fun v_435 hh_435 => bnd (gs (f_X12_book N a_431 (0 : Int32)) hh_435) fun h_435 =>
if v_435 = (-1 : Int32) then (chk (isT h_435 11 0) <| bdX (f_X11_statute N (0 : Int32) h_435.1) h_435 fun v_444 hh_444 => bnd (gs (f_X12_statute N (0 : Int32)) hh_444) fun h_444 =>
chk (isT h_444 12 this) <| bd3 (g_X12_asks N this h_444) fun v_448 h_448 =>
if v_444 = v_448 then (chk (isT h_448 11 0) <| bdX (f_X11_statute N (1 : Int32) h_448.1) h_448 fun v_456 hh_456 => bnd (gs (f_X12_statute N (1 : Int32)) hh_456) fun h_456 =>
bo (dI h_456 this 12 10) fun a_460 =>
if v_456 = a_460 then (chk (isT h_456 11 0) <| bdX (f_X11_statute N (2 : Int32) h_456.1) h_456 fun v_468 hh_468 => bnd (gs (f_X12_statute N (2 : Int32)) hh_468) fun h_468 =>
bo (dI h_468 this 12 11) fun a_472 =>
if v_468 = a_472 then (chk (isT h_468 11 0) <| bdX (f_X11_statute N (3 : Int32) h_468.1) h_468 fun v_480 hh_480 => bnd (gs (f_X12_statute N (3 : Int32)) hh_480) fun h_480 =>
if v_480 = (-1 : Int32) then (chk (isT h_480 11 0) <| bdX (f_X11_look N (12 : Int32) h_480.1) h_480 fun v_490 hh_490 => bnd (gs (f_X12_look N (12 : Int32)) hh_490) fun h_490 =>
bo (dI h_490 this 12 13) fun a_494 =>
if v_490 = a_494 then (chk (isT h_490 11 0) <| bdX (f_X11_look N (13 : Int32) h_490.1) h_490 fun v_503 hh_503 => bnd (gs (f_X12_look N (13 : Int32)) hh_503) fun h_503 =>
bo (nn (dR h_503 this 12 19)) fun r_507 =>
bo (aN h_503 103 r_507) fun c_510 =>
if v_503 = (Int32.ofNat c_510) then (chk (isT h_503 11 0) <| bdX (f_X11_look N (14 : Int32) h_503.1) h_503 fun v_517 hh_517 => bnd (gs (f_X12_look N (14 : Int32)) hh_517) fun h_517 =>
bo (dI h_517 this 12 14) fun a_521 =>
if v_517 = a_521 then (some ((1 : Int32), h_517))
else (some ((0 : Int32), h_517)))
else (some ((0 : Int32), h_503)))
else (some ((0 : Int32), h_490)))
else (some ((0 : Int32), h_480)))
else (some ((0 : Int32), h_468)))
else (some ((0 : Int32), h_456)))
else (some ((0 : Int32), h_448)))
else (some ((0 : Int32), h_435)))
else (some ((0 : Int32), h_422)))
else (some ((0 : Int32), h_409))) Y a hz) N (0) h_374) (fun hk289 => by
              refine dk_bipush 291 11 dX12_isSame_289 rfl rfl ?_
              refine dk_newaI 293 dX12_isSame_291 rfl (fun h_291 _ => ?_)
              refine dk_dup 294 dX12_isSame_293 rfl rfl ?_
              refine dk_iconst 295 0 dX12_isSame_294 rfl rfl ?_
              refine dk_aload_n 296 0 dX12_isSame_295 rfl rfl rfl ?_
              refine dk_getI 299 dX12_isSame_296 rfl rfl F_EncoresLaw_House_59 (fun a_296 _ => ?_)
              refine dk_iast 300 dX12_isSame_299 rfl (fun h_299 _ => ?_)
              refine dk_dup 301 dX12_isSame_300 rfl rfl ?_
              refine dk_iconst 302 1 dX12_isSame_301 rfl rfl ?_
              refine dk_aload_n 303 0 dX12_isSame_302 rfl rfl rfl ?_
              refine dk_getI 306 dX12_isSame_303 rfl rfl F_EncoresLaw_House_62 (fun a_303 _ => ?_)
              refine dk_iast 307 dX12_isSame_306 rfl (fun h_306 _ => ?_)
              refine dk_dup 308 dX12_isSame_307 rfl rfl ?_
              refine dk_iconst 309 2 dX12_isSame_308 rfl rfl ?_
              refine dk_aload_n 310 0 dX12_isSame_309 rfl rfl rfl ?_
              refine dk_getI 313 dX12_isSame_310 rfl rfl F_EncoresLaw_House_44 (fun a_310 _ => ?_)
              refine dk_iast 314 dX12_isSame_313 rfl (fun h_313 _ => ?_)
              refine dk_dup 315 dX12_isSame_314 rfl rfl ?_
              refine dk_iconst 316 3 dX12_isSame_315 rfl rfl ?_
              refine dk_aload_n 317 0 dX12_isSame_316 rfl rfl rfl ?_
              refine dk_getI 320 dX12_isSame_317 rfl rfl F_EncoresLaw_House_47 (fun a_317 _ => ?_)
              refine dk_iast 321 dX12_isSame_320 rfl (fun h_320 _ => ?_)
              refine dk_dup 322 dX12_isSame_321 rfl rfl ?_
              refine dk_iconst 323 4 dX12_isSame_322 rfl rfl ?_
              refine dk_aload_n 324 0 dX12_isSame_323 rfl rfl rfl ?_
              refine dk_getI 327 dX12_isSame_324 rfl rfl F_EncoresLaw_House_50 (fun a_324 _ => ?_)
              refine dk_iast 328 dX12_isSame_327 rfl (fun h_327 _ => ?_)
              refine dk_dup 329 dX12_isSame_328 rfl rfl ?_
              refine dk_iconst 330 5 dX12_isSame_329 rfl rfl ?_
              refine dk_aload_n 331 0 dX12_isSame_330 rfl rfl rfl ?_
              refine dk_getI 334 dX12_isSame_331 rfl rfl F_EncoresLaw_House_56 (fun a_331 _ => ?_)
              refine dk_iast 335 dX12_isSame_334 rfl (fun h_334 _ => ?_)
              refine dk_dup 336 dX12_isSame_335 rfl rfl ?_
              refine dk_bipush 338 6 dX12_isSame_336 rfl rfl ?_
              refine dk_aload_n 339 0 dX12_isSame_338 rfl rfl rfl ?_
              refine dk_getI 342 dX12_isSame_339 rfl rfl F_EncoresLaw_House_7 (fun a_339 _ => ?_)
              refine dk_iast 343 dX12_isSame_342 rfl (fun h_342 _ => ?_)
              refine dk_dup 344 dX12_isSame_343 rfl rfl ?_
              refine dk_bipush 346 7 dX12_isSame_344 rfl rfl ?_
              refine dk_aload_n 347 0 dX12_isSame_346 rfl rfl rfl ?_
              refine dk_getI 350 dX12_isSame_347 rfl rfl F_EncoresLaw_House_53 (fun a_347 _ => ?_)
              refine dk_iast 351 dX12_isSame_350 rfl (fun h_350 _ => ?_)
              refine dk_dup 352 dX12_isSame_351 rfl rfl ?_
              refine dk_bipush 354 8 dX12_isSame_352 rfl rfl ?_
              refine dk_aload_n 355 0 dX12_isSame_354 rfl rfl rfl ?_
              refine dk_callV (np := 0) (M' := m_X12_there) (As := []) (st := [.int 8, .ref hk289.2.1.length, .ref hk289.2.1.length]) 12 358 dX12_isSame_355 rfl rfl km_X12_there ki_X12_there kv_X12_there ml_EncoresLaw_House_152 (by decide) (by decide) rfl rfl rfl (Nat.le_of_ble_eq_true rfl) (dc_X12_there N (d + 4) this h_350) (fun v_355 h_355 e_355 => ?_)
              show DOk _ _ _ _ _ (.int v_355 :: [.int 8, .ref hk289.2.1.length, .ref hk289.2.1.length]) _ _
              refine dk_iast 359 dX12_isSame_358 rfl (fun h_358 _ => ?_)
              refine dk_dup 360 dX12_isSame_359 rfl rfl ?_
              refine dk_bipush 362 9 dX12_isSame_360 rfl rfl ?_
              refine dk_aload_n 363 0 dX12_isSame_362 rfl rfl rfl ?_
              refine dk_getI 366 dX12_isSame_363 rfl rfl F_EncoresLaw_House_65 (fun a_363 _ => ?_)
              refine dk_iast 367 dX12_isSame_366 rfl (fun h_366 _ => ?_)
              refine dk_dup 368 dX12_isSame_367 rfl rfl ?_
              refine dk_bipush 370 10 dX12_isSame_368 rfl rfl ?_
              refine dk_aload_n 371 0 dX12_isSame_370 rfl rfl rfl ?_
              refine dk_getI 374 dX12_isSame_371 rfl rfl F_EncoresLaw_House_41 (fun a_371 _ => ?_)
              refine dk_iast 375 dX12_isSame_374 rfl (fun h_374 _ => ?_)
              refine dk_astore_n 376 2 [some (.ref this), some (.ref 0), some (.ref hk289.2.1.length), none] dX12_isSame_375 rfl rfl (by decide) rfl ?_
              refine dk_iconst 377 0 dX12_isSame_376 rfl rfl ?_
              refine dk_istore_n 378 3 [some (.ref this), some (.ref 0), some (.ref hk289.2.1.length), some (.int 0)] dX12_isSame_377 rfl rfl (by decide) rfl ?_
              refine dk_less [some (.ref this), some (.ref 0), some (.ref hk289.2.1.length), some (.int 0)] (And.intro rfl (And.intro rfl (And.intro rfl (And.intro rfl (trivial))))) ?_
              exact dl_X12_isSame_L378 (SX := SX) N d this hk289.2.1.length (fun hk403 => bo (dI hk403 this 12 7) fun a_405 =>
chk (isT hk403 11 0) <| bdX (f_X11_of N a_405 (0 : Int32) hk403.1) hk403 fun v_409 hh_409 => bnd (gs (f_X12_of N a_405 (0 : Int32)) hh_409) fun h_409 =>
if v_409 = (-1 : Int32) then (bo (dI h_409 this 12 8) fun a_418 =>
chk (isT h_409 11 0) <| bdX (f_X11_deedOf N a_418 (0 : Int32) h_409.1) h_409 fun v_422 hh_422 => bnd (gs (f_X12_deedOf N a_418 (0 : Int32)) hh_422) fun h_422 =>
if v_422 = (-1 : Int32) then (bo (dI h_422 this 12 9) fun a_431 =>
chk (isT h_422 11 0) <| bdX (f_X11_book N a_431 (0 : Int32) h_422.1) h_422 fun v_435 hh_435 => bnd (gs (f_X12_book N a_431 (0 : Int32)) hh_435) fun h_435 =>
if v_435 = (-1 : Int32) then (chk (isT h_435 11 0) <| bdX (f_X11_statute N (0 : Int32) h_435.1) h_435 fun v_444 hh_444 => bnd (gs (f_X12_statute N (0 : Int32)) hh_444) fun h_444 =>
chk (isT h_444 12 this) <| bd3 (g_X12_asks N this h_444) fun v_448 h_448 =>
if v_444 = v_448 then (chk (isT h_448 11 0) <| bdX (f_X11_statute N (1 : Int32) h_448.1) h_448 fun v_456 hh_456 => bnd (gs (f_X12_statute N (1 : Int32)) hh_456) fun h_456 =>
bo (dI h_456 this 12 10) fun a_460 =>
if v_456 = a_460 then (chk (isT h_456 11 0) <| bdX (f_X11_statute N (2 : Int32) h_456.1) h_456 fun v_468 hh_468 => bnd (gs (f_X12_statute N (2 : Int32)) hh_468) fun h_468 =>
bo (dI h_468 this 12 11) fun a_472 =>
if v_468 = a_472 then (chk (isT h_468 11 0) <| bdX (f_X11_statute N (3 : Int32) h_468.1) h_468 fun v_480 hh_480 => bnd (gs (f_X12_statute N (3 : Int32)) hh_480) fun h_480 =>
if v_480 = (-1 : Int32) then (chk (isT h_480 11 0) <| bdX (f_X11_look N (12 : Int32) h_480.1) h_480 fun v_490 hh_490 => bnd (gs (f_X12_look N (12 : Int32)) hh_490) fun h_490 =>
bo (dI h_490 this 12 13) fun a_494 =>
if v_490 = a_494 then (chk (isT h_490 11 0) <| bdX (f_X11_look N (13 : Int32) h_490.1) h_490 fun v_503 hh_503 => bnd (gs (f_X12_look N (13 : Int32)) hh_503) fun h_503 =>
bo (nn (dR h_503 this 12 19)) fun r_507 =>
bo (aN h_503 103 r_507) fun c_510 =>
if v_503 = (Int32.ofNat c_510) then (chk (isT h_503 11 0) <| bdX (f_X11_look N (14 : Int32) h_503.1) h_503 fun v_517 hh_517 => bnd (gs (f_X12_look N (14 : Int32)) hh_517) fun h_517 =>
bo (dI h_517 this 12 14) fun a_521 =>
if v_517 = a_521 then (some ((1 : Int32), h_517))
else (some ((0 : Int32), h_517)))
else (some ((0 : Int32), h_503)))
else (some ((0 : Int32), h_490)))
else (some ((0 : Int32), h_480)))
else (some ((0 : Int32), h_468)))
else (some ((0 : Int32), h_456)))
else (some ((0 : Int32), h_448)))
else (some ((0 : Int32), h_435)))
else (some ((0 : Int32), h_422)))
else (some ((0 : Int32), h_409))) (fun hk403 => by
                  refine dk_aload_n 404 1 dX12_isSame_403 rfl rfl rfl ?_
                  refine dk_aload_n 405 0 dX12_isSame_404 rfl rfl rfl ?_
                  refine dk_getI 408 dX12_isSame_405 rfl rfl F_EncoresLaw_House_59 (fun a_405 _ => ?_)
                  refine dk_iconst 409 0 dX12_isSame_408 rfl rfl ?_
                  refine dk_callXV (np := 2) (M' := m_X11_of) (As := [.int a_405, .int 0]) (st := []) 412 dX12_isSame_409 rfl rfl km_X11_of ki_X11_of kv_X11_of ml_EncoresLaw_House_141 (by decide) rfl rfl rfl (fun k hk => by simp at hk) (Nat.le_of_ble_eq_true rfl) (c_X11_of N (d + 0) a_405 (0 : Int32) hk403.1) (fun _ h => by cases h; exact pr_int) (fun v_409 n_409 e_409 => ?_)
                  generalize pat hk403 n_409 = hh_409
                  refine dk_gs (fun h_409 _ => ?_)
                  show DOk _ _ _ _ _ (.int v_409 :: []) _ _
                  refine dk_iconst 413 (-1) dX12_isSame_412 rfl rfl ?_
                  refine dk_icmp_ne 531 416 dX12_isSame_413 (by decide) rfl (fun _ => ?_) (fun _ => ?_)
                  · refine dk_iconst 532 0 dX12_isSame_531 rfl rfl ?_
                    exact dk_zretc dX12_isSame_532 rfl rfl
                  · refine dk_aload_n 417 1 dX12_isSame_416 rfl rfl rfl ?_
                    refine dk_aload_n 418 0 dX12_isSame_417 rfl rfl rfl ?_
                    refine dk_getI 421 dX12_isSame_418 rfl rfl F_EncoresLaw_House_62 (fun a_418 _ => ?_)
                    refine dk_iconst 422 0 dX12_isSame_421 rfl rfl ?_
                    refine dk_callXV (np := 2) (M' := m_X11_deedOf) (As := [.int a_418, .int 0]) (st := []) 425 dX12_isSame_422 rfl rfl km_X11_deedOf ki_X11_deedOf kv_X11_deedOf ml_EncoresLaw_House_146 (by decide) rfl rfl rfl (fun k hk => by simp at hk) (Nat.le_of_ble_eq_true rfl) (c_X11_deedOf N (d + 0) a_418 (0 : Int32) h_409.1) (fun _ h => by cases h; exact pr_int) (fun v_422 n_422 e_422 => ?_)
                    generalize pat h_409 n_422 = hh_422
                    refine dk_gs (fun h_422 _ => ?_)
                    show DOk _ _ _ _ _ (.int v_422 :: []) _ _
                    refine dk_iconst 426 (-1) dX12_isSame_425 rfl rfl ?_
                    refine dk_icmp_ne 531 429 dX12_isSame_426 (by decide) rfl (fun _ => ?_) (fun _ => ?_)
                    · refine dk_iconst 532 0 dX12_isSame_531 rfl rfl ?_
                      exact dk_zretc dX12_isSame_532 rfl rfl
                    · refine dk_aload_n 430 1 dX12_isSame_429 rfl rfl rfl ?_
                      refine dk_aload_n 431 0 dX12_isSame_430 rfl rfl rfl ?_
                      refine dk_getI 434 dX12_isSame_431 rfl rfl F_EncoresLaw_House_65 (fun a_431 _ => ?_)
                      refine dk_iconst 435 0 dX12_isSame_434 rfl rfl ?_
                      refine dk_callXV (np := 2) (M' := m_X11_book) (As := [.int a_431, .int 0]) (st := []) 438 dX12_isSame_435 rfl rfl km_X11_book ki_X11_book kv_X11_book ml_EncoresLaw_House_149 (by decide) rfl rfl rfl (fun k hk => by simp at hk) (Nat.le_of_ble_eq_true rfl) (c_X11_book N (d + 3) a_431 (0 : Int32) h_422.1) (fun _ h => by cases h; exact pr_int) (fun v_435 n_435 e_435 => ?_)
                      generalize pat h_422 n_435 = hh_435
                      refine dk_gs (fun h_435 _ => ?_)
                      show DOk _ _ _ _ _ (.int v_435 :: []) _ _
                      refine dk_iconst 439 (-1) dX12_isSame_438 rfl rfl ?_
                      refine dk_icmp_ne 531 442 dX12_isSame_439 (by decide) rfl (fun _ => ?_) (fun _ => ?_)
                      · refine dk_iconst 532 0 dX12_isSame_531 rfl rfl ?_
                        exact dk_zretc dX12_isSame_532 rfl rfl
                      · refine dk_aload_n 443 1 dX12_isSame_442 rfl rfl rfl ?_
                        refine dk_iconst 444 0 dX12_isSame_443 rfl rfl ?_
                        refine dk_callXV (np := 1) (M' := m_X11_statute) (As := [.int 0]) (st := []) 447 dX12_isSame_444 rfl rfl km_X11_statute ki_X11_statute kv_X11_statute ml_EncoresLaw_House_158 (by decide) rfl rfl rfl (fun k hk => by simp at hk) (Nat.le_of_ble_eq_true rfl) (c_X11_statute N (d + 1) (0 : Int32) h_435.1) (fun _ h => by cases h; exact pr_int) (fun v_444 n_444 e_444 => ?_)
                        generalize pat h_435 n_444 = hh_444
                        refine dk_gs (fun h_444 _ => ?_)
                        show DOk _ _ _ _ _ (.int v_444 :: []) _ _
                        refine dk_aload_n 448 0 dX12_isSame_447 rfl rfl rfl ?_
                        refine dk_callV (np := 0) (M' := m_X12_asks) (As := []) (st := [.int v_444]) 12 451 dX12_isSame_448 rfl rfl km_X12_asks ki_X12_asks kv_X12_asks ml_EncoresLaw_House_129 (by decide) (by decide) rfl rfl rfl (Nat.le_of_ble_eq_true rfl) (dc_X12_asks N (d + 4) this h_444) (fun v_448 h_448 e_448 => ?_)
                        show DOk _ _ _ _ _ (.int v_448 :: [.int v_444]) _ _
                        refine dk_icmp_ne 531 454 dX12_isSame_451 (by decide) rfl (fun _ => ?_) (fun _ => ?_)
                        · refine dk_iconst 532 0 dX12_isSame_531 rfl rfl ?_
                          exact dk_zretc dX12_isSame_532 rfl rfl
                        · refine dk_aload_n 455 1 dX12_isSame_454 rfl rfl rfl ?_
                          refine dk_iconst 456 1 dX12_isSame_455 rfl rfl ?_
                          refine dk_callXV (np := 1) (M' := m_X11_statute) (As := [.int 1]) (st := []) 459 dX12_isSame_456 rfl rfl km_X11_statute ki_X11_statute kv_X11_statute ml_EncoresLaw_House_158 (by decide) rfl rfl rfl (fun k hk => by simp at hk) (Nat.le_of_ble_eq_true rfl) (c_X11_statute N (d + 1) (1 : Int32) h_448.1) (fun _ h => by cases h; exact pr_int) (fun v_456 n_456 e_456 => ?_)
                          generalize pat h_448 n_456 = hh_456
                          refine dk_gs (fun h_456 _ => ?_)
                          show DOk _ _ _ _ _ (.int v_456 :: []) _ _
                          refine dk_aload_n 460 0 dX12_isSame_459 rfl rfl rfl ?_
                          refine dk_getI 463 dX12_isSame_460 rfl rfl F_EncoresLaw_House_13 (fun a_460 _ => ?_)
                          refine dk_icmp_ne 531 466 dX12_isSame_463 (by decide) rfl (fun _ => ?_) (fun _ => ?_)
                          · refine dk_iconst 532 0 dX12_isSame_531 rfl rfl ?_
                            exact dk_zretc dX12_isSame_532 rfl rfl
                          · refine dk_aload_n 467 1 dX12_isSame_466 rfl rfl rfl ?_
                            refine dk_iconst 468 2 dX12_isSame_467 rfl rfl ?_
                            refine dk_callXV (np := 1) (M' := m_X11_statute) (As := [.int 2]) (st := []) 471 dX12_isSame_468 rfl rfl km_X11_statute ki_X11_statute kv_X11_statute ml_EncoresLaw_House_158 (by decide) rfl rfl rfl (fun k hk => by simp at hk) (Nat.le_of_ble_eq_true rfl) (c_X11_statute N (d + 1) (2 : Int32) h_456.1) (fun _ h => by cases h; exact pr_int) (fun v_468 n_468 e_468 => ?_)
                            generalize pat h_456 n_468 = hh_468
                            refine dk_gs (fun h_468 _ => ?_)
                            show DOk _ _ _ _ _ (.int v_468 :: []) _ _
                            refine dk_aload_n 472 0 dX12_isSame_471 rfl rfl rfl ?_
                            refine dk_getI 475 dX12_isSame_472 rfl rfl F_EncoresLaw_House_16 (fun a_472 _ => ?_)
                            refine dk_icmp_ne 531 478 dX12_isSame_475 (by decide) rfl (fun _ => ?_) (fun _ => ?_)
                            · refine dk_iconst 532 0 dX12_isSame_531 rfl rfl ?_
                              exact dk_zretc dX12_isSame_532 rfl rfl
                            · refine dk_aload_n 479 1 dX12_isSame_478 rfl rfl rfl ?_
                              refine dk_iconst 480 3 dX12_isSame_479 rfl rfl ?_
                              refine dk_callXV (np := 1) (M' := m_X11_statute) (As := [.int 3]) (st := []) 483 dX12_isSame_480 rfl rfl km_X11_statute ki_X11_statute kv_X11_statute ml_EncoresLaw_House_158 (by decide) rfl rfl rfl (fun k hk => by simp at hk) (Nat.le_of_ble_eq_true rfl) (c_X11_statute N (d + 1) (3 : Int32) h_468.1) (fun _ h => by cases h; exact pr_int) (fun v_480 n_480 e_480 => ?_)
                              generalize pat h_468 n_480 = hh_480
                              refine dk_gs (fun h_480 _ => ?_)
                              show DOk _ _ _ _ _ (.int v_480 :: []) _ _
                              refine dk_iconst 484 (-1) dX12_isSame_483 rfl rfl ?_
                              refine dk_icmp_ne 531 487 dX12_isSame_484 (by decide) rfl (fun _ => ?_) (fun _ => ?_)
                              · refine dk_iconst 532 0 dX12_isSame_531 rfl rfl ?_
                                exact dk_zretc dX12_isSame_532 rfl rfl
                              · refine dk_aload_n 488 1 dX12_isSame_487 rfl rfl rfl ?_
                                refine dk_bipush 490 12 dX12_isSame_488 rfl rfl ?_
                                refine dk_callXV (np := 1) (M' := m_X11_look) (As := [.int 12]) (st := []) 493 dX12_isSame_490 rfl rfl km_X11_look ki_X11_look kv_X11_look ml_EncoresLaw_House_155 (by decide) rfl rfl rfl (fun k hk => by simp at hk) (Nat.le_of_ble_eq_true rfl) (c_X11_look N (d + 2) (12 : Int32) h_480.1) (fun _ h => by cases h; exact pr_int) (fun v_490 n_490 e_490 => ?_)
                                generalize pat h_480 n_490 = hh_490
                                refine dk_gs (fun h_490 _ => ?_)
                                show DOk _ _ _ _ _ (.int v_490 :: []) _ _
                                refine dk_aload_n 494 0 dX12_isSame_493 rfl rfl rfl ?_
                                refine dk_getI 497 dX12_isSame_494 rfl rfl F_EncoresLaw_House_71 (fun a_494 _ => ?_)
                                refine dk_icmp_ne 531 500 dX12_isSame_497 (by decide) rfl (fun _ => ?_) (fun _ => ?_)
                                · refine dk_iconst 532 0 dX12_isSame_531 rfl rfl ?_
                                  exact dk_zretc dX12_isSame_532 rfl rfl
                                · refine dk_aload_n 501 1 dX12_isSame_500 rfl rfl rfl ?_
                                  refine dk_bipush 503 13 dX12_isSame_501 rfl rfl ?_
                                  refine dk_callXV (np := 1) (M' := m_X11_look) (As := [.int 13]) (st := []) 506 dX12_isSame_503 rfl rfl km_X11_look ki_X11_look kv_X11_look ml_EncoresLaw_House_155 (by decide) rfl rfl rfl (fun k hk => by simp at hk) (Nat.le_of_ble_eq_true rfl) (c_X11_look N (d + 2) (13 : Int32) h_490.1) (fun _ h => by cases h; exact pr_int) (fun v_503 n_503 e_503 => ?_)
                                  generalize pat h_490 n_503 = hh_503
                                  refine dk_gs (fun h_503 _ => ?_)
                                  show DOk _ _ _ _ _ (.int v_503 :: []) _ _
                                  refine dk_aload_n 507 0 dX12_isSame_506 rfl rfl rfl ?_
                                  refine dk_getR 510 dX12_isSame_507 rfl rfl F_EncoresLaw_House_34 (fun r_507 _ => ?_)
                                  refine dk_alen 103 511 (Or.inr (Or.inr (Or.inl rfl))) dX12_isSame_510 rfl (fun c_510 _ => ?_)
                                  refine dk_icmp_ne 531 514 dX12_isSame_511 (by decide) rfl (fun _ => ?_) (fun _ => ?_)
                                  · refine dk_iconst 532 0 dX12_isSame_531 rfl rfl ?_
                                    exact dk_zretc dX12_isSame_532 rfl rfl
                                  · refine dk_aload_n 515 1 dX12_isSame_514 rfl rfl rfl ?_
                                    refine dk_bipush 517 14 dX12_isSame_515 rfl rfl ?_
                                    refine dk_callXV (np := 1) (M' := m_X11_look) (As := [.int 14]) (st := []) 520 dX12_isSame_517 rfl rfl km_X11_look ki_X11_look kv_X11_look ml_EncoresLaw_House_155 (by decide) rfl rfl rfl (fun k hk => by simp at hk) (Nat.le_of_ble_eq_true rfl) (c_X11_look N (d + 2) (14 : Int32) h_503.1) (fun _ h => by cases h; exact pr_int) (fun v_517 n_517 e_517 => ?_)
                                    generalize pat h_503 n_517 = hh_517
                                    refine dk_gs (fun h_517 _ => ?_)
                                    show DOk _ _ _ _ _ (.int v_517 :: []) _ _
                                    refine dk_aload_n 521 0 dX12_isSame_520 rfl rfl rfl ?_
                                    refine dk_getI 524 dX12_isSame_521 rfl rfl F_EncoresLaw_House_74 (fun a_521 _ => ?_)
                                    refine dk_icmp_ne 531 527 dX12_isSame_524 (by decide) rfl (fun _ => ?_) (fun _ => ?_)
                                    · refine dk_iconst 532 0 dX12_isSame_531 rfl rfl ?_
                                      exact dk_zretc dX12_isSame_532 rfl rfl
                                    · refine dk_iconst 528 1 dX12_isSame_527 rfl rfl ?_
                                      refine dk_goto 532 dX12_isSame_528 (by decide) ?_
                                      exact dk_zretc dX12_isSame_532 rfl rfl) N (0) h_374) N (0) hk241) N (0) hk151) N (0) h

theorem dc_X12_isSame (N d : Nat) (this : Nat) (h : DS) : DCM SX (d + 5) m_X12_isSame [.ref this, .ref 0] h (g_X12_isSame N this h) :=
  DCM.ofDOk km_X12_isSame (by simp [Value.category]) (Nat.le_of_ble_eq_true rfl) (dg_X12_isSame N d this h)

