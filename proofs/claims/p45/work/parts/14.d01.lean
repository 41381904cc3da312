variable {SX : SXT}
def g_X12_asks_L16 (N : Nat) (this : Nat) (p3_16 : Nat) (p4_16 : Int32)  (X : (Int32 × Int32 × Int32) → DS → DA) (s1_16 : Int32) (s2_16 : Int32) (s5_16 : Int32) (h : DS) : DA :=
if p4_16 ≤ s5_16 then (some (s1_16, h))
else (bo (lQ h 103 p3_16 s5_16) fun r_26 =>
bo (lA h 100 r_26 (1 : Int32)) fun a_32 =>
bo (dI h this 12 2) fun a_34 =>
if a_34 < a_32 then (X (s1_16, s2_16, (s5_16 + 1)) h)
else (bo (lA h 100 r_26 (1 : Int32)) fun a_43 =>
if a_43 < s2_16 then (X (s1_16, s2_16, (s5_16 + 1)) h)
else (bo (lA h 100 r_26 (1 : Int32)) fun a_51 =>
bo (lA h 100 r_26 (0 : Int32)) fun a_56 =>
X (a_56, a_51, (s5_16 + 1)) h)))

def g_X12_asks (N : Nat) (this : Nat) (h : DS) : DA :=
bo (nn (dR h this 12 18)) fun r_5 =>
bo (aN h 103 r_5) fun c_10 =>
jt (fun Y a hz => g_X12_asks_L16 N this r_5 (Int32.ofNat c_10)  Y a.1 a.2.1 a.2.2 hz) N (5, (-1), 0) h

set_option maxRecDepth 100000 in
set_option maxHeartbeats 4000000 in
theorem db_X12_asks_L16 (N d : Nat) (this : Nat) (p3_16 : Nat) (p4_16 : Int32)  (X : (Int32 × Int32 × Int32) → DS → DA) (hX : ∀ (a : (Int32 × Int32 × Int32)) (h : DS), DOk SX (d + 0) m_X12_asks 16 [some (.ref this), some (.int a.1), some (.int a.2.1), some (.ref p3_16), some (.int p4_16), some (.int a.2.2), none] [] h (X a h)) (s1_16 : Int32) (s2_16 : Int32) (s5_16 : Int32) (h : DS) : DOk SX (d + 0) m_X12_asks 16 [some (.ref this), some (.int s1_16), some (.int s2_16), some (.ref p3_16), some (.int p4_16), some (.int s5_16), none] [] h (g_X12_asks_L16 N this p3_16 p4_16 X s1_16 s2_16 s5_16 h) := by
  unfold g_X12_asks_L16
  refine dk_iload 18 5 dX12_asks_16 rfl rfl ?_
  refine dk_iload 20 4 dX12_asks_18 rfl rfl ?_
  refine dk_icmp_ge 64 23 dX12_asks_20 (by decide) rfl (fun _ => ?_) (fun _ => ?_)
  · refine dk_iload_n 65 1 dX12_asks_64 rfl rfl rfl ?_
    exact dk_iret dX12_asks_65 rfl
  · refine dk_aload_n 24 3 dX12_asks_23 rfl rfl rfl ?_
    refine dk_iload 26 5 dX12_asks_24 rfl rfl ?_
    refine dk_aald 103 27 (Or.inl rfl) dX12_asks_26 rfl (fun r_26 _ => ?_)
    refine dk_astore 29 6 [some (.ref this), some (.int s1_16), some (.int s2_16), some (.ref p3_16), some (.int p4_16), some (.int s5_16), some (.ref r_26)] dX12_asks_27 rfl (by decide) rfl ?_
    refine dk_aload 31 6 dX12_asks_29 rfl rfl ?_
    refine dk_iconst 32 1 dX12_asks_31 rfl rfl ?_
    refine dk_iald 33 dX12_asks_32 rfl (fun a_32 _ => ?_)
    refine dk_aload_n 34 0 dX12_asks_33 rfl rfl rfl ?_
    refine dk_getI 37 dX12_asks_34 rfl rfl F_EncoresLaw_House_47 (fun a_34 _ => ?_)
    refine dk_icmp_gt 58 40 dX12_asks_37 (by decide) rfl (fun _ => ?_) (fun _ => ?_)
    · refine dk_iinc 61 5 1 [some (.ref this), some (.int s1_16), some (.int s2_16), some (.ref p3_16), some (.int p4_16), some (.int (s5_16 + 1)), some (.ref r_26)] dX12_asks_58 rfl rfl rfl (by decide) rfl ?_
      refine dk_goto 16 dX12_asks_61 (by decide) ?_
      exact dk_less [some (.ref this), some (.int s1_16), some (.int s2_16), some (.ref p3_16), some (.int p4_16), some (.int (s5_16 + 1)), none] (And.intro rfl (And.intro rfl (And.intro rfl (And.intro rfl (And.intro rfl (And.intro rfl (trivial))))))) (hX (s1_16, s2_16, (s5_16 + 1)) h)
    · refine dk_aload 42 6 dX12_asks_40 rfl rfl ?_
      refine dk_iconst 43 1 dX12_asks_42 rfl rfl ?_
      refine dk_iald 44 dX12_asks_43 rfl (fun a_43 _ => ?_)
      refine dk_iload_n 45 2 dX12_asks_44 rfl rfl rfl ?_
      refine dk_icmp_lt 58 48 dX12_asks_45 (by decide) rfl (fun _ => ?_) (fun _ => ?_)
      · refine dk_iinc 61 5 1 [some (.ref this), some (.int s1_16), some (.int s2_16), some (.ref p3_16), some (.int p4_16), some (.int (s5_16 + 1)), some (.ref r_26)] dX12_asks_58 rfl rfl rfl (by decide) rfl ?_
        refine dk_goto 16 dX12_asks_61 (by decide) ?_
        exact dk_less [some (.ref this), some (.int s1_16), some (.int s2_16), some (.ref p3_16), some (.int p4_16), some (.int (s5_16 + 1)), none] (And.intro rfl (And.intro rfl (And.intro rfl (And.intro rfl (And.intro rfl (And.intro rfl (trivial))))))) (hX (s1_16, s2_16, (s5_16 + 1)) h)
      · refine dk_aload 50 6 dX12_asks_48 rfl rfl ?_
        refine dk_iconst 51 1 dX12_asks_50 rfl rfl ?_
        refine dk_iald 52 dX12_asks_51 rfl (fun a_51 _ => ?_)
        refine dk_istore_n 53 2 [some (.ref this), some (.int s1_16), some (.int a_51), some (.ref p3_16), some (.int p4_16), some (.int s5_16), some (.ref r_26)] dX12_asks_52 rfl rfl (by decide) rfl ?_
        refine dk_aload 55 6 dX12_asks_53 rfl rfl ?_
        refine dk_iconst 56 0 dX12_asks_55 rfl rfl ?_
        refine dk_iald 57 dX12_asks_56 rfl (fun a_56 _ => ?_)
        refine dk_istore_n 58 1 [some (.ref this), some (.int a_56), some (.int a_51), some (.ref p3_16), some (.int p4_16), some (.int s5_16), some (.ref r_26)] dX12_asks_57 rfl rfl (by decide) rfl ?_
        refine dk_iinc 61 5 1 [some (.ref this), some (.int a_56), some (.int a_51), some (.ref p3_16), some (.int p4_16), some (.int (s5_16 + 1)), some (.ref r_26)] dX12_asks_58 rfl rfl rfl (by decide) rfl ?_
        refine dk_goto 16 dX12_asks_61 (by decide) ?_
        exact dk_less [some (.ref this), some (.int a_56), some (.int a_51), some (.ref p3_16), some (.int p4_16), some (.int (s5_16 + 1)), none] (And.intro rfl (And.intro rfl (And.intro rfl (And.intro rfl (And.intro rfl (And.intro rfl (trivial))))))) (hX (a_56, a_51, (s5_16 + 1)) h)

set_option maxRecDepth 100000 in
set_option maxHeartbeats 4000000 in
theorem dl_X12_asks_L16 (N d : Nat) (this : Nat) (p3_16 : Nat) (p4_16 : Int32)  : ∀ (n : Nat) (a : (Int32 × Int32 × Int32)) (h : DS), DOk SX (d + 0) m_X12_asks 16 [some (.ref this), some (.int a.1), some (.int a.2.1), some (.ref p3_16), some (.int p4_16), some (.int a.2.2), none] [] h (jt (fun Y a hz => g_X12_asks_L16 N this p3_16 p4_16 Y a.1 a.2.1 a.2.2 hz) n a h) :=
  dk_jt (fun a => [some (.ref this), some (.int a.1), some (.int a.2.1), some (.ref p3_16), some (.int p4_16), some (.int a.2.2), none]) (fun X hX a h => db_X12_asks_L16 (SX := SX) N d this p3_16 p4_16   X hX a.1 a.2.1 a.2.2 h)

set_option maxRecDepth 100000 in
set_option maxHeartbeats 4000000 in
theorem dg_X12_asks (N d : Nat) (this : Nat) (h : DS) : DOk SX (d + 0) m_X12_asks 0 [some (.ref this), none, none, none, none, none, none] [] h (g_X12_asks N this h) := by
  unfold g_X12_asks
  refine dk_iconst 1 5 dX12_asks_0 rfl rfl ?_
  refine dk_istore_n 2 1 [some (.ref this), some (.int 5), none, none, none, none, none] dX12_asks_1 rfl rfl (by decide) rfl ?_
  refine dk_iconst 3 (-1) dX12_asks_2 rfl rfl ?_
  refine dk_istore_n 4 2 [some (.ref this), some (.int 5), some (.int (-1)), none, none, none, none] dX12_asks_3 rfl rfl (by decide) rfl ?_
  refine dk_aload_n 5 0 dX12_asks_4 rfl rfl rfl ?_
  refine dk_getR 8 dX12_asks_5 rfl rfl F_EncoresLaw_House_31 (fun r_5 _ => ?_)
  refine dk_astore_n 9 3 [some (.ref this), some (.int 5), some (.int (-1)), some (.ref r_5), none, none, none] dX12_asks_8 rfl rfl (by decide) rfl ?_
  refine dk_aload_n 10 3 dX12_asks_9 rfl rfl rfl ?_
  refine dk_alen 103 11 (Or.inr (Or.inr (Or.inl rfl))) dX12_asks_10 rfl (fun c_10 _ => ?_)
  refine dk_istore 13 4 [some (.ref this), some (.int 5), some (.int (-1)), some (.ref r_5), some (.int (Int32.ofNat c_10)), none, none] dX12_asks_11 rfl (by decide) rfl ?_
  refine dk_iconst 14 0 dX12_asks_13 rfl rfl ?_
  refine dk_istore 16 5 [some (.ref this), some (.int 5), some (.int (-1)), some (.ref r_5), some (.int (Int32.ofNat c_10)), some (.int 0), none] dX12_asks_14 rfl (by decide) rfl ?_
  refine dk_less [some (.ref this), some (.int 5), some (.int (-1)), some (.ref r_5), some (.int (Int32.ofNat c_10)), some (.int 0), none] (And.intro rfl (And.intro rfl (And.intro rfl (And.intro rfl (And.intro rfl (And.intro rfl (trivial))))))) ?_
  exact dl_X12_asks_L16 (SX := SX) N d this r_5 (Int32.ofNat c_10)   N (5, (-1), 0) h

theorem dc_X12_asks (N d : Nat) (this : Nat) (h : DS) : DCM SX (d + 0) m_X12_asks [.ref this] h (g_X12_asks N this h) :=
  DCM.ofDOk km_X12_asks (by simp [Value.category]) (Nat.le_of_ble_eq_true rfl) (dg_X12_asks N d this h)

def g_X12_there_L4 (N : Nat) (this : Nat)   (X : (Int32 × Int32) → DS → DA) (s1_4 : Int32) (s2_4 : Int32) (h : DS) : DA :=
bo (dI h this 12 7) fun a_6 =>
if a_6 ≤ s2_4 then (some (s1_4, h))
else (bo (nn (dR h this 12 15)) fun r_13 =>
bo (lQ h 103 r_13 s2_4) fun r_17 =>
bo (lA h 100 r_17 (3 : Int32)) fun a_19 =>
if a_19 = (1 : Int32) then (X ((s1_4 ||| ((1 : Int32) <<< (s2_4 &&& 31))), (s2_4 + 1)) h)
else (X (s1_4, (s2_4 + 1)) h))

def g_X12_there (N : Nat) (this : Nat) (h : DS) : DA :=
jt (fun Y a hz => g_X12_there_L4 N this   Y a.1 a.2 hz) N (0, 0) h

set_option maxRecDepth 100000 in
set_option maxHeartbeats 4000000 in
theorem db_X12_there_L4 (N d : Nat) (this : Nat)   (X : (Int32 × Int32) → DS → DA) (hX : ∀ (a : (Int32 × Int32)) (h : DS), DOk SX (d + 0) m_X12_there 4 [some (.ref this), some (.int a.1), some (.int a.2)] [] h (X a h)) (s1_4 : Int32) (s2_4 : Int32) (h : DS) : DOk SX (d + 0) m_X12_there 4 [some (.ref this), some (.int s1_4), some (.int s2_4)] [] h (g_X12_there_L4 N this X s1_4 s2_4 h) := by
  unfold g_X12_there_L4
  refine dk_iload_n 5 2 dX12_there_4 rfl rfl rfl ?_
  refine dk_aload_n 6 0 dX12_there_5 rfl rfl rfl ?_
  refine dk_getI 9 dX12_there_6 rfl rfl F_EncoresLaw_House_59 (fun a_6 _ => ?_)
  refine dk_icmp_ge 36 12 dX12_there_9 (by decide) rfl (fun _ => ?_) (fun _ => ?_)
  · refine dk_iload_n 37 1 dX12_there_36 rfl rfl rfl ?_
    exact dk_iret dX12_there_37 rfl
  · refine dk_aload_n 13 0 dX12_there_12 rfl rfl rfl ?_
    refine dk_getR 16 dX12_there_13 rfl rfl F_EncoresLaw_House_21 (fun r_13 _ => ?_)
    refine dk_iload_n 17 2 dX12_there_16 rfl rfl rfl ?_
    refine dk_aald 103 18 (Or.inl rfl) dX12_there_17 rfl (fun r_17 _ => ?_)
    refine dk_iconst 19 3 dX12_there_18 rfl rfl ?_
    refine dk_iald 20 dX12_there_19 rfl (fun a_19 _ => ?_)
    refine dk_iconst 21 1 dX12_there_20 rfl rfl ?_
    refine dk_icmp_ne 30 24 dX12_there_21 (by decide) rfl (fun _ => ?_) (fun _ => ?_)
    · refine dk_iinc 33 2 1 [some (.ref this), some (.int s1_4), some (.int (s2_4 + 1))] dX12_there_30 rfl rfl rfl (by decide) rfl ?_
      refine dk_goto 4 dX12_there_33 (by decide) ?_
      exact dk_less [some (.ref this), some (.int s1_4), some (.int (s2_4 + 1))] (And.intro rfl (And.intro rfl (And.intro rfl (trivial)))) (hX (s1_4, (s2_4 + 1)) h)
    · refine dk_iload_n 25 1 dX12_there_24 rfl rfl rfl ?_
      refine dk_iconst 26 1 dX12_there_25 rfl rfl ?_
      refine dk_iload_n 27 2 dX12_there_26 rfl rfl rfl ?_
      refine dk_ishl 28 dX12_there_27 rfl ?_
      refine dk_ior 29 dX12_there_28 rfl ?_
      refine dk_istore_n 30 1 [some (.ref this), some (.int (s1_4 ||| ((1 : Int32) <<< (s2_4 &&& 31)))), some (.int s2_4)] dX12_there_29 rfl rfl (by decide) rfl ?_
      refine dk_iinc 33 2 1 [some (.ref this), some (.int (s1_4 ||| ((1 : Int32) <<< (s2_4 &&& 31)))), some (.int (s2_4 + 1))] dX12_there_30 rfl rfl rfl (by decide) rfl ?_
      refine dk_goto 4 dX12_there_33 (by decide) ?_
      exact dk_less [some (.ref this), some (.int (s1_4 ||| ((1 : Int32) <<< (s2_4 &&& 31)))), some (.int (s2_4 + 1))] (And.intro rfl (And.intro rfl (And.intro rfl (trivial)))) (hX ((s1_4 ||| ((1 : Int32) <<< (s2_4 &&& 31))), (s2_4 + 1)) h)

set_option maxRecDepth 100000 in
set_option maxHeartbeats 4000000 in
theorem dl_X12_there_L4 (N d : Nat) (this : Nat)   : ∀ (n : Nat) (a : (Int32 × Int32)) (h : DS), DOk SX (d + 0) m_X12_there 4 [some (.ref this), some (.int a.1), some (.int a.2)] [] h (jt (fun Y a hz => g_X12_there_L4 N this Y a.1 a.2 hz) n a h) :=
  dk_jt (fun a => [some (.ref this), some (.int a.1), some (.int a.2)]) (fun X hX a h => db_X12_there_L4 (SX := SX) N d this    X hX a.1 a.2 h)

set_option maxRecDepth 100000 in
set_option maxHeartbeats 4000000 in
theorem dg_X12_there (N d : Nat) (this : Nat) (h : DS) : DOk SX (d + 0) m_X12_there 0 [some (.ref this), none, none] [] h (g_X12_there N this h) := by
  unfold g_X12_there
  refine dk_iconst 1 0 dX12_there_0 rfl rfl ?_
  refine dk_istore_n 2 1 [some (.ref this), some (.int 0), none] dX12_there_1 rfl rfl (by decide) rfl ?_
  refine dk_iconst 3 0 dX12_there_2 rfl rfl ?_
  refine dk_istore_n 4 2 [some (.ref this), some (.int 0), some (.int 0)] dX12_there_3 rfl rfl (by decide) rfl ?_
  refine dk_less [some (.ref this), some (.int 0), some (.int 0)] (And.intro rfl (And.intro rfl (And.intro rfl (trivial)))) ?_
  exact dl_X12_there_L4 (SX := SX) N d this    N (0, 0) h

theorem dc_X12_there (N d : Nat) (this : Nat) (h : DS) : DCM SX (d + 0) m_X12_there [.ref this] h (g_X12_there N this h) :=
  DCM.ofDOk km_X12_there (by simp [Value.category]) (Nat.le_of_ble_eq_true rfl) (dg_X12_there N d this h)

def g_X12_notes (N : Nat) (this : Nat) (a1 : Int32) (a2 : Int32) (a3 : Int32) (a4 : Int32) (h : DS) : DA :=
if a4 = 0 then (some (0, h))
else (bo (dI h this 12 9) fun a_6 =>
if (150 : Int32) ≤ a_6 then (some (0, h))
else (bo (nn (dR h this 12 17)) fun r_16 =>
bo (dI h this 12 9) fun a_21 =>
bo (wI h this 12 9 (a_21 + (1 : Int32))) fun h_27 =>
bo (nA h_27 100 (4 : Int32)) fun h_31 =>
bo (dI h_31 this 12 2) fun a_36 =>
bo (sA h_31 100 h_27.2.1.length (0 : Int32) a_36) fun h_39 =>
bo (sA h_39 100 h_27.2.1.length (1 : Int32) a1) fun h_43 =>
bo (sA h_43 100 h_27.2.1.length (2 : Int32) a2) fun h_47 =>
bo (sA h_47 100 h_27.2.1.length (3 : Int32) a3) fun h_51 =>
bo (sQ h_51 103 r_16 a_21 h_27.2.1.length) fun h_52 =>
some (0, h_52)))

set_option maxRecDepth 100000 in
set_option maxHeartbeats 4000000 in
theorem dg_X12_notes (N d : Nat) (this : Nat) (a1 : Int32) (a2 : Int32) (a3 : Int32) (a4 : Int32) (h : DS) : DOk SX (d + 0) m_X12_notes 0 [some (.ref this), some (.int a1), some (.int a2), some (.int a3), some (.int a4)] [] h (g_X12_notes N this a1 a2 a3 a4 h) := by
  unfold g_X12_notes
  refine dk_iload 2 4 dX12_notes_0 rfl rfl ?_
  refine dk_if_eq 53 5 dX12_notes_2 (by decide) rfl (fun _ => ?_) (fun _ => ?_)
  · exact dk_vret dX12_notes_53 rfl
  · refine dk_aload_n 6 0 dX12_notes_5 rfl rfl rfl ?_
    refine dk_getI 9 dX12_notes_6 rfl rfl F_EncoresLaw_House_65 (fun a_6 _ => ?_)
    refine dk_sipush 12 150 dX12_notes_9 rfl rfl ?_
    refine dk_icmp_ge 53 15 dX12_notes_12 (by decide) rfl (fun _ => ?_) (fun _ => ?_)
    · exact dk_vret dX12_notes_53 rfl
    · refine dk_aload_n 16 0 dX12_notes_15 rfl rfl rfl ?_
      refine dk_getR 19 dX12_notes_16 rfl rfl F_EncoresLaw_House_28 (fun r_16 _ => ?_)
      refine dk_aload_n 20 0 dX12_notes_19 rfl rfl rfl ?_
      refine dk_dup 21 dX12_notes_20 rfl rfl ?_
      refine dk_getI 24 dX12_notes_21 rfl rfl F_EncoresLaw_House_65 (fun a_21 _ => ?_)
      refine dk_dup_x1 25 dX12_notes_24 rfl rfl rfl ?_
      refine dk_iconst 26 1 dX12_notes_25 rfl rfl ?_
      refine dk_iadd 27 dX12_notes_26 rfl ?_
      refine dk_putI 30 dX12_notes_27 rfl rfl F_EncoresLaw_House_65 rfl pZ_12_9 rfl rfl (fun h_27 _ => ?_)
      refine dk_iconst 31 4 dX12_notes_30 rfl rfl ?_
      refine dk_newaI 33 dX12_notes_31 rfl (fun h_31 _ => ?_)
      refine dk_dup 34 dX12_notes_33 rfl rfl ?_
      refine dk_iconst 35 0 dX12_notes_34 rfl rfl ?_
      refine dk_aload_n 36 0 dX12_notes_35 rfl rfl rfl ?_
      refine dk_getI 39 dX12_notes_36 rfl rfl F_EncoresLaw_House_47 (fun a_36 _ => ?_)
      refine dk_iast 40 dX12_notes_39 rfl (fun h_39 _ => ?_)
      refine dk_dup 41 dX12_notes_40 rfl rfl ?_
      refine dk_iconst 42 1 dX12_notes_41 rfl rfl ?_
      refine dk_iload_n 43 1 dX12_notes_42 rfl rfl rfl ?_
      refine dk_iast 44 dX12_notes_43 rfl (fun h_43 _ => ?_)
      refine dk_dup 45 dX12_notes_44 rfl rfl ?_
      refine dk_iconst 46 2 dX12_notes_45 rfl rfl ?_
      refine dk_iload_n 47 2 dX12_notes_46 rfl rfl rfl ?_
      refine dk_iast 48 dX12_notes_47 rfl (fun h_47 _ => ?_)
      refine dk_dup 49 dX12_notes_48 rfl rfl ?_
      refine dk_iconst 50 3 dX12_notes_49 rfl rfl ?_
      refine dk_iload_n 51 3 dX12_notes_50 rfl rfl rfl ?_
      refine dk_iast 52 dX12_notes_51 rfl (fun h_51 _ => ?_)
      refine dk_aast 103 53 (Or.inl rfl) dX12_notes_52 rfl (fun h_52 _ => ?_)
      exact dk_vret dX12_notes_53 rfl

theorem dc_X12_notes (N d : Nat) (this : Nat) (a1 : Int32) (a2 : Int32) (a3 : Int32) (a4 : Int32) (h : DS) : DCM SX (d + 0) m_X12_notes [.ref this, .int a1, .int a2, .int a3, .int a4] h (g_X12_notes N this a1 a2 a3 a4 h) :=
  DCM.ofDOk km_X12_notes (by simp [Value.category]) (Nat.le_of_ble_eq_true rfl) (dg_X12_notes N d this a1 a2 a3 a4 h)

def g_X12_once_L95 (N : Nat) (this : Nat) (a1 : Int32) (a2 : Int32) (p5_95 : Nat) (K145 : DS → DA) (X : Int32 → DS → DA) (s6_95 : Int32) (h : DS) : DA :=
bo (dI h this 12 7) fun a_98 =>
if a_98 ≤ s6_95 then (K145 h)
else (bo (nn (dR h this 12 15)) fun r_105 =>
bo (lQ h 103 r_105 s6_95) fun r_110 =>
bo (lA h 100 r_110 (3 : Int32)) fun a_112 =>
if a_112 = (1 : Int32) then (if a2 = 0 then (bo (sA h 100 p5_95 s6_95 (500 : Int32)) fun h_138 =>
X ((s6_95 + 1)) h_138)
else (chk (isT h 12 this) <| bd3 (g_X12_draw N this (1000 : Int32) h) fun v_129 h_129 =>
bo (sA h_129 100 p5_95 s6_95 v_129) fun h_138 =>
X ((s6_95 + 1)) h_138))
else (X ((s6_95 + 1)) h))

def g_X12_once_L169 (N : Nat) (this : Nat) (a1 : Int32) (a2 : Int32) (p5_169 : Nat) (K271 : Int32 → DS → DA) (X : (Int32 × Int32) → DS → DA) (s6_169 : Int32) (s7_169 : Int32) (h : DS) : DA :=
bo (dI h this 12 7) fun a_172 =>
if a_172 ≤ s7_169 then (K271 s6_169 h)
else (bo (nn (dR h this 12 15)) fun r_179 =>
bo (lQ h 103 r_179 s7_169) fun r_184 =>
bo (lA h 100 r_184 (3 : Int32)) fun a_186 =>
if a_186 = 0 then (X (s6_169, (s7_169 + 1)) h)
else (bo (nn (dR h this 12 15)) fun r_191 =>
bo (lQ h 103 r_191 s7_169) fun r_196 =>
bo (lA h 100 r_196 (4 : Int32)) fun a_198 =>
if a_198 = (1 : Int32) then (X (s6_169, (s7_169 + 1)) h)
else (bo (dI h this 12 22) fun a_204 =>
if ((a_204 >>> (s7_169 &&& 31)) &&& (1 : Int32)) = (1 : Int32) then (X (s6_169, (s7_169 + 1)) h)
else (bo (lA h 100 p5_169 s7_169) fun a_220 =>
bo (nn (dR h this 12 20)) fun r_226 =>
bo (lA h 100 r_226 s7_169) fun a_231 =>
bo (dI h this 12 22) fun a_233 =>
bdX (f_J6_bitCount_0f7a4 N (a_231 &&& a_233) h.1) h fun v_237 h_237 =>
chk (isT h_237 12 this) <| bd3 (g_X12_clap N this s7_169 a1 v_237 h_237) fun v_240 h_240 =>
if a_220 < v_240 then (bo (dI h_240 this 12 22) fun a_251 =>
bo (wI h_240 this 12 22 (a_251 ||| ((1 : Int32) <<< (s7_169 &&& 31)))) fun h_259 =>
X (1, (s7_169 + 1)) h_259)
else (X (s6_169, (s7_169 + 1)) h_240)))))

def g_X12_once_L158 (N : Nat) (this : Nat) (a1 : Int32) (a2 : Int32) (p5_158 : Nat) (K289 : DS → DA) (X : Int32 → DS → DA) (s6_158 : Int32) (h : DS) : DA :=
if s6_158 = 0 then (K289 h)
else (jt (fun Y a hz => g_X12_once_L169 N this a1 a2 p5_158 (fun k6_271 hk271 => if k6_271 = 0 then (X (k6_271) hk271)
else (bo (dI hk271 this 12 23) fun a_278 =>
bo (wI hk271 this 12 23 (a_278 + (1 : Int32))) fun h_283 =>
X (k6_271) h_283)) Y a.1 a.2 hz) N (0, 0) h)

def g_X12_once_L301 (N : Nat) (this : Nat) (a1 : Int32) (a2 : Int32)  (K374 : DS → DA) (X : Int32 → DS → DA) (s7_301 : Int32) (h : DS) : DA :=
bo (dI h this 12 7) fun a_304 =>
if a_304 ≤ s7_301 then (K374 h)
else (bo (dI h this 12 22) fun a_311 =>
if ((a_311 >>> (s7_301 &&& 31)) &&& (1 : Int32)) = (1 : Int32) then (bo (dI h this 12 24) fun a_325 =>
bo (dI h this 12 12) fun a_329 =>
if ((a_329 >>> (s7_301 &&& 31)) &&& (1 : Int32)) = (1 : Int32) then (bo (nn (dR h this 12 15)) fun r_343 =>
bo (lQ h 103 r_343 s7_301) fun r_348 =>
bo (lA h 100 r_348 (0 : Int32)) fun a_350 =>
bo (wI h this 12 24 (a_325 + ((2 : Int32) * a_350))) fun h_365 =>
X ((s7_301 + 1)) h_365)
else (bo (nn (dR h this 12 15)) fun r_356 =>
bo (lQ h 103 r_356 s7_301) fun r_361 =>
bo (lA h 100 r_361 (0 : Int32)) fun a_363 =>
bo (wI h this 12 24 (a_325 + a_363)) fun h_365 =>
X ((s7_301 + 1)) h_365))
else (X ((s7_301 + 1)) h))

def g_X12_once_J437 (N : Nat) (this : Nat) (a1 : Int32) (a2 : Int32)   (s7_437 : Int32) (t0_437 : Int32) (t1_437 : Nat) (h : DS) : DA :=
bo (dI h this 12 24) fun a_439 =>
chk (isT h 12 t1_437) <| bd3 (g_X12_notes N t1_437 t0_437 a1 a_439 a2 h) fun v_443 h_443 =>
if s7_437 = 0 then (bo (dI h_443 this 12 24) fun a_452 =>
chk (isT h_443 12 this) <| bd3 (g_X12_asks N this h_443) fun v_456 h_456 =>
if a_452 < v_456 then (some ((0 : Int32), h_456))
else (bo (dI h_456 this 12 5) fun a_463 =>
bo (dI h_456 this 12 10) fun a_467 =>
if a_467 ≤ a_463 then (some ((0 : Int32), h_456))
else (bo (dI h_456 this 12 1) fun a_474 =>
bo (dI h_456 this 12 11) fun a_478 =>
if a_478 ≤ a_474 then (some ((0 : Int32), h_456))
else (some ((1 : Int32), h_456)))))
else (some ((0 : Int32), h_443))

def g_X12_once_J424 (N : Nat) (this : Nat) (a1 : Int32) (a2 : Int32)   (s7_424 : Int32) (h : DS) : DA :=
bo (dI h this 12 5) fun a_426 =>
if a_426 ≤ 0 then (g_X12_once_J437 N this a1 a2 s7_424 (0 : Int32) this h)
else (g_X12_once_J437 N this a1 a2 s7_424 (1 : Int32) this h)

def g_X12_once_J404 (N : Nat) (this : Nat) (a1 : Int32) (a2 : Int32)   (t0_404 : Int32) (h : DS) : DA :=
if t0_404 = 0 then (g_X12_once_J424 N this a1 a2 t0_404 h)
else (bo (wI h this 12 24 (0 : Int32)) fun h_413 =>
chk (isT h_413 12 this) <| bd3 (g_X12_notes N this (2 : Int32) a1 (0 : Int32) (1 : Int32) h_413) fun v_421 h_421 =>
g_X12_once_J424 N this a1 a2 t0_404 h_421)

def g_X12_once_J403 (N : Nat) (this : Nat) (a1 : Int32) (a2 : Int32)    (h : DS) : DA :=
g_X12_once_J404 N this a1 a2 (0 : Int32) h

def g_X12_once_J26 (N : Nat) (this : Nat) (a1 : Int32) (a2 : Int32)   (s3_26 : Nat) (t0_26 : Int32) (t1_26 : Nat) (h : DS) : DA :=
bo (wI h t1_26 12 5 t0_26) fun h_26 =>
bo (wI h_26 this 12 4 a1) fun h_31 =>
chk (isT h_31 12 this) <| bd3 (g_X12_wears N this a1 h_31) fun v_36 h_36 =>
bo (dI h_36 this 12 1) fun a_43 =>
bo (lA h_36 100 s3_26 (1 : Int32)) fun a_48 =>
bo (wI h_36 this 12 1 (a_43 + a_48)) fun h_50 =>
bo (dI h_50 this 12 3) fun a_55 =>
bo (lA h_50 100 s3_26 (2 : Int32)) fun a_60 =>
bo (wI h_50 this 12 3 (a_55 - a_60)) fun h_62 =>
bo (lA h_62 100 s3_26 (4 : Int32)) fun a_68 =>
bo (sA h_62 100 s3_26 (4 : Int32) (a_68 + (1 : Int32))) fun h_71 =>
bo (lA h_71 100 s3_26 (3 : Int32)) fun a_78 =>
bnd (if (a_78 + v_36) < (99 : Int32) then (a_78 + v_36) else (99 : Int32)) fun a_82 =>
bo (sA h_71 100 s3_26 (3 : Int32) a_82) fun h_85 =>
bo (nA h_85 100 (12 : Int32)) fun h_88 =>
jt (fun Y a hz => g_X12_once_L95 N this a1 a2 h_85.2.1.length (fun hk145 => bo (wI hk145 this 12 22 (0 : Int32)) fun h_147 =>
bo (wI h_147 this 12 23 (0 : Int32)) fun h_152 =>
jt (fun Y a hz => g_X12_once_L158 N this a1 a2 h_85.2.1.length (fun hk289 => chk (isT hk289 12 this) <| bd3 (g_X12_loud N this a1 hk289) fun v_292 h_292 =>
bo (wI h_292 this 12 24 v_292) fun h_295 =>
jt (fun Y a hz => g_X12_once_L301 N this a1 a2  (fun hk374 => if a2 = 0 then (g_X12_once_J403 N this a1 a2 hk374)
else (bo (dI hk374 this 12 6) fun a_379 =>
if a_379 ≤ 0 then (g_X12_once_J403 N this a1 a2 hk374)
else (chk (isT hk374 12 this) <| bd3 (g_X12_draw N this (1000 : Int32) hk374) fun v_389 h_389 =>
bo (dI h_389 this 12 6) fun a_393 =>
if a_393 ≤ v_389 then (g_X12_once_J403 N this a1 a2 h_389)
else (g_X12_once_J404 N this a1 a2 (1 : Int32) h_389)))) Y a hz) N (0) h_295) Y a hz) N (1) h_152) Y a hz) N (0) h_88

def g_X12_once (N : Nat) (this : Nat) (a1 : Int32) (a2 : Int32) (h : DS) : DA :=
bo (nn (dR h this 12 16)) fun r_1 =>
bo (lQ h 103 r_1 a1) fun r_5 =>
bo (dI h this 12 4) fun a_9 =>
if a_9 = a1 then (bo (dI h this 12 5) fun a_17 =>
g_X12_once_J26 N this a1 a2 r_5 (a_17 + (1 : Int32)) this h)
else (g_X12_once_J26 N this a1 a2 r_5 (0 : Int32) this h)

set_option maxRecDepth 100000 in
set_option maxHeartbeats 4000000 in
theorem db_X12_once_L95 (N d : Nat) (this : Nat) (a1 : Int32) (a2 : Int32) (p5_95 : Nat) (K145 : DS → DA) (hK145 : ∀  (h : DS), DOk SX (d + 3) m_X12_once 145 [some (.ref this), some (.int a1), some (.int a2), none, none, some (.ref p5_95), none, none] [] h (K145 h)) (X : Int32 → DS → DA) (hX : ∀ (a : Int32) (h : DS), DOk SX (d + 3) m_X12_once 95 [some (.ref this), some (.int a1), some (.int a2), none, none, some (.ref p5_95), some (.int a), none] [] h (X a h)) (s6_95 : Int32) (h : DS) : DOk SX (d + 3) m_X12_once 95 [some (.ref this), some (.int a1), some (.int a2), none, none, some (.ref p5_95), some (.int s6_95), none] [] h (g_X12_once_L95 N this a1 a2 p5_95 K145 X s6_95 h) := by
  unfold g_X12_once_L95
  refine dk_iload 97 6 dX12_once_95 rfl rfl ?_
  refine dk_aload_n 98 0 dX12_once_97 rfl rfl rfl ?_
  refine dk_getI 101 dX12_once_98 rfl rfl F_EncoresLaw_House_59 (fun a_98 _ => ?_)
  refine dk_icmp_ge 145 104 dX12_once_101 (by decide) rfl (fun _ => ?_) (fun _ => ?_)
  · exact dk_less [some (.ref this), some (.int a1), some (.int a2), none, none, some (.ref p5_95), none, none] (And.intro rfl (And.intro rfl (And.intro rfl (And.intro rfl (trivial))))) (hK145 h)
  · refine dk_aload_n 105 0 dX12_once_104 rfl rfl rfl ?_
    refine dk_getR 108 dX12_once_105 rfl rfl F_EncoresLaw_House_21 (fun r_105 _ => ?_)
    refine dk_iload 110 6 dX12_once_108 rfl rfl ?_
    refine dk_aald 103 111 (Or.inl rfl) dX12_once_110 rfl (fun r_110 _ => ?_)
    refine dk_iconst 112 3 dX12_once_111 rfl rfl ?_
    refine dk_iald 113 dX12_once_112 rfl (fun a_112 _ => ?_)
    refine dk_iconst 114 1 dX12_once_113 rfl rfl ?_
    refine dk_icmp_ne 139 117 dX12_once_114 (by decide) rfl (fun _ => ?_) (fun _ => ?_)
    · refine dk_iinc 142 6 1 [some (.ref this), some (.int a1), some (.int a2), none, none, some (.ref p5_95), some (.int (s6_95 + 1)), none] dX12_once_139 rfl rfl rfl (by decide) rfl ?_
      refine dk_goto 95 dX12_once_142 (by decide) ?_
      exact dk_less [some (.ref this), some (.int a1), some (.int a2), none, none, some (.ref p5_95), some (.int (s6_95 + 1)), none] (And.intro rfl (And.intro rfl (And.intro rfl (And.intro rfl (And.intro rfl (trivial)))))) (hX ((s6_95 + 1)) h)
    · refine dk_aload 119 5 dX12_once_117 rfl rfl ?_
      refine dk_iload 121 6 dX12_once_119 rfl rfl ?_
      refine dk_iload_n 122 2 dX12_once_121 rfl rfl rfl ?_
      refine dk_if_eq 135 125 dX12_once_122 (by decide) rfl (fun _ => ?_) (fun _ => ?_)
      · refine dk_sipush 138 500 dX12_once_135 rfl rfl ?_
        refine dk_iast 139 dX12_once_138 rfl (fun h_138 _ => ?_)
        refine dk_iinc 142 6 1 [some (.ref this), some (.int a1), some (.int a2), none, none, some (.ref p5_95), some (.int (s6_95 + 1)), none] dX12_once_139 rfl rfl rfl (by decide) rfl ?_
        refine dk_goto 95 dX12_once_142 (by decide) ?_
        exact dk_less [some (.ref this), some (.int a1), some (.int a2), none, none, some (.ref p5_95), some (.int (s6_95 + 1)), none] (And.intro rfl (And.intro rfl (And.intro rfl (And.intro rfl (And.intro rfl (trivial)))))) (hX ((s6_95 + 1)) h_138)
      · refine dk_aload_n 126 0 dX12_once_125 rfl rfl rfl ?_
        refine dk_sipush 129 1000 dX12_once_126 rfl rfl ?_
        refine dk_callV (np := 1) (M' := m_X12_draw) (As := [.int 1000]) (st := [.int s6_95, .ref p5_95]) 12 132 dX12_once_129 rfl rfl km_X12_draw ki_X12_draw kv_X12_draw ml_EncoresLaw_House_102 (by decide) (by decide) rfl rfl rfl (Nat.le_of_ble_eq_true rfl) (dc_X12_draw N (d + 2) this (1000 : Int32) h) (fun v_129 h_129 e_129 => ?_)
        show DOk _ _ _ _ _ (.int v_129 :: [.int s6_95, .ref p5_95]) _ _
        refine dk_goto 138 dX12_once_132 (by decide) ?_
        refine dk_iast 139 dX12_once_138 rfl (fun h_138 _ => ?_)
        refine dk_iinc 142 6 1 [some (.ref this), some (.int a1), some (.int a2), none, none, some (.ref p5_95), some (.int (s6_95 + 1)), none] dX12_once_139 rfl rfl rfl (by decide) rfl ?_
        refine dk_goto 95 dX12_once_142 (by decide) ?_
        exact dk_less [some (.ref this), some (.int a1), some (.int a2), none, none, some (.ref p5_95), some (.int (s6_95 + 1)), none] (And.intro rfl (And.intro rfl (And.intro rfl (And.intro rfl (And.intro rfl (trivial)))))) (hX ((s6_95 + 1)) h_138)

set_option maxRecDepth 100000 in
set_option maxHeartbeats 4000000 in
theorem dl_X12_once_L95 (N d : Nat) (this : Nat) (a1 : Int32) (a2 : Int32) (p5_95 : Nat) (K145 : DS → DA) (hK145 : ∀  (h : DS), DOk SX (d + 3) m_X12_once 145 [some (.ref this), some (.int a1), some (.int a2), none, none, some (.ref p5_95), none, none] [] h (K145 h)) : ∀ (n : Nat) (a : Int32) (h : DS), DOk SX (d + 3) m_X12_once 95 [some (.ref this), some (.int a1), some (.int a2), none, none, some (.ref p5_95), some (.int a), none] [] h (jt (fun Y a hz => g_X12_once_L95 N this a1 a2 p5_95 K145 Y a hz) n a h) :=
  dk_jt (fun a => [some (.ref this), some (.int a1), some (.int a2), none, none, some (.ref p5_95), some (.int a), none]) (fun X hX a h => db_X12_once_L95 (SX := SX) N d this a1 a2 p5_95 K145 hK145 X hX a h)

set_option maxRecDepth 100000 in
set_option maxHeartbeats 4000000 in
theorem db_X12_once_L169 (N d : Nat) (this : Nat) (a1 : Int32) (a2 : Int32) (p5_169 : Nat) (K271 : Int32 → DS → DA) (hK271 : ∀ (k6 : Int32) (h : DS), DOk SX (d + 3) m_X12_once 271 [some (.ref this), some (.int a1), some (.int a2), none, none, some (.ref p5_169), some (.int k6), none] [] h (K271 k6 h)) (X : (Int32 × Int32) → DS → DA) (hX : ∀ (a : (Int32 × Int32)) (h : DS), DOk SX (d + 3) m_X12_once 169 [some (.ref this), some (.int a1), some (.int a2), none, none, some (.ref p5_169), some (.int a.1), some (.int a.2)] [] h (X a h)) (s6_169 : Int32) (s7_169 : Int32) (h : DS) : DOk SX (d + 3) m_X12_once 169 [some (.ref this), some (.int a1), some (.int a2), none, none, some (.ref p5_169), some (.int s6_169), some (.int s7_169)] [] h (g_X12_once_L169 N this a1 a2 p5_169 K271 X s6_169 s7_169 h) := by
  unfold g_X12_once_L169
  refine dk_iload 171 7 dX12_once_169 rfl rfl ?_
  refine dk_aload_n 172 0 dX12_once_171 rfl rfl rfl ?_
  refine dk_getI 175 dX12_once_172 rfl rfl F_EncoresLaw_House_59 (fun a_172 _ => ?_)
  refine dk_icmp_ge 271 178 dX12_once_175 (by decide) rfl (fun _ => ?_) (fun _ => ?_)
  · exact dk_less [some (.ref this), some (.int a1), some (.int a2), none, none, some (.ref p5_169), some (.int s6_169), none] (And.intro rfl (And.intro rfl (And.intro rfl (And.intro rfl (And.intro rfl (trivial)))))) (hK271 s6_169 h)
  · refine dk_aload_n 179 0 dX12_once_178 rfl rfl rfl ?_
    refine dk_getR 182 dX12_once_179 rfl rfl F_EncoresLaw_House_21 (fun r_179 _ => ?_)
    refine dk_iload 184 7 dX12_once_182 rfl rfl ?_
    refine dk_aald 103 185 (Or.inl rfl) dX12_once_184 rfl (fun r_184 _ => ?_)
    refine dk_iconst 186 3 dX12_once_185 rfl rfl ?_
    refine dk_iald 187 dX12_once_186 rfl (fun a_186 _ => ?_)
    refine dk_if_eq 265 190 dX12_once_187 (by decide) rfl (fun _ => ?_) (fun _ => ?_)
    · refine dk_iinc 268 7 1 [some (.ref this), some (.int a1), some (.int a2), none, none, some (.ref p5_169), some (.int s6_169), some (.int (s7_169 + 1))] dX12_once_265 rfl rfl rfl (by decide) rfl ?_
      refine dk_goto 169 dX12_once_268 (by decide) ?_
      exact dk_less [some (.ref this), some (.int a1), some (.int a2), none, none, some (.ref p5_169), some (.int s6_169), some (.int (s7_169 + 1))] (And.intro rfl (And.intro rfl (And.intro rfl (And.intro rfl (And.intro rfl (And.intro rfl (trivial))))))) (hX (s6_169, (s7_169 + 1)) h)
    · refine dk_aload_n 191 0 dX12_once_190 rfl rfl rfl ?_
      refine dk_getR 194 dX12_once_191 rfl rfl F_EncoresLaw_House_21 (fun r_191 _ => ?_)
      refine dk_iload 196 7 dX12_once_194 rfl rfl ?_
      refine dk_aald 103 197 (Or.inl rfl) dX12_once_196 rfl (fun r_196 _ => ?_)
      refine dk_iconst 198 4 dX12_once_197 rfl rfl ?_
      refine dk_iald 199 dX12_once_198 rfl (fun a_198 _ => ?_)
      refine dk_iconst 200 1 dX12_once_199 rfl rfl ?_
      refine dk_icmp_eq 265 203 dX12_once_200 (by decide) rfl (fun _ => ?_) (fun _ => ?_)
      · refine dk_iinc 268 7 1 [some (.ref this), some (.int a1), some (.int a2), none, none, some (.ref p5_169), some (.int s6_169), some (.int (s7_169 + 1))] dX12_once_265 rfl rfl rfl (by decide) rfl ?_
        refine dk_goto 169 dX12_once_268 (by decide) ?_
        exact dk_less [some (.ref this), some (.int a1), some (.int a2), none, none, some (.ref p5_169), some (.int s6_169), some (.int (s7_169 + 1))] (And.intro rfl (And.intro rfl (And.intro rfl (And.intro rfl (And.intro rfl (And.intro rfl (trivial))))))) (hX (s6_169, (s7_169 + 1)) h)
      · refine dk_aload_n 204 0 dX12_once_203 rfl rfl rfl ?_
        refine dk_getI 207 dX12_once_204 rfl rfl F_EncoresLaw_House_105 (fun a_204 _ => ?_)
        refine dk_iload 209 7 dX12_once_207 rfl rfl ?_
        refine dk_ishr 210 dX12_once_209 rfl ?_
        refine dk_iconst 211 1 dX12_once_210 rfl rfl ?_
        refine dk_iand 212 dX12_once_211 rfl ?_
        refine dk_iconst 213 1 dX12_once_212 rfl rfl ?_
        refine dk_icmp_eq 265 216 dX12_once_213 (by decide) rfl (fun _ => ?_) (fun _ => ?_)
        · refine dk_iinc 268 7 1 [some (.ref this), some (.int a1), some (.int a2), none, none, some (.ref p5_169), some (.int s6_169), some (.int (s7_169 + 1))] dX12_once_265 rfl rfl rfl (by decide) rfl ?_
          refine dk_goto 169 dX12_once_268 (by decide) ?_
          exact dk_less [some (.ref this), some (.int a1), some (.int a2), none, none, some (.ref p5_169), some (.int s6_169), some (.int (s7_169 + 1))] (And.intro rfl (And.intro rfl (And.intro rfl (And.intro rfl (And.intro rfl (And.intro rfl (trivial))))))) (hX (s6_169, (s7_169 + 1)) h)
        · refine dk_aload 218 5 dX12_once_216 rfl rfl ?_
          refine dk_iload 220 7 dX12_once_218 rfl rfl ?_
          refine dk_iald 221 dX12_once_220 rfl (fun a_220 _ => ?_)
          refine dk_aload_n 222 0 dX12_once_221 rfl rfl rfl ?_
          refine dk_iload 224 7 dX12_once_222 rfl rfl ?_
          refine dk_iload_n 225 1 dX12_once_224 rfl rfl rfl ?_
          refine dk_aload_n 226 0 dX12_once_225 rfl rfl rfl ?_
          refine dk_getR 229 dX12_once_226 rfl rfl F_EncoresLaw_House_37 (fun r_226 _ => ?_)
          refine dk_iload 231 7 dX12_once_229 rfl rfl ?_
          refine dk_iald 232 dX12_once_231 rfl (fun a_231 _ => ?_)
          refine dk_aload_n 233 0 dX12_once_232 rfl rfl rfl ?_
          refine dk_getI 236 dX12_once_233 rfl rfl F_EncoresLaw_House_105 (fun a_233 _ => ?_)
          refine dk_iand 237 dX12_once_236 rfl ?_
          refine dk_callXS (np := 1) (M' := m_J6_bitCount_0f7a4) (As := [.int (a_231 &&& a_233)]) (st := [.int a1, .int s7_169, .ref this, .int a_220]) 240 dX12_once_237 rfl rfl km_J6_bitCount_0f7a4 ks_J6_bitCount_0f7a4 ml_EncoresLaw_House_111 (by decide) rfl rfl (fun k hk => by simp at hk) (Nat.le_of_ble_eq_true rfl) (c_J6_bitCount_0f7a4 N (d + 2) (a_231 &&& a_233) h.1) (fun _ h => by cases h; exact pr_int) (fun v_237 n_237 e_237 => ?_)
          generalize pat h n_237 = h_237
          show DOk _ _ _ _ _ (.int v_237 :: [.int a1, .int s7_169, .ref this, .int a_220]) _ _
          refine dk_callV (np := 3) (M' := m_X12_clap) (As := [.int s7_169, .int a1, .int v_237]) (st := [.int a_220]) 12 243 dX12_once_240 rfl rfl km_X12_clap ki_X12_clap kv_X12_clap ml_EncoresLaw_House_116 (by decide) (by decide) rfl rfl rfl (Nat.le_of_ble_eq_true rfl) (dc_X12_clap N (d + 0) this s7_169 a1 v_237 h_237) (fun v_240 h_240 e_240 => ?_)
          show DOk _ _ _ _ _ (.int v_240 :: [.int a_220]) _ _
          refine dk_icmp_lt 249 246 dX12_once_243 (by decide) rfl (fun _ => ?_) (fun _ => ?_)
          · refine dk_aload_n 250 0 dX12_once_249 rfl rfl rfl ?_
            refine dk_dup 251 dX12_once_250 rfl rfl ?_
            refine dk_getI 254 dX12_once_251 rfl rfl F_EncoresLaw_House_105 (fun a_251 _ => ?_)
            refine dk_iconst 255 1 dX12_once_254 rfl rfl ?_
            refine dk_iload 257 7 dX12_once_255 rfl rfl ?_
            refine dk_ishl 258 dX12_once_257 rfl ?_
            refine dk_ior 259 dX12_once_258 rfl ?_
            refine dk_putI 262 dX12_once_259 rfl rfl F_EncoresLaw_House_105 rfl pZ_12_22 rfl rfl (fun h_259 _ => ?_)
            refine dk_iconst 263 1 dX12_once_262 rfl rfl ?_
            refine dk_istore 265 6 [some (.ref this), some (.int a1), some (.int a2), none, none, some (.ref p5_169), some (.int 1), some (.int s7_169)] dX12_once_263 rfl (by decide) rfl ?_
            refine dk_iinc 268 7 1 [some (.ref this), some (.int a1), some (.int a2), none, none, some (.ref p5_169), some (.int 1), some (.int (s7_169 + 1))] dX12_once_265 rfl rfl rfl (by decide) rfl ?_
            refine dk_goto 169 dX12_once_268 (by decide) ?_
            exact dk_less [some (.ref this), some (.int a1), some (.int a2), none, none, some (.ref p5_169), some (.int 1), some (.int (s7_169 + 1))] (And.intro rfl (And.intro rfl (And.intro rfl (And.intro rfl (And.intro rfl (And.intro rfl (trivial))))))) (hX (1, (s7_169 + 1)) h_259)
          · refine dk_goto 265 dX12_once_246 (by decide) ?_
            refine dk_iinc 268 7 1 [some (.ref this), some (.int a1), some (.int a2), none, none, some (.ref p5_169), some (.int s6_169), some (.int (s7_169 + 1))] dX12_once_265 rfl rfl rfl (by decide) rfl ?_
            refine dk_goto 169 dX12_once_268 (by decide) ?_
            exact dk_less [some (.ref this), some (.int a1), some (.int a2), none, none, some (.ref p5_169), some (.int s6_169), some (.int (s7_169 + 1))] (And.intro rfl (And.intro rfl (And.intro rfl (And.intro rfl (And.intro rfl (And.intro rfl (trivial))))))) (hX (s6_169, (s7_169 + 1)) h_240)

set_option maxRecDepth 100000 in
set_option maxHeartbeats 4000000 in
theorem dl_X12_once_L169 (N d : Nat) (this : Nat) (a1 : Int32) (a2 : Int32) (p5_169 : Nat) (K271 : Int32 → DS → DA) (hK271 : ∀ (k6 : Int32) (h : DS), DOk SX (d + 3) m_X12_once 271 [some (.ref this), some (.int a1), some (.int a2), none, none, some (.ref p5_169), some (.int k6), none] [] h (K271 k6 h)) : ∀ (n : Nat) (a : (Int32 × Int32)) (h : DS), DOk SX (d + 3) m_X12_once 169 [some (.ref this), some (.int a1), some (.int a2), none, none, some (.ref p5_169), some (.int a.1), some (.int a.2)] [] h (jt (fun Y a hz => g_X12_once_L169 N this a1 a2 p5_169 K271 Y a.1 a.2 hz) n a h) :=
  dk_jt (fun a => [some (.ref this), some (.int a1), some (.int a2), none, none, some (.ref p5_169), some (.int a.1), some (.int a.2)]) (fun X hX a h => db_X12_once_L169 (SX := SX) N d this a1 a2 p5_169 K271 hK271 X hX a.1 a.2 h)

set_option maxRecDepth 100000 in
set_option maxHeartbeats 4000000 in
theorem db_X12_once_L158 (N d : Nat) (this : Nat) (a1 : Int32) (a2 : Int32) (p5_158 : Nat) (K289 : DS → DA) (hK289 : ∀  (h : DS), DOk SX (d + 3) m_X12_once 289 [some (.ref this), some (.int a1), some (.int a2), none, none, none, none, none] [] h (K289 h)) (X : Int32 → DS → DA) (hX : ∀ (a : Int32) (h : DS), DOk SX (d + 3) m_X12_once 158 [some (.ref this), some (.int a1), some (.int a2), none, none, some (.ref p5_158), some (.int a), none] [] h (X a h)) (s6_158 : Int32) (h : DS) : DOk SX (d + 3) m_X12_once 158 [some (.ref this), some (.int a1), some (.int a2), none, none, some (.ref p5_158), some (.int s6_158), none] [] h (g_X12_once_L158 N this a1 a2 p5_158 K289 X s6_158 h) := by
  unfold g_X12_once_L158
  refine dk_iload 160 6 dX12_once_158 rfl rfl ?_
  refine dk_if_eq 289 163 dX12_once_160 (by decide) rfl (fun _ => ?_) (fun _ => ?_)
  · exact dk_less [some (.ref this), some (.int a1), some (.int a2), none, none, none, none, none] (And.intro rfl (And.intro rfl (And.intro rfl (trivial)))) (hK289 h)
  · refine dk_iconst 164 0 dX12_once_163 rfl rfl ?_
    refine dk_istore 166 6 [some (.ref this), some (.int a1), some (.int a2), none, none, some (.ref p5_158), some (.int 0), none] dX12_once_164 rfl (by decide) rfl ?_
    refine dk_iconst 167 0 dX12_once_166 rfl rfl ?_
    refine dk_istore 169 7 [some (.ref this), some (.int a1), some (.int a2), none, none, some (.ref p5_158), some (.int 0), some (.int 0)] dX12_once_167 rfl (by decide) rfl ?_
    refine dk_less [some (.ref this), some (.int a1), some (.int a2), none, none, some (.ref p5_158), some (.int 0), some (.int 0)] (And.intro rfl (And.intro rfl (And.intro rfl (And.intro rfl (And.intro rfl (And.intro rfl (trivial))))))) ?_
    exact dl_X12_once_L169 (SX := SX) N d this a1 a2 p5_158 (fun k6_271 hk271 => if k6_271 = 0 then (X (k6_271) hk271)
else (bo (dI hk271 this 12 23) fun a_278 =>
bo (wI hk271 this 12 23 (a_278 + (1 : Int32))) fun h_283 =>
X (k6_271) h_283)) (fun k6_271 hk271 => by
        refine dk_iload 273 6 dX12_once_271 rfl rfl ?_
        refine dk_if_eq 158 276 dX12_once_273 (by decide) rfl (fun _ => ?_) (fun _ => ?_)
        · exact dk_less [some (.ref this), some (.int a1), some (.int a2), none, none, some (.ref p5_158), some (.int k6_271), none] (And.intro rfl (And.intro rfl (And.intro rfl (And.intro rfl (And.intro rfl (trivial)))))) (hX (k6_271) hk271)
        · refine dk_aload_n 277 0 dX12_once_276 rfl rfl rfl ?_
          refine dk_dup 278 dX12_once_277 rfl rfl ?_
          refine dk_getI 281 dX12_once_278 rfl rfl F_EncoresLaw_House_108 (fun a_278 _ => ?_)
          refine dk_iconst 282 1 dX12_once_281 rfl rfl ?_
          refine dk_iadd 283 dX12_once_282 rfl ?_
          refine dk_putI 286 dX12_once_283 rfl rfl F_EncoresLaw_House_108 rfl pZ_12_23 rfl rfl (fun h_283 _ => ?_)
          refine dk_goto 158 dX12_once_286 (by decide) ?_
          exact dk_less [some (.ref this), some (.int a1), some (.int a2), none, none, some (.ref p5_158), some (.int k6_271), none] (And.intro rfl (And.intro rfl (And.intro rfl (And.intro rfl (And.intro rfl (trivial)))))) (hX (k6_271) h_283)) N (0, 0) h

set_option maxRecDepth 100000 in
set_option maxHeartbeats 4000000 in
theorem dl_X12_once_L158 (N d : Nat) (this : Nat) (a1 : Int32) (a2 : Int32) (p5_158 : Nat) (K289 : DS → DA) (hK289 : ∀  (h : DS), DOk SX (d + 3) m_X12_once 289 [some (.ref this), some (.int a1), some (.int a2), none, none, none, none, none] [] h (K289 h)) : ∀ (n : Nat) (a : Int32) (h : DS), DOk SX (d + 3) m_X12_once 158 [some (.ref this), some (.int a1), some (.int a2), none, none, some (.ref p5_158), some (.int a), none] [] h (jt (fun Y a hz => g_X12_once_L158 N this a1 a2 p5_158 K289 Y a hz) n a h) :=
  dk_jt (fun a => [some (.ref this), some (.int a1), some (.int a2), none, none, some (.ref p5_158), some (.int a), none]) (fun X hX a h => db_X12_once_L158 (SX := SX) N d this a1 a2 p5_158 K289 hK289 X hX a h)

set_option maxRecDepth 100000 in
set_option maxHeartbeats 4000000 in
theorem db_X12_once_L301 (N d : Nat) (this : Nat) (a1 : Int32) (a2 : Int32)  (K374 : DS → DA) (hK374 : ∀  (h : DS), DOk SX (d + 3) m_X12_once 374 [some (.ref this), some (.int a1), some (.int a2), none, none, none, none, none] [] h (K374 h)) (X : Int32 → DS → DA) (hX : ∀ (a : Int32) (h : DS), DOk SX (d + 3) m_X12_once 301 [some (.ref this), some (.int a1), some (.int a2), none, none, none, none, some (.int a)] [] h (X a h)) (s7_301 : Int32) (h : DS) : DOk SX (d + 3) m_X12_once 301 [some (.ref this), some (.int a1), some (.int a2), none, none, none, none, some (.int s7_301)] [] h (g_X12_once_L301 N this a1 a2 K374 X s7_301 h) := by
  unfold g_X12_once_L301
  refine dk_iload 303 7 dX12_once_301 rfl rfl ?_
  refine dk_aload_n 304 0 dX12_once_303 rfl rfl rfl ?_
  refine dk_getI 307 dX12_once_304 rfl rfl F_EncoresLaw_House_59 (fun a_304 _ => ?_)
  refine dk_icmp_ge 374 310 dX12_once_307 (by decide) rfl (fun _ => ?_) (fun _ => ?_)
  · exact dk_less [some (.ref this), some (.int a1), some (.int a2), none, none, none, none, none] (And.intro rfl (And.intro rfl (And.intro rfl (trivial)))) (hK374 h)
  · refine dk_aload_n 311 0 dX12_once_310 rfl rfl rfl ?_
    refine dk_getI 314 dX12_once_311 rfl rfl F_EncoresLaw_House_105 (fun a_311 _ => ?_)
    refine dk_iload 316 7 dX12_once_314 rfl rfl ?_
    refine dk_ishr 317 dX12_once_316 rfl ?_
    refine dk_iconst 318 1 dX12_once_317 rfl rfl ?_
    refine dk_iand 319 dX12_once_318 rfl ?_
    refine dk_iconst 320 1 dX12_once_319 rfl rfl ?_
    refine dk_icmp_ne 368 323 dX12_once_320 (by decide) rfl (fun _ => ?_) (fun _ => ?_)
    · refine dk_iinc 371 7 1 [some (.ref this), some (.int a1), some (.int a2), none, none, none, none, some (.int (s7_301 + 1))] dX12_once_368 rfl rfl rfl (by decide) rfl ?_
      refine dk_goto 301 dX12_once_371 (by decide) ?_
      exact dk_less [some (.ref this), some (.int a1), some (.int a2), none, none, none, none, some (.int (s7_301 + 1))] (And.intro rfl (And.intro rfl (And.intro rfl (And.intro rfl (trivial))))) (hX ((s7_301 + 1)) h)
    · refine dk_aload_n 324 0 dX12_once_323 rfl rfl rfl ?_
      refine dk_dup 325 dX12_once_324 rfl rfl ?_
      refine dk_getI 328 dX12_once_325 rfl rfl F_EncoresLaw_House_122 (fun a_325 _ => ?_)
      refine dk_aload_n 329 0 dX12_once_328 rfl rfl rfl ?_
      refine dk_getI 332 dX12_once_329 rfl rfl F_EncoresLaw_House_68 (fun a_329 _ => ?_)
      refine dk_iload 334 7 dX12_once_332 rfl rfl ?_
      refine dk_ishr 335 dX12_once_334 rfl ?_
      refine dk_iconst 336 1 dX12_once_335 rfl rfl ?_
      refine dk_iand 337 dX12_once_336 rfl ?_
      refine dk_iconst 338 1 dX12_once_337 rfl rfl ?_
      refine dk_icmp_ne 355 341 dX12_once_338 (by decide) rfl (fun _ => ?_) (fun _ => ?_)
      · refine dk_aload_n 356 0 dX12_once_355 rfl rfl rfl ?_
        refine dk_getR 359 dX12_once_356 rfl rfl F_EncoresLaw_House_21 (fun r_356 _ => ?_)
        refine dk_iload 361 7 dX12_once_359 rfl rfl ?_
        refine dk_aald 103 362 (Or.inl rfl) dX12_once_361 rfl (fun r_361 _ => ?_)
        refine dk_iconst 363 0 dX12_once_362 rfl rfl ?_
        refine dk_iald 364 dX12_once_363 rfl (fun a_363 _ => ?_)
        refine dk_iadd 365 dX12_once_364 rfl ?_
        refine dk_putI 368 dX12_once_365 rfl rfl F_EncoresLaw_House_122 rfl pZ_12_24 rfl rfl (fun h_365 _ => ?_)
        refine dk_iinc 371 7 1 [some (.ref this), some (.int a1), some (.int a2), none, none, none, none, some (.int (s7_301 + 1))] dX12_once_368 rfl rfl rfl (by decide) rfl ?_
        refine dk_goto 301 dX12_once_371 (by decide) ?_
        exact dk_less [some (.ref this), some (.int a1), some (.int a2), none, none, none, none, some (.int (s7_301 + 1))] (And.intro rfl (And.intro rfl (And.intro rfl (And.intro rfl (trivial))))) (hX ((s7_301 + 1)) h_365)
      · refine dk_iconst 342 2 dX12_once_341 rfl rfl ?_
        refine dk_aload_n 343 0 dX12_once_342 rfl rfl rfl ?_
        refine dk_getR 346 dX12_once_343 rfl rfl F_EncoresLaw_House_21 (fun r_343 _ => ?_)
        refine dk_iload 348 7 dX12_once_346 rfl rfl ?_
        refine dk_aald 103 349 (Or.inl rfl) dX12_once_348 rfl (fun r_348 _ => ?_)
        refine dk_iconst 350 0 dX12_once_349 rfl rfl ?_
        refine dk_iald 351 dX12_once_350 rfl (fun a_350 _ => ?_)
        refine dk_imul 352 dX12_once_351 rfl ?_
        refine dk_goto 364 dX12_once_352 (by decide) ?_
        refine dk_iadd 365 dX12_once_364 rfl ?_
        refine dk_putI 368 dX12_once_365 rfl rfl F_EncoresLaw_House_122 rfl pZ_12_24 rfl rfl (fun h_365 _ => ?_)
        refine dk_iinc 371 7 1 [some (.ref this), some (.int a1), some (.int a2), none, none, none, none, some (.int (s7_301 + 1))] dX12_once_368 rfl rfl rfl (by decide) rfl ?_
        refine dk_goto 301 dX12_once_371 (by decide) ?_
        exact dk_less [some (.ref this), some (.int a1), some (.int a2), none, none, none, none, some (.int (s7_301 + 1))] (And.intro rfl (And.intro rfl (And.intro rfl (And.intro rfl (trivial))))) (hX ((s7_301 + 1)) h_365)

set_option maxRecDepth 100000 in
set_option maxHeartbeats 4000000 in
theorem dl_X12_once_L301 (N d : Nat) (this : Nat) (a1 : Int32) (a2 : Int32)  (K374 : DS → DA) (hK374 : ∀  (h : DS), DOk SX (d + 3) m_X12_once 374 [some (.ref this), some (.int a1), some (.int a2), none, none, none, none, none] [] h (K374 h)) : ∀ (n : Nat) (a : Int32) (h : DS), DOk SX (d + 3) m_X12_once 301 [some (.ref this), some (.int a1), some (.int a2), none, none, none, none, some (.int a)] [] h (jt (fun Y a hz => g_X12_once_L301 N this a1 a2 K374 Y a hz) n a h) :=
  dk_jt (fun a => [some (.ref this), some (.int a1), some (.int a2), none, none, none, none, some (.int a)]) (fun X hX a h => db_X12_once_L301 (SX := SX) N d this a1 a2  K374 hK374 X hX a h)

set_option maxRecDepth 100000 in
set_option maxHeartbeats 4000000 in
theorem dj_X12_once_J437 (N d : Nat) (this : Nat) (a1 : Int32) (a2 : Int32)   (s7_437 : Int32) (t0_437 : Int32) (t1_437 : Nat) (h : DS) : DOk SX (d + 3) m_X12_once 437 [some (.ref this), some (.int a1), some (.int a2), none, none, none, none, some (.int s7_437)] [.int t0_437, .ref t1_437] h (g_X12_once_J437 N this a1 a2 s7_437 t0_437 t1_437 h) := by
  unfold g_X12_once_J437
  refine dk_iload_n 438 1 dX12_once_437 rfl rfl rfl ?_
  refine dk_aload_n 439 0 dX12_once_438 rfl rfl rfl ?_
  refine dk_getI 442 dX12_once_439 rfl rfl F_EncoresLaw_House_122 (fun a_439 _ => ?_)
  refine dk_iload_n 443 2 dX12_once_442 rfl rfl rfl ?_
  refine dk_callV (np := 4) (M' := m_X12_notes) (As := [.int t0_437, .int a1, .int a_439, .int a2]) (st := []) 12 446 dX12_once_443 rfl rfl km_X12_notes ki_X12_notes kv_X12_notes ml_EncoresLaw_House_125 (by decide) (by decide) rfl rfl rfl (Nat.le_of_ble_eq_true rfl) (dc_X12_notes N (d + 2) t1_437 t0_437 a1 a_439 a2 h) (fun v_443 h_443 e_443 => ?_)
  show DOk _ _ _ _ _ [] _ _
  refine dk_iload 448 7 dX12_once_446 rfl rfl ?_
  refine dk_if_ne 488 451 dX12_once_448 (by decide) rfl (fun _ => ?_) (fun _ => ?_)
  · refine dk_iconst 489 0 dX12_once_488 rfl rfl ?_
    exact dk_zretc dX12_once_489 rfl rfl
  · refine dk_aload_n 452 0 dX12_once_451 rfl rfl rfl ?_
    refine dk_getI 455 dX12_once_452 rfl rfl F_EncoresLaw_House_122 (fun a_452 _ => ?_)
    refine dk_aload_n 456 0 dX12_once_455 rfl rfl rfl ?_
    refine dk_callV (np := 0) (M' := m_X12_asks) (As := []) (st := [.int a_452]) 12 459 dX12_once_456 rfl rfl km_X12_asks ki_X12_asks kv_X12_asks ml_EncoresLaw_House_129 (by decide) (by decide) rfl rfl rfl (Nat.le_of_ble_eq_true rfl) (dc_X12_asks N (d + 2) this h_443) (fun v_456 h_456 e_456 => ?_)
    show DOk _ _ _ _ _ (.int v_456 :: [.int a_452]) _ _
    refine dk_icmp_lt 488 462 dX12_once_459 (by decide) rfl (fun _ => ?_) (fun _ => ?_)
    · refine dk_iconst 489 0 dX12_once_488 rfl rfl ?_
      exact dk_zretc dX12_once_489 rfl rfl
    · refine dk_aload_n 463 0 dX12_once_462 rfl rfl rfl ?_
      refine dk_getI 466 dX12_once_463 rfl rfl F_EncoresLaw_House_53 (fun a_463 _ => ?_)
      refine dk_aload_n 467 0 dX12_once_466 rfl rfl rfl ?_
      refine dk_getI 470 dX12_once_467 rfl rfl F_EncoresLaw_House_13 (fun a_467 _ => ?_)
      refine dk_icmp_ge 488 473 dX12_once_470 (by decide) rfl (fun _ => ?_) (fun _ => ?_)
      · refine dk_iconst 489 0 dX12_once_488 rfl rfl ?_
        exact dk_zretc dX12_once_489 rfl rfl
      · refine dk_aload_n 474 0 dX12_once_473 rfl rfl rfl ?_
        refine dk_getI 477 dX12_once_474 rfl rfl F_EncoresLaw_House_44 (fun a_474 _ => ?_)
        refine dk_aload_n 478 0 dX12_once_477 rfl rfl rfl ?_
        refine dk_getI 481 dX12_once_478 rfl rfl F_EncoresLaw_House_16 (fun a_478 _ => ?_)
        refine dk_icmp_ge 488 484 dX12_once_481 (by decide) rfl (fun _ => ?_) (fun _ => ?_)
        · refine dk_iconst 489 0 dX12_once_488 rfl rfl ?_
          exact dk_zretc dX12_once_489 rfl rfl
        · refine dk_iconst 485 1 dX12_once_484 rfl rfl ?_
          refine dk_goto 489 dX12_once_485 (by decide) ?_
          exact dk_zretc dX12_once_489 rfl rfl

set_option maxRecDepth 100000 in
set_option maxHeartbeats 4000000 in
theorem dj_X12_once_J424 (N d : Nat) (this : Nat) (a1 : Int32) (a2 : Int32)   (s7_424 : Int32) (h : DS) : DOk SX (d + 3) m_X12_once 424 [some (.ref this), some (.int a1), some (.int a2), none, none, none, none, some (.int s7_424)] [] h (g_X12_once_J424 N this a1 a2 s7_424 h) := by
  unfold g_X12_once_J424
  refine dk_aload_n 425 0 dX12_once_424 rfl rfl rfl ?_
  refine dk_aload_n 426 0 dX12_once_425 rfl rfl rfl ?_
  refine dk_getI 429 dX12_once_426 rfl rfl F_EncoresLaw_House_53 (fun a_426 _ => ?_)
  refine dk_if_le 436 432 dX12_once_429 (by decide) rfl (fun _ => ?_) (fun _ => ?_)
  · refine dk_iconst 437 0 dX12_once_436 rfl rfl ?_
    exact dk_less [some (.ref this), some (.int a1), some (.int a2), none, none, none, none, some (.int s7_424)] (And.intro rfl (And.intro rfl (And.intro rfl (And.intro rfl (trivial))))) (dj_X12_once_J437 (SX := SX) N d this a1 a2 s7_424 (0 : Int32) this h)
  · refine dk_iconst 433 1 dX12_once_432 rfl rfl ?_
    refine dk_goto 437 dX12_once_433 (by decide) ?_
    exact dk_less [some (.ref this), some (.int a1), some (.int a2), none, none, none, none, some (.int s7_424)] (And.intro rfl (And.intro rfl (And.intro rfl (And.intro rfl (trivial))))) (dj_X12_once_J437 (SX := SX) N d this a1 a2 s7_424 (1 : Int32) this h)

set_option maxRecDepth 100000 in
set_option maxHeartbeats 4000000 in
theorem dj_X12_once_J404 (N d : Nat) (this : Nat) (a1 : Int32) (a2 : Int32)   (t0_404 : Int32) (h : DS) : DOk SX (d + 3) m_X12_once 404 [some (.ref this), some (.int a1), some (.int a2), none, none, none, none, none] [.int t0_404] h (g_X12_once_J404 N this a1 a2 t0_404 h) := by
  unfold g_X12_once_J404
  refine dk_istore 406 7 [some (.ref this), some (.int a1), some (.int a2), none, none, none, none, some (.int t0_404)] dX12_once_404 rfl (by decide) rfl ?_
  refine dk_iload 408 7 dX12_once_406 rfl rfl ?_
  refine dk_if_eq 424 411 dX12_once_408 (by decide) rfl (fun _ => ?_) (fun _ => ?_)
  · exact dk_less [some (.ref this), some (.int a1), some (.int a2), none, none, none, none, some (.int t0_404)] (And.intro rfl (And.intro rfl (And.intro rfl (And.intro rfl (trivial))))) (dj_X12_once_J424 (SX := SX) N d this a1 a2 t0_404 h)
  · refine dk_aload_n 412 0 dX12_once_411 rfl rfl rfl ?_
    refine dk_iconst 413 0 dX12_once_412 rfl rfl ?_
    refine dk_putI 416 dX12_once_413 rfl rfl F_EncoresLaw_House_122 rfl pZ_12_24 rfl rfl (fun h_413 _ => ?_)
    refine dk_aload_n 417 0 dX12_once_416 rfl rfl rfl ?_
    refine dk_iconst 418 2 dX12_once_417 rfl rfl ?_
    refine dk_iload_n 419 1 dX12_once_418 rfl rfl rfl ?_
    refine dk_iconst 420 0 dX12_once_419 rfl rfl ?_
    refine dk_iconst 421 1 dX12_once_420 rfl rfl ?_
    refine dk_callV (np := 4) (M' := m_X12_notes) (As := [.int 2, .int a1, .int 0, .int 1]) (st := []) 12 424 dX12_once_421 rfl rfl km_X12_notes ki_X12_notes kv_X12_notes ml_EncoresLaw_House_125 (by decide) (by decide) rfl rfl rfl (Nat.le_of_ble_eq_true rfl) (dc_X12_notes N (d + 2) this (2 : Int32) a1 (0 : Int32) (1 : Int32) h_413) (fun v_421 h_421 e_421 => ?_)
    show DOk _ _ _ _ _ [] _ _
    exact dk_less [some (.ref this), some (.int a1), some (.int a2), none, none, none, none, some (.int t0_404)] (And.intro rfl (And.intro rfl (And.intro rfl (And.intro rfl (trivial))))) (dj_X12_once_J424 (SX := SX) N d this a1 a2 t0_404 h_421)

set_option maxRecDepth 100000 in
set_option maxHeartbeats 4000000 in
theorem dj_X12_once_J403 (N d : Nat) (this : Nat) (a1 : Int32) (a2 : Int32)    (h : DS) : DOk SX (d + 3) m_X12_once 403 [some (.ref this), some (.int a1), some (.int a2), none, none, none, none, none] [] h (g_X12_once_J403 N this a1 a2 h) := by
  unfold g_X12_once_J403
  refine dk_iconst 404 0 dX12_once_403 rfl rfl ?_
  exact dk_less [some (.ref this), some (.int a1), some (.int a2), none, none, none, none, none] (And.intro rfl (And.intro rfl (And.intro rfl (trivial)))) (dj_X12_once_J404 (SX := SX) N d this a1 a2 (0 : Int32) h)

set_option maxRecDepth 100000 in
set_option maxHeartbeats 4000000 in
theorem dj_X12_once_J26 (N d : Nat) (this : Nat) (a1 : Int32) (a2 : Int32)   (s3_26 : Nat) (t0_26 : Int32) (t1_26 : Nat) (h : DS) : DOk SX (d + 3) m_X12_once 26 [some (.ref this), some (.int a1), some (.int a2), some (.ref s3_26), none, none, none, none] [.int t0_26, .ref t1_26] h (g_X12_once_J26 N this a1 a2 s3_26 t0_26 t1_26 h) := by
  unfold g_X12_once_J26
  refine dk_putI 29 dX12_once_26 rfl rfl F_EncoresLaw_House_53 rfl pZ_12_5 rfl rfl (fun h_26 _ => ?_)
  refine dk_aload_n 30 0 dX12_once_29 rfl rfl rfl ?_
  refine dk_iload_n 31 1 dX12_once_30 rfl rfl rfl ?_
  refine dk_putI 34 dX12_once_31 rfl rfl F_EncoresLaw_House_7 rfl pZ_12_4 rfl rfl (fun h_31 _ => ?_)
  refine dk_aload_n 35 0 dX12_once_34 rfl rfl rfl ?_
  refine dk_iload_n 36 1 dX12_once_35 rfl rfl rfl ?_
  refine dk_callV (np := 1) (M' := m_X12_wears) (As := [.int a1]) (st := []) 12 39 dX12_once_36 rfl rfl km_X12_wears ki_X12_wears kv_X12_wears ml_EncoresLaw_House_92 (by decide) (by decide) rfl rfl rfl (Nat.le_of_ble_eq_true rfl) (dc_X12_wears N (d + 0) this a1 h_31) (fun v_36 h_36 e_36 => ?_)
  show DOk _ _ _ _ _ (.int v_36 :: []) _ _
  refine dk_istore 41 4 [some (.ref this), some (.int a1), some (.int a2), some (.ref s3_26), some (.int v_36), none, none, none] dX12_once_39 rfl (by decide) rfl ?_
  refine dk_aload_n 42 0 dX12_once_41 rfl rfl rfl ?_
  refine dk_dup 43 dX12_once_42 rfl rfl ?_
  refine dk_getI 46 dX12_once_43 rfl rfl F_EncoresLaw_House_44 (fun a_43 _ => ?_)
  refine dk_aload_n 47 3 dX12_once_46 rfl rfl rfl ?_
  refine dk_iconst 48 1 dX12_once_47 rfl rfl ?_
  refine dk_iald 49 dX12_once_48 rfl (fun a_48 _ => ?_)
  refine dk_iadd 50 dX12_once_49 rfl ?_
  refine dk_putI 53 dX12_once_50 rfl rfl F_EncoresLaw_House_44 rfl pZ_12_1 rfl rfl (fun h_50 _ => ?_)
  refine dk_aload_n 54 0 dX12_once_53 rfl rfl rfl ?_
  refine dk_dup 55 dX12_once_54 rfl rfl ?_
  refine dk_getI 58 dX12_once_55 rfl rfl F_EncoresLaw_House_50 (fun a_55 _ => ?_)
  refine dk_aload_n 59 3 dX12_once_58 rfl rfl rfl ?_
  refine dk_iconst 60 2 dX12_once_59 rfl rfl ?_
  refine dk_iald 61 dX12_once_60 rfl (fun a_60 _ => ?_)
  refine dk_isub 62 dX12_once_61 rfl ?_
  refine dk_putI 65 dX12_once_62 rfl rfl F_EncoresLaw_House_50 rfl pZ_12_3 rfl rfl (fun h_62 _ => ?_)
  refine dk_aload_n 66 3 dX12_once_65 rfl rfl rfl ?_
  refine dk_iconst 67 4 dX12_once_66 rfl rfl ?_
  refine dk_dup2 68 dX12_once_67 rfl rfl rfl ?_
  refine dk_iald 69 dX12_once_68 rfl (fun a_68 _ => ?_)
  refine dk_iconst 70 1 dX12_once_69 rfl rfl ?_
  refine dk_iadd 71 dX12_once_70 rfl ?_
  refine dk_iast 72 dX12_once_71 rfl (fun h_71 _ => ?_)
  refine dk_aload_n 73 3 dX12_once_72 rfl rfl rfl ?_
  refine dk_iconst 74 3 dX12_once_73 rfl rfl ?_
  refine dk_bipush 76 99 dX12_once_74 rfl rfl ?_
  refine dk_aload_n 77 3 dX12_once_76 rfl rfl rfl ?_
  refine dk_iconst 78 3 dX12_once_77 rfl rfl ?_
  refine dk_iald 79 dX12_once_78 rfl (fun a_78 _ => ?_)
  refine dk_iload 81 4 dX12_once_79 rfl rfl ?_
  refine dk_iadd 82 dX12_once_81 rfl ?_
  refine dk_min 85 dX12_once_82 rfl rfl ml_EncoresLaw_House_96 (Nat.le_of_ble_eq_true rfl) ?_
  refine dk_bndI (fun a_82 => ?_)
  refine dk_iast 86 dX12_once_85 rfl (fun h_85 _ => ?_)
  refine dk_bipush 88 12 dX12_once_86 rfl rfl ?_
  refine dk_newaI 90 dX12_once_88 rfl (fun h_88 _ => ?_)
  refine dk_astore 92 5 [some (.ref this), some (.int a1), some (.int a2), some (.ref s3_26), some (.int v_36), some (.ref h_85.2.1.length), none, none] dX12_once_90 rfl (by decide) rfl ?_
  refine dk_iconst 93 0 dX12_once_92 rfl rfl ?_
  refine dk_istore 95 6 [some (.ref this), some (.int a1), some (.int a2), some (.ref s3_26), some (.int v_36), some (.ref h_85.2.1.length), some (.int 0), none] dX12_once_93 rfl (by decide) rfl ?_
  refine dk_less [some (.ref this), some (.int a1), some (.int a2), none, none, some (.ref h_85.2.1.length), some (.int 0), none] (And.intro rfl (And.intro rfl (And.intro rfl (And.intro rfl (And.intro rfl (trivial)))))) ?_
  exact dl_X12_once_L95 (SX := SX) N d this a1 a2 h_85.2.1.length (fun hk145 => bo (wI hk145 this 12 22 (0 : Int32)) fun h_147 =>
bo (wI h_147 this 12 23 (0 : Int32)) fun h_152 =>
jt (fun Y a hz => g_X12_once_L158 N this a1 a2 h_85.2.1.length (fun hk289 => chk (isT hk289 12 this) <| bd3 (g_X12_loud N this a1 hk289) fun v_292 h_292 =>
bo (wI h_292 this 12 24 v_292) fun h_295 =>
jt (fun Y a hz => g_X12_once_L301 N this a1 a2  (fun hk374 => if a2 = 0 then (g_X12_once_J403 N this a1 a2 hk374)
else (bo (dI hk374 this 12 6) fun a_379 =>
if a_379 ≤ 0 then (g_X12_once_J403 N this a1 a2 hk374)
else (chk (isT hk374 12 this) <| bd3 (g_X12_draw N this (1000 : Int32) hk374) fun v_389 h_389 =>
bo (dI h_389 this 12 6) fun a_393 =>
if a_393 ≤ v_389 then (g_X12_once_J403 N this a1 a2 h_389)
else (g_X12_once_J404 N this a1 a2 (1 : Int32) h_389)))) Y a hz) N (0) h_295) Y a hz) N (1) h_152) (fun hk145 => by
      refine dk_aload_n 146 0 dX12_once_145 rfl rfl rfl ?_
      refine dk_iconst 147 0 dX12_once_146 rfl rfl ?_
      refine dk_putI 150 dX12_once_147 rfl rfl F_EncoresLaw_House_105 rfl pZ_12_22 rfl rfl (fun h_147 _ => ?_)
      refine dk_aload_n 151 0 dX12_once_150 rfl rfl rfl ?_
      refine dk_iconst 152 0 dX12_once_151 rfl rfl ?_
      refine dk_putI 155 dX12_once_152 rfl rfl F_EncoresLaw_House_108 rfl pZ_12_23 rfl rfl (fun h_152 _ => ?_)
      refine dk_iconst 156 1 dX12_once_155 rfl rfl ?_
      refine dk_istore 158 6 [some (.ref this), some (.int a1), some (.int a2), none, none, some (.ref h_85.2.1.length), some (.int 1), none] dX12_once_156 rfl (by decide) rfl ?_
      refine dk_less [some (.ref this), some (.int a1), some (.int a2), none, none, some (.ref h_85.2.1.length), some (.int 1), none] (And.intro rfl (And.intro rfl (And.intro rfl (And.intro rfl (And.intro rfl (trivial)))))) ?_
      exact dl_X12_once_L158 (SX := SX) N d this a1 a2 h_85.2.1.length (fun hk289 => chk (isT hk289 12 this) <| bd3 (g_X12_loud N this a1 hk289) fun v_292 h_292 =>
bo (wI h_292 this 12 24 v_292) fun h_295 =>
jt (fun Y a hz => g_X12_once_L301 N this a1 a2  (fun hk374 => if a2 = 0 then (g_X12_once_J403 N this a1 a2 hk374)
else (bo (dI hk374 this 12 6) fun a_379 =>
if a_379 ≤ 0 then (g_X12_once_J403 N this a1 a2 hk374)
else (chk (isT hk374 12 this) <| bd3 (g_X12_draw N this (1000 : Int32) hk374) fun v_389 h_389 =>
bo (dI h_389 this 12 6) fun a_393 =>
if a_393 ≤ v_389 then (g_X12_once_J403 N this a1 a2 h_389)
else (g_X12_once_J404 N this a1 a2 (1 : Int32) h_389)))) Y a hz) N (0) h_295) (fun hk289 => by
          refine dk_aload_n 290 0 dX12_once_289 rfl rfl rfl ?_
          refine dk_aload_n 291 0 dX12_once_290 rfl rfl rfl ?_
          refine dk_iload_n 292 1 dX12_once_291 rfl rfl rfl ?_
          refine dk_callV (np := 1) (M' := m_X12_loud) (As := [.int a1]) (st := [.ref this]) 12 295 dX12_once_292 rfl rfl km_X12_loud ki_X12_loud kv_X12_loud ml_EncoresLaw_House_119 (by decide) (by decide) rfl rfl rfl (Nat.le_of_ble_eq_true rfl) (dc_X12_loud N (d + 0) this a1 hk289) (fun v_292 h_292 e_292 => ?_)
          show DOk _ _ _ _ _ (.int v_292 :: [.ref this]) _ _
          refine dk_putI 298 dX12_once_295 rfl rfl F_EncoresLaw_House_122 rfl pZ_12_24 rfl rfl (fun h_295 _ => ?_)
          refine dk_iconst 299 0 dX12_once_298 rfl rfl ?_
          refine dk_istore 301 7 [some (.ref this), some (.int a1), some (.int a2), none, none, none, none, some (.int 0)] dX12_once_299 rfl (by decide) rfl ?_
          refine dk_less [some (.ref this), some (.int a1), some (.int a2), none, none, none, none, some (.int 0)] (And.intro rfl (And.intro rfl (And.intro rfl (And.intro rfl (trivial))))) ?_
          exact dl_X12_once_L301 (SX := SX) N d this a1 a2  (fun hk374 => if a2 = 0 then (g_X12_once_J403 N this a1 a2 hk374)
else (bo (dI hk374 this 12 6) fun a_379 =>
if a_379 ≤ 0 then (g_X12_once_J403 N this a1 a2 hk374)
else (chk (isT hk374 12 this) <| bd3 (g_X12_draw N this (1000 : Int32) hk374) fun v_389 h_389 =>
bo (dI h_389 this 12 6) fun a_393 =>
if a_393 ≤ v_389 then (g_X12_once_J403 N this a1 a2 h_389)
else (g_X12_once_J404 N this a1 a2 (1 : Int32) h_389)))) (fun hk374 => by
              refine dk_iload_n 375 2 dX12_once_374 rfl rfl rfl ?_
              refine dk_if_eq 403 378 dX12_once_375 (by decide) rfl (fun _ => ?_) (fun _ => ?_)
              · exact dk_less [some (.ref this), some (.int a1), some (.int a2), none, none, none, none, none] (And.intro rfl (And.intro rfl (And.intro rfl (trivial)))) (dj_X12_once_J403 (SX := SX) N d this a1 a2 hk374)
              · refine dk_aload_n 379 0 dX12_once_378 rfl rfl rfl ?_
                refine dk_getI 382 dX12_once_379 rfl rfl F_EncoresLaw_House_56 (fun a_379 _ => ?_)
                refine dk_if_le 403 385 dX12_once_382 (by decide) rfl (fun _ => ?_) (fun _ => ?_)
                · exact dk_less [some (.ref this), some (.int a1), some (.int a2), none, none, none, none, none] (And.intro rfl (And.intro rfl (And.intro rfl (trivial)))) (dj_X12_once_J403 (SX := SX) N d this a1 a2 hk374)
                · refine dk_aload_n 386 0 dX12_once_385 rfl rfl rfl ?_
                  refine dk_sipush 389 1000 dX12_once_386 rfl rfl ?_
                  refine dk_callV (np := 1) (M' := m_X12_draw) (As := [.int 1000]) (st := []) 12 392 dX12_once_389 rfl rfl km_X12_draw ki_X12_draw kv_X12_draw ml_EncoresLaw_House_102 (by decide) (by decide) rfl rfl rfl (Nat.le_of_ble_eq_true rfl) (dc_X12_draw N (d + 2) this (1000 : Int32) hk374) (fun v_389 h_389 e_389 => ?_)
                  show DOk _ _ _ _ _ (.int v_389 :: []) _ _
                  refine dk_aload_n 393 0 dX12_once_392 rfl rfl rfl ?_
                  refine dk_getI 396 dX12_once_393 rfl rfl F_EncoresLaw_House_56 (fun a_393 _ => ?_)
                  refine dk_icmp_ge 403 399 dX12_once_396 (by decide) rfl (fun _ => ?_) (fun _ => ?_)
                  · exact dk_less [some (.ref this), some (.int a1), some (.int a2), none, none, none, none, none] (And.intro rfl (And.intro rfl (And.intro rfl (trivial)))) (dj_X12_once_J403 (SX := SX) N d this a1 a2 h_389)
                  · refine dk_iconst 400 1 dX12_once_399 rfl rfl ?_
                    refine dk_goto 404 dX12_once_400 (by decide) ?_
                    exact dk_less [some (.ref this), some (.int a1), some (.int a2), none, none, none, none, none] (And.intro rfl (And.intro rfl (And.intro rfl (trivial)))) (dj_X12_once_J404 (SX := SX) N d this a1 a2 (1 : Int32) h_389)) N (0) h_295) N (1) h_152) N (0) h_88

set_option maxRecDepth 100000 in
set_option maxHeartbeats 4000000 in
theorem dg_X12_once (N d : Nat) (this : Nat) (a1 : Int32) (a2 : Int32) (h : DS) : DOk SX (d + 3) m_X12_once 0 [some (.ref this), some (.int a1), some (.int a2), none, none, none, none, none] [] h (g_X12_once N this a1 a2 h) := by
  unfold g_X12_once
  refine dk_aload_n 1 0 dX12_once_0 rfl rfl rfl ?_
  refine dk_getR 4 dX12_once_1 rfl rfl F_EncoresLaw_House_25 (fun r_1 _ => ?_)
  refine dk_iload_n 5 1 dX12_once_4 rfl rfl rfl ?_
  refine dk_aald 103 6 (Or.inl rfl) dX12_once_5 rfl (fun r_5 _ => ?_)
  refine dk_astore_n 7 3 [some (.ref this), some (.int a1), some (.int a2), some (.ref r_5), none, none, none, none] dX12_once_6 rfl rfl (by decide) rfl ?_
  refine dk_aload_n 8 0 dX12_once_7 rfl rfl rfl ?_
  refine dk_aload_n 9 0 dX12_once_8 rfl rfl rfl ?_
  refine dk_getI 12 dX12_once_9 rfl rfl F_EncoresLaw_House_7 (fun a_9 _ => ?_)
  refine dk_iload_n 13 1 dX12_once_12 rfl rfl rfl ?_
  refine dk_icmp_ne 25 16 dX12_once_13 (by decide) rfl (fun _ => ?_) (fun _ => ?_)
  · refine dk_iconst 26 0 dX12_once_25 rfl rfl ?_
    exact dk_less [some (.ref this), some (.int a1), some (.int a2), some (.ref r_5), none, none, none, none] (And.intro rfl (And.intro rfl (And.intro rfl (And.intro rfl (trivial))))) (dj_X12_once_J26 (SX := SX) N d this a1 a2 r_5 (0 : Int32) this h)
  · refine dk_aload_n 17 0 dX12_once_16 rfl rfl rfl ?_
    refine dk_getI 20 dX12_once_17 rfl rfl F_EncoresLaw_House_53 (fun a_17 _ => ?_)
    refine dk_iconst 21 1 dX12_once_20 rfl rfl ?_
    refine dk_iadd 22 dX12_once_21 rfl ?_
    refine dk_goto 26 dX12_once_22 (by decide) ?_
    exact dk_less [some (.ref this), some (.int a1), some (.int a2), some (.ref r_5), none, none, none, none] (And.intro rfl (And.intro rfl (And.intro rfl (And.intro rfl (trivial))))) (dj_X12_once_J26 (SX := SX) N d this a1 a2 r_5 (a_17 + (1 : Int32)) this h)

theorem dc_X12_once (N d : Nat) (this : Nat) (a1 : Int32) (a2 : Int32) (h : DS) : DCM SX (d + 3) m_X12_once [.ref this, .int a1, .int a2] h (g_X12_once N this a1 a2 h) :=
  DCM.ofDOk km_X12_once (by simp [Value.category]) (Nat.le_of_ble_eq_true rfl) (dg_X12_once N d this a1 a2 h)

