def f_X12_isSo (N : Nat) (a1 : Int32) (m : Mem) : Ans :=
chk (inb ((855 : Int32) + a1) 1707) <|
chk (inb ((839 : Int32) + a1) 1707) <|
if (m 124 ((855 : Int32) + a1).toNatClampNeg) = (m 124 ((839 : Int32) + a1).toNatClampNeg) then (some (1, m))
else (chk (inb ((839 : Int32) + a1) 1707) <|
chk (inb ((855 : Int32) + a1) 1707) <|
bd (f_X12_comesTo N 0 (m 124 ((839 : Int32) + a1).toNatClampNeg) (m 124 ((855 : Int32) + a1).toNatClampNeg) m) fun r_45 m_45 =>
if r_45 = (1 : Int32) then (some (1, m_45))
else (some (0, m_45)))

set_option maxRecDepth 100000 in
set_option maxHeartbeats 4000000 in
theorem ok_X12_isSo (N d : Nat) (a1 : Int32)  (m : Mem) : Ok none SG (d + 2) m_X12_isSo 0 [some (.ref 123), some (.int a1)] [] SG m (f_X12_isSo N a1 m) := by
  unfold f_X12_isSo
  refine ok_aload_n 1 0 dX12_isSo_0 rfl rfl rfl ?_
  refine ok_getR 4 dX12_isSo_1 rfl rfl F_EncoresModel_7 sg_123 rfl (Nat.le_of_ble_eq_true rfl) rfl rfl ?_
  refine ok_sipush 7 855 dX12_isSo_4 rfl rfl ?_
  refine ok_iload_n 8 1 dX12_isSo_7 rfl rfl rfl ?_
  refine ok_iadd 9 dX12_isSo_8 rfl ?_
  refine ok_iald 10 dX12_isSo_9 rfl sg_124 ?_
  refine ok_aload_n 11 0 dX12_isSo_10 rfl rfl rfl ?_
  refine ok_getR 14 dX12_isSo_11 rfl rfl F_EncoresModel_7 sg_123 rfl (Nat.le_of_ble_eq_true rfl) rfl rfl ?_
  refine ok_sipush 17 839 dX12_isSo_14 rfl rfl ?_
  refine ok_iload_n 18 1 dX12_isSo_17 rfl rfl rfl ?_
  refine ok_iadd 19 dX12_isSo_18 rfl ?_
  refine ok_iald 20 dX12_isSo_19 rfl sg_124 ?_
  refine ok_icmp_eq 52 23 dX12_isSo_20 (by decide) rfl (fun _ => ?_) (fun _ => ?_)
  · refine ok_iconst 53 1 dX12_isSo_52 rfl rfl ?_
    refine ok_goto 57 dX12_isSo_53 (by decide) ?_
    exact ok_zretc dX12_isSo_57 rfl rfl
  · refine ok_aload_n 24 0 dX12_isSo_23 rfl rfl rfl ?_
    refine ok_iconst 25 0 dX12_isSo_24 rfl rfl ?_
    refine ok_aload_n 26 0 dX12_isSo_25 rfl rfl rfl ?_
    refine ok_getR 29 dX12_isSo_26 rfl rfl F_EncoresModel_7 sg_123 rfl (Nat.le_of_ble_eq_true rfl) rfl rfl ?_
    refine ok_sipush 32 839 dX12_isSo_29 rfl rfl ?_
    refine ok_iload_n 33 1 dX12_isSo_32 rfl rfl rfl ?_
    refine ok_iadd 34 dX12_isSo_33 rfl ?_
    refine ok_iald 35 dX12_isSo_34 rfl sg_124 ?_
    refine ok_aload_n 36 0 dX12_isSo_35 rfl rfl rfl ?_
    refine ok_getR 39 dX12_isSo_36 rfl rfl F_EncoresModel_7 sg_123 rfl (Nat.le_of_ble_eq_true rfl) rfl rfl ?_
    refine ok_sipush 42 855 dX12_isSo_39 rfl rfl ?_
    refine ok_iload_n 43 1 dX12_isSo_42 rfl rfl rfl ?_
    refine ok_iadd 44 dX12_isSo_43 rfl ?_
    refine ok_iald 45 dX12_isSo_44 rfl sg_124 ?_
    refine ok_callVi (np := 3) (M' := m_X12_comesTo) (As := [.int 0, .int (m 124 ((839 : Int32) + a1).toNatClampNeg), .int (m 124 ((855 : Int32) + a1).toNatClampNeg)]) (st := []) 48 dX12_isSo_45 rfl rfl km_X12_comesTo ki_X12_comesTo kv_X12_comesTo ml_EncoresModel_280 (by decide) sg_123 rfl (Nat.le_of_ble_eq_true rfl) rfl rfl rfl (Nat.le_of_ble_eq_true rfl) (c_X12_comesTo N (d + 0) 0 (m 124 ((839 : Int32) + a1).toNatClampNeg) (m 124 ((855 : Int32) + a1).toNatClampNeg) m) ⟨Nat.le_refl _, Nat.le_refl _⟩ (Or.inl rfl) rfl (fun r_45 m_45 _ => ?_)
    refine ok_iconst 49 1 dX12_isSo_48 rfl rfl ?_
    refine ok_icmp_ne 56 52 dX12_isSo_49 (by decide) rfl (fun _ => ?_) (fun _ => ?_)
    · refine ok_iconst 57 0 dX12_isSo_56 rfl rfl ?_
      exact ok_zretc dX12_isSo_57 rfl rfl
    · refine ok_iconst 53 1 dX12_isSo_52 rfl rfl ?_
      refine ok_goto 57 dX12_isSo_53 (by decide) ?_
      exact ok_zretc dX12_isSo_57 rfl rfl

theorem c_X12_isSo (N d : Nat) (a1 : Int32)  (m : Mem) : CM (d + 2) m_X12_isSo SG SG [.ref 123, .int a1] m (f_X12_isSo N a1 m) :=
  CM.ofOk km_X12_isSo ⟨Nat.le_refl _, Nat.le_refl _⟩ (by simp [Value.category]) (Nat.le_of_ble_eq_true rfl) (ok_X12_isSo N d a1 m)

def f_X12_says_L3 (N : Nat) (a1 : Int32) (a2 : Int32) (a3 : Int32)  (K39 : Int32 → Mem → Ans) (X : Int32 → Mem → Ans) (s4_3 : Int32) (m : Mem) : Ans :=
if (m 124 40) ≤ s4_3 then (bd (f_X12_lesser N a3 a2 m) fun r_84 m_84 =>
bd (f_X12_greater N 0 r_84 m_84) fun r_87 m_87 =>
some (r_87, m_87))
else (chk (inb ((871 : Int32) + s4_3) 1707) <|
if (m 124 ((871 : Int32) + s4_3).toNatClampNeg) = a1 then (bd (f_X12_isSo N s4_3 m) fun r_33 m_33 =>
if r_33 = 0 then (X (s4_3 + 1) m_33)
else (K39 s4_3 m_33))
else (X (s4_3 + 1) m))

def f_X12_says (N : Nat) (a1 : Int32) (a2 : Int32) (a3 : Int32) (m : Mem) : Ans :=
it1 (f_X12_says_L3 N a1 a2 a3 (fun k4_39 mk39 => chk (inb ((823 : Int32) + k4_39) 1707) <|
chk (inb ((839 : Int32) + k4_39) 1707) <|
bd (f_X12_comesTo N 0 (mk39 124 ((823 : Int32) + k4_39).toNatClampNeg) (mk39 124 ((839 : Int32) + k4_39).toNatClampNeg) mk39) fun r_65 m_65 =>
bd (f_X12_lesser N a3 r_65 m_65) fun r_68 m_68 =>
bd (f_X12_greater N 0 r_68 m_68) fun r_71 m_71 =>
some (r_71, m_71))) N 0 m

set_option maxRecDepth 100000 in
set_option maxHeartbeats 4000000 in
theorem ok_X12_says_L3 (N d : Nat) (a1 : Int32) (a2 : Int32) (a3 : Int32)   (K39 : Int32 → Mem → Ans) (hK39 : ∀ (k4 : Int32) (m : Mem), Ok none SG (d + 3) m_X12_says 39 [some (.ref 123), none, none, some (.int a3), some (.int k4)] [] SG m (K39 k4 m)) : ∀ (n : Nat) (s4_3 : Int32) (m : Mem), Ok none SG (d + 3) m_X12_says 3 [some (.ref 123), some (.int a1), some (.int a2), some (.int a3), some (.int s4_3)] [] SG m (it1 (f_X12_says_L3 N a1 a2 a3 K39) n s4_3 m) :=
  ok_it1 (fun s4_3 => [some (.ref 123), some (.int a1), some (.int a2), some (.int a3), some (.int s4_3)]) (fun X hX s4_3 m => by
    try unfold f_X12_says_L3
    refine ok_iload 5 4 dX12_says_3 rfl rfl ?_
    refine ok_aload_n 6 0 dX12_says_5 rfl rfl rfl ?_
    refine ok_getR 9 dX12_says_6 rfl rfl F_EncoresModel_7 sg_123 rfl (Nat.le_of_ble_eq_true rfl) rfl rfl ?_
    refine ok_bipush 11 40 dX12_says_9 rfl rfl ?_
    refine ok_ialdc 12 40 dX12_says_11 rfl sg_124 (by decide) (by decide) ?_
    refine ok_icmp_ge 81 15 dX12_says_12 (by decide) rfl (fun _ => ?_) (fun _ => ?_)
    · refine ok_iconst 82 0 dX12_says_81 rfl rfl ?_
      refine ok_iload_n 83 3 dX12_says_82 rfl rfl rfl ?_
      refine ok_iload_n 84 2 dX12_says_83 rfl rfl rfl ?_
      refine ok_callSi (np := 2) (M' := m_X12_lesser) (As := [.int a3, .int a2]) (st := [.int 0]) 87 dX12_says_84 rfl rfl km_X12_lesser ks_X12_lesser ml_EncoresModel_286 (by decide) rfl rfl (Nat.le_of_ble_eq_true rfl) (c_X12_lesser N (d + 2) a3 a2 m) ⟨Nat.le_refl _, Nat.le_refl _⟩ (Or.inl rfl) rfl (fun r_84 m_84 _ => ?_)
      refine ok_callSi (np := 2) (M' := m_X12_greater) (As := [.int 0, .int r_84]) (st := []) 90 dX12_says_87 rfl rfl km_X12_greater ks_X12_greater ml_EncoresModel_290 (by decide) rfl rfl (Nat.le_of_ble_eq_true rfl) (c_X12_greater N (d + 2) 0 r_84 m_84) ⟨Nat.le_refl _, Nat.le_refl _⟩ (Or.inl rfl) rfl (fun r_87 m_87 _ => ?_)
      exact ok_iret dX12_says_90 rfl
    · refine ok_aload_n 16 0 dX12_says_15 rfl rfl rfl ?_
      refine ok_getR 19 dX12_says_16 rfl rfl F_EncoresModel_7 sg_123 rfl (Nat.le_of_ble_eq_true rfl) rfl rfl ?_
      refine ok_sipush 22 871 dX12_says_19 rfl rfl ?_
      refine ok_iload 24 4 dX12_says_22 rfl rfl ?_
      refine ok_iadd 25 dX12_says_24 rfl ?_
      refine ok_iald 26 dX12_says_25 rfl sg_124 ?_
      refine ok_iload_n 27 1 dX12_says_26 rfl rfl rfl ?_
      refine ok_icmp_ne 75 30 dX12_says_27 (by decide) rfl (fun _ => ?_) (fun _ => ?_)
      · refine ok_iinc 78 4 1 [some (.ref 123), some (.int a1), some (.int a2), some (.int a3), some (.int (s4_3 + 1))] dX12_says_75 rfl rfl rfl (by decide) rfl ?_
        refine ok_goto 3 dX12_says_78 (by decide) ?_
        exact ok_less [some (.ref 123), some (.int a1), some (.int a2), some (.int a3), some (.int (s4_3 + 1))] (And.intro rfl (And.intro rfl (And.intro rfl (And.intro rfl (And.intro rfl (trivial)))))) (hX (s4_3 + 1) m)
      · refine ok_aload_n 31 0 dX12_says_30 rfl rfl rfl ?_
        refine ok_iload 33 4 dX12_says_31 rfl rfl ?_
        refine ok_callVi (np := 1) (M' := m_X12_isSo) (As := [.int s4_3]) (st := []) 36 dX12_says_33 rfl rfl km_X12_isSo ki_X12_isSo kv_X12_isSo ml_EncoresModel_283 (by decide) sg_123 rfl (Nat.le_of_ble_eq_true rfl) rfl rfl rfl (Nat.le_of_ble_eq_true rfl) (c_X12_isSo N (d + 0) s4_3 m) ⟨Nat.le_refl _, Nat.le_refl _⟩ (Or.inl rfl) rfl (fun r_33 m_33 _ => ?_)
        refine ok_if_eq 75 39 dX12_says_36 (by decide) rfl (fun _ => ?_) (fun _ => ?_)
        · refine ok_iinc 78 4 1 [some (.ref 123), some (.int a1), some (.int a2), some (.int a3), some (.int (s4_3 + 1))] dX12_says_75 rfl rfl rfl (by decide) rfl ?_
          refine ok_goto 3 dX12_says_78 (by decide) ?_
          exact ok_less [some (.ref 123), some (.int a1), some (.int a2), some (.int a3), some (.int (s4_3 + 1))] (And.intro rfl (And.intro rfl (And.intro rfl (And.intro rfl (And.intro rfl (trivial)))))) (hX (s4_3 + 1) m_33)
        · exact ok_less [some (.ref 123), none, none, some (.int a3), some (.int s4_3)] (And.intro rfl (And.intro rfl (And.intro rfl (trivial)))) (hK39 s4_3 m_33))

set_option maxRecDepth 100000 in
set_option maxHeartbeats 4000000 in
theorem ok_X12_says (N d : Nat) (a1 : Int32) (a2 : Int32) (a3 : Int32)  (m : Mem) : Ok none SG (d + 3) m_X12_says 0 [some (.ref 123), some (.int a1), some (.int a2), some (.int a3), none] [] SG m (f_X12_says N a1 a2 a3 m) := by
  unfold f_X12_says
  refine ok_iconst 1 0 dX12_says_0 rfl rfl ?_
  refine ok_istore 3 4 [some (.ref 123), some (.int a1), some (.int a2), some (.int a3), some (.int 0)] dX12_says_1 rfl (by decide) rfl ?_
  refine ok_less [some (.ref 123), some (.int a1), some (.int a2), some (.int a3), some (.int 0)] (And.intro rfl (And.intro rfl (And.intro rfl (And.intro rfl (And.intro rfl (trivial)))))) ?_
  exact ok_X12_says_L3 N d a1 a2 a3  _ (fun k4_39 mk39 => by
      refine ok_iconst 40 0 dX12_says_39 rfl rfl ?_
      refine ok_iload_n 41 3 dX12_says_40 rfl rfl rfl ?_
      refine ok_aload_n 42 0 dX12_says_41 rfl rfl rfl ?_
      refine ok_iconst 43 0 dX12_says_42 rfl rfl ?_
      refine ok_aload_n 44 0 dX12_says_43 rfl rfl rfl ?_
      refine ok_getR 47 dX12_says_44 rfl rfl F_EncoresModel_7 sg_123 rfl (Nat.le_of_ble_eq_true rfl) rfl rfl ?_
      refine ok_sipush 50 823 dX12_says_47 rfl rfl ?_
      refine ok_iload 52 4 dX12_says_50 rfl rfl ?_
      refine ok_iadd 53 dX12_says_52 rfl ?_
      refine ok_iald 54 dX12_says_53 rfl sg_124 ?_
      refine ok_aload_n 55 0 dX12_says_54 rfl rfl rfl ?_
      refine ok_getR 58 dX12_says_55 rfl rfl F_EncoresModel_7 sg_123 rfl (Nat.le_of_ble_eq_true rfl) rfl rfl ?_
      refine ok_sipush 61 839 dX12_says_58 rfl rfl ?_
      refine ok_iload 63 4 dX12_says_61 rfl rfl ?_
      refine ok_iadd 64 dX12_says_63 rfl ?_
      refine ok_iald 65 dX12_says_64 rfl sg_124 ?_
      refine ok_callVi (np := 3) (M' := m_X12_comesTo) (As := [.int 0, .int (mk39 124 ((823 : Int32) + k4_39).toNatClampNeg), .int (mk39 124 ((839 : Int32) + k4_39).toNatClampNeg)]) (st := [.int a3, .int 0]) 68 dX12_says_65 rfl rfl km_X12_comesTo ki_X12_comesTo kv_X12_comesTo ml_EncoresModel_280 (by decide) sg_123 rfl (Nat.le_of_ble_eq_true rfl) rfl rfl rfl (Nat.le_of_ble_eq_true rfl) (c_X12_comesTo N (d + 1) 0 (mk39 124 ((823 : Int32) + k4_39).toNatClampNeg) (mk39 124 ((839 : Int32) + k4_39).toNatClampNeg) mk39) ⟨Nat.le_refl _, Nat.le_refl _⟩ (Or.inl rfl) rfl (fun r_65 m_65 _ => ?_)
      refine ok_callSi (np := 2) (M' := m_X12_lesser) (As := [.int a3, .int r_65]) (st := [.int 0]) 71 dX12_says_68 rfl rfl km_X12_lesser ks_X12_lesser ml_EncoresModel_286 (by decide) rfl rfl (Nat.le_of_ble_eq_true rfl) (c_X12_lesser N (d + 2) a3 r_65 m_65) ⟨Nat.le_refl _, Nat.le_refl _⟩ (Or.inl rfl) rfl (fun r_68 m_68 _ => ?_)
      refine ok_callSi (np := 2) (M' := m_X12_greater) (As := [.int 0, .int r_68]) (st := []) 74 dX12_says_71 rfl rfl km_X12_greater ks_X12_greater ml_EncoresModel_290 (by decide) rfl rfl (Nat.le_of_ble_eq_true rfl) (c_X12_greater N (d + 2) 0 r_68 m_68) ⟨Nat.le_refl _, Nat.le_refl _⟩ (Or.inl rfl) rfl (fun r_71 m_71 _ => ?_)
      exact ok_iret dX12_says_74 rfl) N 0 m

theorem c_X12_says (N d : Nat) (a1 : Int32) (a2 : Int32) (a3 : Int32)  (m : Mem) : CM (d + 3) m_X12_says SG SG [.ref 123, .int a1, .int a2, .int a3] m (f_X12_says N a1 a2 a3 m) :=
  CM.ofOk km_X12_says ⟨Nat.le_refl _, Nat.le_refl _⟩ (by simp [Value.category]) (Nat.le_of_ble_eq_true rfl) (ok_X12_says N d a1 a2 a3 m)

def f_X12_laysDeed_L2 (N : Nat) (a1 : Int32)  (K24 : Mem → Ans) (X : Int32 → Mem → Ans) (s2_2 : Int32) (m : Mem) : Ans :=
if (11 : Int32) ≤ s2_2 then (K24 m)
else (chk (inb s2_2 11) <|
bnd (mset m 133 s2_2.toNatClampNeg 0) fun m_17 =>
X (s2_2 + 1) m_17)

def f_X12_laysDeed (N : Nat) (a1 : Int32) (m : Mem) : Ans :=
it1 (f_X12_laysDeed_L2 N a1 (fun mk24 => chk (inb ((81 : Int32) + a1) 1707) <|
bnd (mset mk24 133 6 (mk24 124 ((81 : Int32) + a1).toNatClampNeg)) fun m_39 =>
chk (inb ((21 : Int32) + a1) 1707) <|
bnd (mset m_39 133 7 (m_39 124 ((21 : Int32) + a1).toNatClampNeg)) fun m_55 =>
bnd (mset m_55 133 8 (m_55 124 4)) fun m_68 =>
bnd (mset m_68 133 10 ((m_68 124 0) / (60 : Int32))) fun m_84 =>
some (0, m_84))) N 0 m

set_option maxRecDepth 100000 in
set_option maxHeartbeats 4000000 in
theorem ok_X12_laysDeed_L2 (N d : Nat) (a1 : Int32)   (K24 : Mem → Ans) (hK24 : ∀  (m : Mem), Ok none SG (d + 0) m_X12_laysDeed 24 [some (.ref 123), some (.int a1), none] [] SG m (K24 m)) : ∀ (n : Nat) (s2_2 : Int32) (m : Mem), Ok none SG (d + 0) m_X12_laysDeed 2 [some (.ref 123), some (.int a1), some (.int s2_2)] [] SG m (it1 (f_X12_laysDeed_L2 N a1 K24) n s2_2 m) :=
  ok_it1 (fun s2_2 => [some (.ref 123), some (.int a1), some (.int s2_2)]) (fun X hX s2_2 m => by
    try unfold f_X12_laysDeed_L2
    refine ok_iload_n 3 2 dX12_laysDeed_2 rfl rfl rfl ?_
    refine ok_aload_n 4 0 dX12_laysDeed_3 rfl rfl rfl ?_
    refine ok_getR 7 dX12_laysDeed_4 rfl rfl F_EncoresModel_37 sg_123 rfl (Nat.le_of_ble_eq_true rfl) rfl rfl ?_
    refine ok_alen 8 dX12_laysDeed_7 rfl sg_133 ?_
    rw [show Int32.ofNat 11 = 11 from rfl]
    refine ok_icmp_ge 24 11 dX12_laysDeed_8 (by decide) rfl (fun _ => ?_) (fun _ => ?_)
    · exact ok_less [some (.ref 123), some (.int a1), none] (And.intro rfl (And.intro rfl (trivial))) (hK24 m)
    · refine ok_aload_n 12 0 dX12_laysDeed_11 rfl rfl rfl ?_
      refine ok_getR 15 dX12_laysDeed_12 rfl rfl F_EncoresModel_37 sg_123 rfl (Nat.le_of_ble_eq_true rfl) rfl rfl ?_
      refine ok_iload_n 16 2 dX12_laysDeed_15 rfl rfl rfl ?_
      refine ok_iconst 17 0 dX12_laysDeed_16 rfl rfl ?_
      refine ok_iast 18 dX12_laysDeed_17 rfl sg_133 ?_
      refine ok_bndM (fun m_17 => ?_)
      refine ok_iinc 21 2 1 [some (.ref 123), some (.int a1), some (.int (s2_2 + 1))] dX12_laysDeed_18 rfl rfl rfl (by decide) rfl ?_
      refine ok_goto 2 dX12_laysDeed_21 (by decide) ?_
      exact ok_less [some (.ref 123), some (.int a1), some (.int (s2_2 + 1))] (And.intro rfl (And.intro rfl (And.intro rfl (trivial)))) (hX (s2_2 + 1) m_17))

set_option maxRecDepth 100000 in
set_option maxHeartbeats 4000000 in
theorem ok_X12_laysDeed (N d : Nat) (a1 : Int32)  (m : Mem) : Ok none SG (d + 0) m_X12_laysDeed 0 [some (.ref 123), some (.int a1), none] [] SG m (f_X12_laysDeed N a1 m) := by
  unfold f_X12_laysDeed
  refine ok_iconst 1 0 dX12_laysDeed_0 rfl rfl ?_
  refine ok_istore_n 2 2 [some (.ref 123), some (.int a1), some (.int 0)] dX12_laysDeed_1 rfl rfl (by decide) rfl ?_
  refine ok_less [some (.ref 123), some (.int a1), some (.int 0)] (And.intro rfl (And.intro rfl (And.intro rfl (trivial)))) ?_
  exact ok_X12_laysDeed_L2 N d a1  _ (fun mk24 => by
      refine ok_aload_n 25 0 dX12_laysDeed_24 rfl rfl rfl ?_
      refine ok_getR 28 dX12_laysDeed_25 rfl rfl F_EncoresModel_37 sg_123 rfl (Nat.le_of_ble_eq_true rfl) rfl rfl ?_
      refine ok_bipush 30 6 dX12_laysDeed_28 rfl rfl ?_
      refine ok_aload_n 31 0 dX12_laysDeed_30 rfl rfl rfl ?_
      refine ok_getR 34 dX12_laysDeed_31 rfl rfl F_EncoresModel_7 sg_123 rfl (Nat.le_of_ble_eq_true rfl) rfl rfl ?_
      refine ok_bipush 36 81 dX12_laysDeed_34 rfl rfl ?_
      refine ok_iload_n 37 1 dX12_laysDeed_36 rfl rfl rfl ?_
      refine ok_iadd 38 dX12_laysDeed_37 rfl ?_
      refine ok_iald 39 dX12_laysDeed_38 rfl sg_124 ?_
      refine ok_iastc 40 6 dX12_laysDeed_39 rfl sg_133 (by decide) (by decide) ?_
      refine ok_bndM (fun m_39 => ?_)
      refine ok_aload_n 41 0 dX12_laysDeed_40 rfl rfl rfl ?_
      refine ok_getR 44 dX12_laysDeed_41 rfl rfl F_EncoresModel_37 sg_123 rfl (Nat.le_of_ble_eq_true rfl) rfl rfl ?_
      refine ok_bipush 46 7 dX12_laysDeed_44 rfl rfl ?_
      refine ok_aload_n 47 0 dX12_laysDeed_46 rfl rfl rfl ?_
      refine ok_getR 50 dX12_laysDeed_47 rfl rfl F_EncoresModel_7 sg_123 rfl (Nat.le_of_ble_eq_true rfl) rfl rfl ?_
      refine ok_bipush 52 21 dX12_laysDeed_50 rfl rfl ?_
      refine ok_iload_n 53 1 dX12_laysDeed_52 rfl rfl rfl ?_
      refine ok_iadd 54 dX12_laysDeed_53 rfl ?_
      refine ok_iald 55 dX12_laysDeed_54 rfl sg_124 ?_
      refine ok_iastc 56 7 dX12_laysDeed_55 rfl sg_133 (by decide) (by decide) ?_
      refine ok_bndM (fun m_55 => ?_)
      refine ok_aload_n 57 0 dX12_laysDeed_56 rfl rfl rfl ?_
      refine ok_getR 60 dX12_laysDeed_57 rfl rfl F_EncoresModel_37 sg_123 rfl (Nat.le_of_ble_eq_true rfl) rfl rfl ?_
      refine ok_bipush 62 8 dX12_laysDeed_60 rfl rfl ?_
      refine ok_aload_n 63 0 dX12_laysDeed_62 rfl rfl rfl ?_
      refine ok_getR 66 dX12_laysDeed_63 rfl rfl F_EncoresModel_7 sg_123 rfl (Nat.le_of_ble_eq_true rfl) rfl rfl ?_
      refine ok_iconst 67 4 dX12_laysDeed_66 rfl rfl ?_
      refine ok_ialdc 68 4 dX12_laysDeed_67 rfl sg_124 (by decide) (by decide) ?_
      refine ok_iastc 69 8 dX12_laysDeed_68 rfl sg_133 (by decide) (by decide) ?_
      refine ok_bndM (fun m_68 => ?_)
      refine ok_aload_n 70 0 dX12_laysDeed_69 rfl rfl rfl ?_
      refine ok_getR 73 dX12_laysDeed_70 rfl rfl F_EncoresModel_37 sg_123 rfl (Nat.le_of_ble_eq_true rfl) rfl rfl ?_
      refine ok_bipush 75 10 dX12_laysDeed_73 rfl rfl ?_
      refine ok_aload_n 76 0 dX12_laysDeed_75 rfl rfl rfl ?_
      refine ok_getR 79 dX12_laysDeed_76 rfl rfl F_EncoresModel_7 sg_123 rfl (Nat.le_of_ble_eq_true rfl) rfl rfl ?_
      refine ok_iconst 80 0 dX12_laysDeed_79 rfl rfl ?_
      refine ok_ialdc 81 0 dX12_laysDeed_80 rfl sg_124 (by decide) (by decide) ?_
      refine ok_bipush 83 60 dX12_laysDeed_81 rfl rfl ?_
      refine ok_idivc 84 dX12_laysDeed_83 rfl (by decide) ?_
      refine ok_iastc 85 10 dX12_laysDeed_84 rfl sg_133 (by decide) (by decide) ?_
      refine ok_bndM (fun m_84 => ?_)
      exact ok_vret dX12_laysDeed_85 rfl) N 0 m

theorem c_X12_laysDeed (N d : Nat) (a1 : Int32)  (m : Mem) : CM (d + 0) m_X12_laysDeed SG SG [.ref 123, .int a1] m (f_X12_laysDeed N a1 m) :=
  CM.ofOk km_X12_laysDeed ⟨Nat.le_refl _, Nat.le_refl _⟩ (by simp [Value.category]) (Nat.le_of_ble_eq_true rfl) (ok_X12_laysDeed N d a1 m)

def f_X12_loudOf (N : Nat) (a1 : Int32) (m : Mem) : Ans :=
bd (f_X12_laysDeed N a1 m) fun _ m_2 =>
chk (inb ((81 : Int32) + a1) 1707) <|
bd (f_X12_says N 20 ((m_2 124 ((81 : Int32) + a1).toNatClampNeg) / (3 : Int32)) 99 m_2) fun r_21 m_21 =>
some (r_21, m_21)

set_option maxRecDepth 100000 in
set_option maxHeartbeats 4000000 in
theorem ok_X12_loudOf (N d : Nat) (a1 : Int32)  (m : Mem) : Ok none SG (d + 4) m_X12_loudOf 0 [some (.ref 123), some (.int a1)] [] SG m (f_X12_loudOf N a1 m) := by
  unfold f_X12_loudOf
  refine ok_aload_n 1 0 dX12_loudOf_0 rfl rfl rfl ?_
  refine ok_iload_n 2 1 dX12_loudOf_1 rfl rfl rfl ?_
  refine ok_callVv (np := 1) (M' := m_X12_laysDeed) (As := [.int a1]) (st := []) 5 dX12_loudOf_2 rfl rfl km_X12_laysDeed ki_X12_laysDeed kv_X12_laysDeed ml_EncoresModel_293 (by decide) sg_123 rfl (Nat.le_of_ble_eq_true rfl) rfl rfl rfl (Nat.le_of_ble_eq_true rfl) (c_X12_laysDeed N (d + 3) a1 m) ⟨Nat.le_refl _, Nat.le_refl _⟩ (Or.inl rfl) rfl (fun _ m_2 _ => ?_)
  refine ok_aload_n 6 0 dX12_loudOf_5 rfl rfl rfl ?_
  refine ok_bipush 8 20 dX12_loudOf_6 rfl rfl ?_
  refine ok_aload_n 9 0 dX12_loudOf_8 rfl rfl rfl ?_
  refine ok_getR 12 dX12_loudOf_9 rfl rfl F_EncoresModel_7 sg_123 rfl (Nat.le_of_ble_eq_true rfl) rfl rfl ?_
  refine ok_bipush 14 81 dX12_loudOf_12 rfl rfl ?_
  refine ok_iload_n 15 1 dX12_loudOf_14 rfl rfl rfl ?_
  refine ok_iadd 16 dX12_loudOf_15 rfl ?_
  refine ok_iald 17 dX12_loudOf_16 rfl sg_124 ?_
  refine ok_iconst 18 3 dX12_loudOf_17 rfl rfl ?_
  refine ok_idivc 19 dX12_loudOf_18 rfl (by decide) ?_
  refine ok_bipush 21 99 dX12_loudOf_19 rfl rfl ?_
  refine ok_callVi (np := 3) (M' := m_X12_says) (As := [.int 20, .int ((m_2 124 ((81 : Int32) + a1).toNatClampNeg) / (3 : Int32)), .int 99]) (st := []) 24 dX12_loudOf_21 rfl rfl km_X12_says ki_X12_says kv_X12_says ml_EncoresModel_297 (by decide) sg_123 rfl (Nat.le_of_ble_eq_true rfl) rfl rfl rfl (Nat.le_of_ble_eq_true rfl) (c_X12_says N (d + 0) 20 ((m_2 124 ((81 : Int32) + a1).toNatClampNeg) / (3 : Int32)) 99 m_2) ⟨Nat.le_refl _, Nat.le_refl _⟩ (Or.inl rfl) rfl (fun r_21 m_21 _ => ?_)
  exact ok_iret dX12_loudOf_24 rfl

theorem c_X12_loudOf (N d : Nat) (a1 : Int32)  (m : Mem) : CM (d + 4) m_X12_loudOf SG SG [.ref 123, .int a1] m (f_X12_loudOf N a1 m) :=
  CM.ofOk km_X12_loudOf ⟨Nat.le_refl _, Nat.le_refl _⟩ (by simp [Value.category]) (Nat.le_of_ble_eq_true rfl) (ok_X12_loudOf N d a1 m)

def f_X12_wearsOf (N : Nat) (a1 : Int32) (m : Mem) : Ans :=
bd (f_X12_laysDeed N a1 m) fun _ m_2 =>
bd (f_X12_says N 22 2 99 m_2) fun r_11 m_11 =>
some (r_11, m_11)

set_option maxRecDepth 100000 in
set_option maxHeartbeats 4000000 in
theorem ok_X12_wearsOf (N d : Nat) (a1 : Int32)  (m : Mem) : Ok none SG (d + 4) m_X12_wearsOf 0 [some (.ref 123), some (.int a1)] [] SG m (f_X12_wearsOf N a1 m) := by
  unfold f_X12_wearsOf
  refine ok_aload_n 1 0 dX12_wearsOf_0 rfl rfl rfl ?_
  refine ok_iload_n 2 1 dX12_wearsOf_1 rfl rfl rfl ?_
  refine ok_callVv (np := 1) (M' := m_X12_laysDeed) (As := [.int a1]) (st := []) 5 dX12_wearsOf_2 rfl rfl km_X12_laysDeed ki_X12_laysDeed kv_X12_laysDeed ml_EncoresModel_293 (by decide) sg_123 rfl (Nat.le_of_ble_eq_true rfl) rfl rfl rfl (Nat.le_of_ble_eq_true rfl) (c_X12_laysDeed N (d + 3) a1 m) ⟨Nat.le_refl _, Nat.le_refl _⟩ (Or.inl rfl) rfl (fun _ m_2 _ => ?_)
  refine ok_aload_n 6 0 dX12_wearsOf_5 rfl rfl rfl ?_
  refine ok_bipush 8 22 dX12_wearsOf_6 rfl rfl ?_
  refine ok_iconst 9 2 dX12_wearsOf_8 rfl rfl ?_
  refine ok_bipush 11 99 dX12_wearsOf_9 rfl rfl ?_
  refine ok_callVi (np := 3) (M' := m_X12_says) (As := [.int 22, .int 2, .int 99]) (st := []) 14 dX12_wearsOf_11 rfl rfl km_X12_says ki_X12_says kv_X12_says ml_EncoresModel_297 (by decide) sg_123 rfl (Nat.le_of_ble_eq_true rfl) rfl rfl rfl (Nat.le_of_ble_eq_true rfl) (c_X12_says N (d + 0) 22 2 99 m_2) ⟨Nat.le_refl _, Nat.le_refl _⟩ (Or.inl rfl) rfl (fun r_11 m_11 _ => ?_)
  exact ok_iret dX12_wearsOf_14 rfl

theorem c_X12_wearsOf (N d : Nat) (a1 : Int32)  (m : Mem) : CM (d + 4) m_X12_wearsOf SG SG [.ref 123, .int a1] m (f_X12_wearsOf N a1 m) :=
  CM.ofOk km_X12_wearsOf ⟨Nat.le_refl _, Nat.le_refl _⟩ (by simp [Value.category]) (Nat.le_of_ble_eq_true rfl) (ok_X12_wearsOf N d a1 m)

def f_X12_clapOf (N : Nat) (a1 : Int32) (a2 : Int32) (a3 : Int32) (m : Mem) : Ans :=
bd (f_X12_laysDeed N a2 m) fun _ m_2 =>
bnd (mset m_2 133 1 a1) fun m_11 =>
chk (inb ((45 : Int32) + a1) 1707) <|
bnd (mset m_11 133 2 (m_11 124 ((45 : Int32) + a1).toNatClampNeg)) fun m_26 =>
chk (inb ((57 : Int32) + a1) 1707) <|
bnd (mset m_26 133 3 (m_26 124 ((57 : Int32) + a1).toNatClampNeg)) fun m_41 =>
chk (inb ((69 : Int32) + a1) 1707) <|
bnd (mset m_41 133 4 (m_41 124 ((69 : Int32) + a1).toNatClampNeg)) fun m_56 =>
chk (inb ((9 : Int32) + a1) 1707) <|
bnd (mset m_56 133 5 (m_56 124 ((9 : Int32) + a1).toNatClampNeg)) fun m_71 =>
bnd (mset m_71 133 9 a3) fun m_79 =>
chk (inb ((57 : Int32) + a1) 1707) <|
bd (f_X12_says N 21 ((100 : Int32) * (m_79 124 ((57 : Int32) + a1).toNatClampNeg)) 1000 m_79) fun r_98 m_98 =>
some (r_98, m_98)

set_option maxRecDepth 100000 in
set_option maxHeartbeats 4000000 in
theorem ok_X12_clapOf (N d : Nat) (a1 : Int32) (a2 : Int32) (a3 : Int32)  (m : Mem) : Ok none SG (d + 4) m_X12_clapOf 0 [some (.ref 123), some (.int a1), some (.int a2), some (.int a3)] [] SG m (f_X12_clapOf N a1 a2 a3 m) := by
  unfold f_X12_clapOf
  refine ok_aload_n 1 0 dX12_clapOf_0 rfl rfl rfl ?_
  refine ok_iload_n 2 2 dX12_clapOf_1 rfl rfl rfl ?_
  refine ok_callVv (np := 1) (M' := m_X12_laysDeed) (As := [.int a2]) (st := []) 5 dX12_clapOf_2 rfl rfl km_X12_laysDeed ki_X12_laysDeed kv_X12_laysDeed ml_EncoresModel_293 (by decide) sg_123 rfl (Nat.le_of_ble_eq_true rfl) rfl rfl rfl (Nat.le_of_ble_eq_true rfl) (c_X12_laysDeed N (d + 3) a2 m) ⟨Nat.le_refl _, Nat.le_refl _⟩ (Or.inl rfl) rfl (fun _ m_2 _ => ?_)
  refine ok_aload_n 6 0 dX12_clapOf_5 rfl rfl rfl ?_
  refine ok_getR 9 dX12_clapOf_6 rfl rfl F_EncoresModel_37 sg_123 rfl (Nat.le_of_ble_eq_true rfl) rfl rfl ?_
  refine ok_iconst 10 1 dX12_clapOf_9 rfl rfl ?_
  refine ok_iload_n 11 1 dX12_clapOf_10 rfl rfl rfl ?_
  refine ok_iastc 12 1 dX12_clapOf_11 rfl sg_133 (by decide) (by decide) ?_
  refine ok_bndM (fun m_11 => ?_)
  refine ok_aload_n 13 0 dX12_clapOf_12 rfl rfl rfl ?_
  refine ok_getR 16 dX12_clapOf_13 rfl rfl F_EncoresModel_37 sg_123 rfl (Nat.le_of_ble_eq_true rfl) rfl rfl ?_
  refine ok_iconst 17 2 dX12_clapOf_16 rfl rfl ?_
  refine ok_aload_n 18 0 dX12_clapOf_17 rfl rfl rfl ?_
  refine ok_getR 21 dX12_clapOf_18 rfl rfl F_EncoresModel_7 sg_123 rfl (Nat.le_of_ble_eq_true rfl) rfl rfl ?_
  refine ok_bipush 23 45 dX12_clapOf_21 rfl rfl ?_
  refine ok_iload_n 24 1 dX12_clapOf_23 rfl rfl rfl ?_
  refine ok_iadd 25 dX12_clapOf_24 rfl ?_
  refine ok_iald 26 dX12_clapOf_25 rfl sg_124 ?_
  refine ok_iastc 27 2 dX12_clapOf_26 rfl sg_133 (by decide) (by decide) ?_
  refine ok_bndM (fun m_26 => ?_)
  refine ok_aload_n 28 0 dX12_clapOf_27 rfl rfl rfl ?_
  refine ok_getR 31 dX12_clapOf_28 rfl rfl F_EncoresModel_37 sg_123 rfl (Nat.le_of_ble_eq_true rfl) rfl rfl ?_
  refine ok_iconst 32 3 dX12_clapOf_31 rfl rfl ?_
  refine ok_aload_n 33 0 dX12_clapOf_32 rfl rfl rfl ?_
  refine ok_getR 36 dX12_clapOf_33 rfl rfl F_EncoresModel_7 sg_123 rfl (Nat.le_of_ble_eq_true rfl) rfl rfl ?_
  refine ok_bipush 38 57 dX12_clapOf_36 rfl rfl ?_
  refine ok_iload_n 39 1 dX12_clapOf_38 rfl rfl rfl ?_
  refine ok_iadd 40 dX12_clapOf_39 rfl ?_
  refine ok_iald 41 dX12_clapOf_40 rfl sg_124 ?_
  refine ok_iastc 42 3 dX12_clapOf_41 rfl sg_133 (by decide) (by decide) ?_
  refine ok_bndM (fun m_41 => ?_)
  refine ok_aload_n 43 0 dX12_clapOf_42 rfl rfl rfl ?_
  refine ok_getR 46 dX12_clapOf_43 rfl rfl F_EncoresModel_37 sg_123 rfl (Nat.le_of_ble_eq_true rfl) rfl rfl ?_
  refine ok_iconst 47 4 dX12_clapOf_46 rfl rfl ?_
  refine ok_aload_n 48 0 dX12_clapOf_47 rfl rfl rfl ?_
  refine ok_getR 51 dX12_clapOf_48 rfl rfl F_EncoresModel_7 sg_123 rfl (Nat.le_of_ble_eq_true rfl) rfl rfl ?_
  refine ok_bipush 53 69 dX12_clapOf_51 rfl rfl ?_
  refine ok_iload_n 54 1 dX12_clapOf_53 rfl rfl rfl ?_
  refine ok_iadd 55 dX12_clapOf_54 rfl ?_
  refine ok_iald 56 dX12_clapOf_55 rfl sg_124 ?_
  refine ok_iastc 57 4 dX12_clapOf_56 rfl sg_133 (by decide) (by decide) ?_
  refine ok_bndM (fun m_56 => ?_)
  refine ok_aload_n 58 0 dX12_clapOf_57 rfl rfl rfl ?_
  refine ok_getR 61 dX12_clapOf_58 rfl rfl F_EncoresModel_37 sg_123 rfl (Nat.le_of_ble_eq_true rfl) rfl rfl ?_
  refine ok_iconst 62 5 dX12_clapOf_61 rfl rfl ?_
  refine ok_aload_n 63 0 dX12_clapOf_62 rfl rfl rfl ?_
  refine ok_getR 66 dX12_clapOf_63 rfl rfl F_EncoresModel_7 sg_123 rfl (Nat.le_of_ble_eq_true rfl) rfl rfl ?_
  refine ok_bipush 68 9 dX12_clapOf_66 rfl rfl ?_
  refine ok_iload_n 69 1 dX12_clapOf_68 rfl rfl rfl ?_
  refine ok_iadd 70 dX12_clapOf_69 rfl ?_
  refine ok_iald 71 dX12_clapOf_70 rfl sg_124 ?_
  refine ok_iastc 72 5 dX12_clapOf_71 rfl sg_133 (by decide) (by decide) ?_
  refine ok_bndM (fun m_71 => ?_)
  refine ok_aload_n 73 0 dX12_clapOf_72 rfl rfl rfl ?_
  refine ok_getR 76 dX12_clapOf_73 rfl rfl F_EncoresModel_37 sg_123 rfl (Nat.le_of_ble_eq_true rfl) rfl rfl ?_
  refine ok_bipush 78 9 dX12_clapOf_76 rfl rfl ?_
  refine ok_iload_n 79 3 dX12_clapOf_78 rfl rfl rfl ?_
  refine ok_iastc 80 9 dX12_clapOf_79 rfl sg_133 (by decide) (by decide) ?_
  refine ok_bndM (fun m_79 => ?_)
  refine ok_aload_n 81 0 dX12_clapOf_80 rfl rfl rfl ?_
  refine ok_bipush 83 21 dX12_clapOf_81 rfl rfl ?_
  refine ok_bipush 85 100 dX12_clapOf_83 rfl rfl ?_
  refine ok_aload_n 86 0 dX12_clapOf_85 rfl rfl rfl ?_
  refine ok_getR 89 dX12_clapOf_86 rfl rfl F_EncoresModel_7 sg_123 rfl (Nat.le_of_ble_eq_true rfl) rfl rfl ?_
  refine ok_bipush 91 57 dX12_clapOf_89 rfl rfl ?_
  refine ok_iload_n 92 1 dX12_clapOf_91 rfl rfl rfl ?_
  refine ok_iadd 93 dX12_clapOf_92 rfl ?_
  refine ok_iald 94 dX12_clapOf_93 rfl sg_124 ?_
  refine ok_imul 95 dX12_clapOf_94 rfl ?_
  refine ok_sipush 98 1000 dX12_clapOf_95 rfl rfl ?_
  refine ok_callVi (np := 3) (M' := m_X12_says) (As := [.int 21, .int ((100 : Int32) * (m_79 124 ((57 : Int32) + a1).toNatClampNeg)), .int 1000]) (st := []) 101 dX12_clapOf_98 rfl rfl km_X12_says ki_X12_says kv_X12_says ml_EncoresModel_297 (by decide) sg_123 rfl (Nat.le_of_ble_eq_true rfl) rfl rfl rfl (Nat.le_of_ble_eq_true rfl) (c_X12_says N (d + 0) 21 ((100 : Int32) * (m_79 124 ((57 : Int32) + a1).toNatClampNeg)) 1000 m_79) ⟨Nat.le_refl _, Nat.le_refl _⟩ (Or.inl rfl) rfl (fun r_98 m_98 _ => ?_)
  exact ok_iret dX12_clapOf_101 rfl

theorem c_X12_clapOf (N d : Nat) (a1 : Int32) (a2 : Int32) (a3 : Int32)  (m : Mem) : CM (d + 4) m_X12_clapOf SG SG [.ref 123, .int a1, .int a2, .int a3] m (f_X12_clapOf N a1 a2 a3 m) :=
  CM.ofOk km_X12_clapOf ⟨Nat.le_refl _, Nat.le_refl _⟩ (by simp [Value.category]) (Nat.le_of_ble_eq_true rfl) (ok_X12_clapOf N d a1 a2 a3 m)

def f_X12_handsAsked_L4 (N : Nat)    (X : Int32 → Int32 → Mem → Ans) (s1_4 : Int32) (s2_4 : Int32) (m : Mem) : Ans :=
if (m 124 41) ≤ s2_4 then (if s1_4 = (-1 : Int32) then (some (5, m))
else (chk (inb (s1_4 + (1 : Int32)) 1707) <|
some (m 124 (s1_4 + (1 : Int32)).toNatClampNeg, m)))
else (bnd ((105 : Int32) + ((3 : Int32) * s2_4)) fun a3_21 =>
chk (inb a3_21 1707) <|
if (m 124 a3_21.toNatClampNeg) = (7 : Int32) then (chk (inb (a3_21 + (2 : Int32)) 1707) <|
if (m 124 1) < (m 124 (a3_21 + (2 : Int32)).toNatClampNeg) then (X s1_4 (s2_4 + 1) m)
else (if s1_4 = (-1 : Int32) then (X a3_21 (s2_4 + 1) m)
else (chk (inb (a3_21 + (2 : Int32)) 1707) <|
chk (inb (s1_4 + (2 : Int32)) 1707) <|
if (m 124 (a3_21 + (2 : Int32)).toNatClampNeg) < (m 124 (s1_4 + (2 : Int32)).toNatClampNeg) then (X s1_4 (s2_4 + 1) m)
else (X a3_21 (s2_4 + 1) m))))
else (X s1_4 (s2_4 + 1) m))

def f_X12_handsAsked (N : Nat)  (m : Mem) : Ans :=
it2 (f_X12_handsAsked_L4 N ) N (-1) 0 m

set_option maxRecDepth 100000 in
set_option maxHeartbeats 4000000 in
theorem ok_X12_handsAsked_L4 (N d : Nat)     : ∀ (n : Nat) (s1_4 : Int32) (s2_4 : Int32) (m : Mem), Ok none SG (d + 0) m_X12_handsAsked 4 [some (.ref 123), some (.int s1_4), some (.int s2_4), none] [] SG m (it2 (f_X12_handsAsked_L4 N) n s1_4 s2_4 m) :=
  ok_it2 (fun s1_4 s2_4 => [some (.ref 123), some (.int s1_4), some (.int s2_4), none]) (fun X hX s1_4 s2_4 m => by
    try unfold f_X12_handsAsked_L4
    refine ok_iload_n 5 2 dX12_handsAsked_4 rfl rfl rfl ?_
    refine ok_aload_n 6 0 dX12_handsAsked_5 rfl rfl rfl ?_
    refine ok_getR 9 dX12_handsAsked_6 rfl rfl F_EncoresModel_7 sg_123 rfl (Nat.le_of_ble_eq_true rfl) rfl rfl ?_
    refine ok_bipush 11 41 dX12_handsAsked_9 rfl rfl ?_
    refine ok_ialdc 12 41 dX12_handsAsked_11 rfl sg_124 (by decide) (by decide) ?_
    refine ok_icmp_ge 82 15 dX12_handsAsked_12 (by decide) rfl (fun _ => ?_) (fun _ => ?_)
    · refine ok_iload_n 83 1 dX12_handsAsked_82 rfl rfl rfl ?_
      refine ok_iconst 84 (-1) dX12_handsAsked_83 rfl rfl ?_
      refine ok_icmp_ne 91 87 dX12_handsAsked_84 (by decide) rfl (fun _ => ?_) (fun _ => ?_)
      · refine ok_aload_n 92 0 dX12_handsAsked_91 rfl rfl rfl ?_
        refine ok_getR 95 dX12_handsAsked_92 rfl rfl F_EncoresModel_7 sg_123 rfl (Nat.le_of_ble_eq_true rfl) rfl rfl ?_
        refine ok_iload_n 96 1 dX12_handsAsked_95 rfl rfl rfl ?_
        refine ok_iconst 97 1 dX12_handsAsked_96 rfl rfl ?_
        refine ok_iadd 98 dX12_handsAsked_97 rfl ?_
        refine ok_iald 99 dX12_handsAsked_98 rfl sg_124 ?_
        exact ok_iret dX12_handsAsked_99 rfl
      · refine ok_iconst 88 5 dX12_handsAsked_87 rfl rfl ?_
        refine ok_goto 99 dX12_handsAsked_88 (by decide) ?_
        exact ok_iret dX12_handsAsked_99 rfl
    · refine ok_bipush 17 105 dX12_handsAsked_15 rfl rfl ?_
      refine ok_iconst 18 3 dX12_handsAsked_17 rfl rfl ?_
      refine ok_iload_n 19 2 dX12_handsAsked_18 rfl rfl rfl ?_
      refine ok_imul 20 dX12_handsAsked_19 rfl ?_
      refine ok_iadd 21 dX12_handsAsked_20 rfl ?_
      refine ok_bndI (fun a3_21 => ?_)
      refine ok_istore_n 22 3 [some (.ref 123), some (.int s1_4), some (.int s2_4), some (.int a3_21)] dX12_handsAsked_21 rfl rfl (by decide) rfl ?_
      refine ok_aload_n 23 0 dX12_handsAsked_22 rfl rfl rfl ?_
      refine ok_getR 26 dX12_handsAsked_23 rfl rfl F_EncoresModel_7 sg_123 rfl (Nat.le_of_ble_eq_true rfl) rfl rfl ?_
      refine ok_iload_n 27 3 dX12_handsAsked_26 rfl rfl rfl ?_
      refine ok_iald 28 dX12_handsAsked_27 rfl sg_124 ?_
      refine ok_bipush 30 7 dX12_handsAsked_28 rfl rfl ?_
      refine ok_icmp_ne 76 33 dX12_handsAsked_30 (by decide) rfl (fun _ => ?_) (fun _ => ?_)
      · refine ok_iinc 79 2 1 [some (.ref 123), some (.int s1_4), some (.int (s2_4 + 1)), some (.int a3_21)] dX12_handsAsked_76 rfl rfl rfl (by decide) rfl ?_
        refine ok_goto 4 dX12_handsAsked_79 (by decide) ?_
        exact ok_less [some (.ref 123), some (.int s1_4), some (.int (s2_4 + 1)), none] (And.intro rfl (And.intro rfl (And.intro rfl (trivial)))) (hX s1_4 (s2_4 + 1) m)
      · refine ok_aload_n 34 0 dX12_handsAsked_33 rfl rfl rfl ?_
        refine ok_getR 37 dX12_handsAsked_34 rfl rfl F_EncoresModel_7 sg_123 rfl (Nat.le_of_ble_eq_true rfl) rfl rfl ?_
        refine ok_iload_n 38 3 dX12_handsAsked_37 rfl rfl rfl ?_
        refine ok_iconst 39 2 dX12_handsAsked_38 rfl rfl ?_
        refine ok_iadd 40 dX12_handsAsked_39 rfl ?_
        refine ok_iald 41 dX12_handsAsked_40 rfl sg_124 ?_
        refine ok_aload_n 42 0 dX12_handsAsked_41 rfl rfl rfl ?_
        refine ok_getR 45 dX12_handsAsked_42 rfl rfl F_EncoresModel_7 sg_123 rfl (Nat.le_of_ble_eq_true rfl) rfl rfl ?_
        refine ok_iconst 46 1 dX12_handsAsked_45 rfl rfl ?_
        refine ok_ialdc 47 1 dX12_handsAsked_46 rfl sg_124 (by decide) (by decide) ?_
        refine ok_icmp_gt 76 50 dX12_handsAsked_47 (by decide) rfl (fun _ => ?_) (fun _ => ?_)
        · refine ok_iinc 79 2 1 [some (.ref 123), some (.int s1_4), some (.int (s2_4 + 1)), some (.int a3_21)] dX12_handsAsked_76 rfl rfl rfl (by decide) rfl ?_
          refine ok_goto 4 dX12_handsAsked_79 (by decide) ?_
          exact ok_less [some (.ref 123), some (.int s1_4), some (.int (s2_4 + 1)), none] (And.intro rfl (And.intro rfl (And.intro rfl (trivial)))) (hX s1_4 (s2_4 + 1) m)
        · refine ok_iload_n 51 1 dX12_handsAsked_50 rfl rfl rfl ?_
          refine ok_iconst 52 (-1) dX12_handsAsked_51 rfl rfl ?_
          refine ok_icmp_eq 74 55 dX12_handsAsked_52 (by decide) rfl (fun _ => ?_) (fun _ => ?_)
          · refine ok_iload_n 75 3 dX12_handsAsked_74 rfl rfl rfl ?_
            refine ok_istore_n 76 1 [some (.ref 123), some (.int a3_21), some (.int s2_4), some (.int a3_21)] dX12_handsAsked_75 rfl rfl (by decide) rfl ?_
            refine ok_iinc 79 2 1 [some (.ref 123), some (.int a3_21), some (.int (s2_4 + 1)), some (.int a3_21)] dX12_handsAsked_76 rfl rfl rfl (by decide) rfl ?_
            refine ok_goto 4 dX12_handsAsked_79 (by decide) ?_
            exact ok_less [some (.ref 123), some (.int a3_21), some (.int (s2_4 + 1)), none] (And.intro rfl (And.intro rfl (And.intro rfl (trivial)))) (hX a3_21 (s2_4 + 1) m)
          · refine ok_aload_n 56 0 dX12_handsAsked_55 rfl rfl rfl ?_
            refine ok_getR 59 dX12_handsAsked_56 rfl rfl F_EncoresModel_7 sg_123 rfl (Nat.le_of_ble_eq_true rfl) rfl rfl ?_
            refine ok_iload_n 60 3 dX12_handsAsked_59 rfl rfl rfl ?_
            refine ok_iconst 61 2 dX12_handsAsked_60 rfl rfl ?_
            refine ok_iadd 62 dX12_handsAsked_61 rfl ?_
            refine ok_iald 63 dX12_handsAsked_62 rfl sg_124 ?_
            refine ok_aload_n 64 0 dX12_handsAsked_63 rfl rfl rfl ?_
            refine ok_getR 67 dX12_handsAsked_64 rfl rfl F_EncoresModel_7 sg_123 rfl (Nat.le_of_ble_eq_true rfl) rfl rfl ?_
            refine ok_iload_n 68 1 dX12_handsAsked_67 rfl rfl rfl ?_
            refine ok_iconst 69 2 dX12_handsAsked_68 rfl rfl ?_
            refine ok_iadd 70 dX12_handsAsked_69 rfl ?_
            refine ok_iald 71 dX12_handsAsked_70 rfl sg_124 ?_
            refine ok_icmp_lt 76 74 dX12_handsAsked_71 (by decide) rfl (fun _ => ?_) (fun _ => ?_)
            · refine ok_iinc 79 2 1 [some (.ref 123), some (.int s1_4), some (.int (s2_4 + 1)), some (.int a3_21)] dX12_handsAsked_76 rfl rfl rfl (by decide) rfl ?_
              refine ok_goto 4 dX12_handsAsked_79 (by decide) ?_
              exact ok_less [some (.ref 123), some (.int s1_4), some (.int (s2_4 + 1)), none] (And.intro rfl (And.intro rfl (And.intro rfl (trivial)))) (hX s1_4 (s2_4 + 1) m)
            · refine ok_iload_n 75 3 dX12_handsAsked_74 rfl rfl rfl ?_
              refine ok_istore_n 76 1 [some (.ref 123), some (.int a3_21), some (.int s2_4), some (.int a3_21)] dX12_handsAsked_75 rfl rfl (by decide) rfl ?_
              refine ok_iinc 79 2 1 [some (.ref 123), some (.int a3_21), some (.int (s2_4 + 1)), some (.int a3_21)] dX12_handsAsked_76 rfl rfl rfl (by decide) rfl ?_
              refine ok_goto 4 dX12_handsAsked_79 (by decide) ?_
              exact ok_less [some (.ref 123), some (.int a3_21), some (.int (s2_4 + 1)), none] (And.intro rfl (And.intro rfl (And.intro rfl (trivial)))) (hX a3_21 (s2_4 + 1) m))

set_option maxRecDepth 100000 in
set_option maxHeartbeats 4000000 in
theorem ok_X12_handsAsked (N d : Nat)   (m : Mem) : Ok none SG (d + 0) m_X12_handsAsked 0 [some (.ref 123), none, none, none] [] SG m (f_X12_handsAsked N m) := by
  unfold f_X12_handsAsked
  refine ok_iconst 1 (-1) dX12_handsAsked_0 rfl rfl ?_
  refine ok_istore_n 2 1 [some (.ref 123), some (.int (-1)), none, none] dX12_handsAsked_1 rfl rfl (by decide) rfl ?_
  refine ok_iconst 3 0 dX12_handsAsked_2 rfl rfl ?_
  refine ok_istore_n 4 2 [some (.ref 123), some (.int (-1)), some (.int 0), none] dX12_handsAsked_3 rfl rfl (by decide) rfl ?_
  refine ok_less [some (.ref 123), some (.int (-1)), some (.int 0), none] (And.intro rfl (And.intro rfl (And.intro rfl (trivial)))) ?_
  exact ok_X12_handsAsked_L4 N d     N (-1) 0 m

theorem c_X12_handsAsked (N d : Nat)   (m : Mem) : CM (d + 0) m_X12_handsAsked SG SG [.ref 123] m (f_X12_handsAsked N m) :=
  CM.ofOk km_X12_handsAsked ⟨Nat.le_refl _, Nat.le_refl _⟩ (by simp [Value.category]) (Nat.le_of_ble_eq_true rfl) (ok_X12_handsAsked N d  m)

def f_X12_lastRule_L5 (N : Nat) (a1 : Int32) (a2 : Int32)   (X : Int32 → Int32 → Mem → Ans) (s3_5 : Int32) (s4_5 : Int32) (m : Mem) : Ans :=
if (m 124 41) ≤ s4_5 then (some (s3_5, m))
else (chk (inb ((105 : Int32) + ((3 : Int32) * s4_5)) 1707) <|
if (m 124 ((105 : Int32) + ((3 : Int32) * s4_5)).toNatClampNeg) = a1 then (chk (inb (((105 : Int32) + ((3 : Int32) * s4_5)) + (1 : Int32)) 1707) <|
bnd (m 124 (((105 : Int32) + ((3 : Int32) * s4_5)) + (1 : Int32)).toNatClampNeg) fun a3_51 =>
X a3_51 (s4_5 + 1) m)
else (X s3_5 (s4_5 + 1) m))

def f_X12_lastRule (N : Nat) (a1 : Int32) (a2 : Int32) (m : Mem) : Ans :=
it2 (f_X12_lastRule_L5 N a1 a2 ) N a2 0 m

set_option maxRecDepth 100000 in
set_option maxHeartbeats 4000000 in
theorem ok_X12_lastRule_L5 (N d : Nat) (a1 : Int32) (a2 : Int32)    : ∀ (n : Nat) (s3_5 : Int32) (s4_5 : Int32) (m : Mem), Ok none SG (d + 0) m_X12_lastRule 5 [some (.ref 123), some (.int a1), none, some (.int s3_5), some (.int s4_5)] [] SG m (it2 (f_X12_lastRule_L5 N a1 a2) n s3_5 s4_5 m) :=
  ok_it2 (fun s3_5 s4_5 => [some (.ref 123), some (.int a1), none, some (.int s3_5), some (.int s4_5)]) (fun X hX s3_5 s4_5 m => by
    try unfold f_X12_lastRule_L5
    refine ok_iload 7 4 dX12_lastRule_5 rfl rfl ?_
    refine ok_aload_n 8 0 dX12_lastRule_7 rfl rfl rfl ?_
    refine ok_getR 11 dX12_lastRule_8 rfl rfl F_EncoresModel_7 sg_123 rfl (Nat.le_of_ble_eq_true rfl) rfl rfl ?_
    refine ok_bipush 13 41 dX12_lastRule_11 rfl rfl ?_
    refine ok_ialdc 14 41 dX12_lastRule_13 rfl sg_124 (by decide) (by decide) ?_
    refine ok_icmp_ge 58 17 dX12_lastRule_14 (by decide) rfl (fun _ => ?_) (fun _ => ?_)
    · refine ok_iload_n 59 3 dX12_lastRule_58 rfl rfl rfl ?_
      exact ok_iret dX12_lastRule_59 rfl
    · refine ok_aload_n 18 0 dX12_lastRule_17 rfl rfl rfl ?_
      refine ok_getR 21 dX12_lastRule_18 rfl rfl F_EncoresModel_7 sg_123 rfl (Nat.le_of_ble_eq_true rfl) rfl rfl ?_
      refine ok_bipush 23 105 dX12_lastRule_21 rfl rfl ?_
      refine ok_iconst 24 3 dX12_lastRule_23 rfl rfl ?_
      refine ok_iload 26 4 dX12_lastRule_24 rfl rfl ?_
      refine ok_imul 27 dX12_lastRule_26 rfl ?_
      refine ok_iadd 28 dX12_lastRule_27 rfl ?_
      refine ok_iald 29 dX12_lastRule_28 rfl sg_124 ?_
      refine ok_iload_n 30 1 dX12_lastRule_29 rfl rfl rfl ?_
      refine ok_icmp_ne 50 33 dX12_lastRule_30 (by decide) rfl (fun _ => ?_) (fun _ => ?_)
      · refine ok_iload_n 51 3 dX12_lastRule_50 rfl rfl rfl ?_
        refine ok_istore_n 52 3 [some (.ref 123), some (.int a1), none, some (.int s3_5), some (.int s4_5)] dX12_lastRule_51 rfl rfl (by decide) rfl ?_
        refine ok_iinc 55 4 1 [some (.ref 123), some (.int a1), none, some (.int s3_5), some (.int (s4_5 + 1))] dX12_lastRule_52 rfl rfl rfl (by decide) rfl ?_
        refine ok_goto 5 dX12_lastRule_55 (by decide) ?_
        exact ok_less [some (.ref 123), some (.int a1), none, some (.int s3_5), some (.int (s4_5 + 1))] (And.intro rfl (And.intro rfl (And.intro rfl (And.intro rfl (trivial))))) (hX s3_5 (s4_5 + 1) m)
      · refine ok_aload_n 34 0 dX12_lastRule_33 rfl rfl rfl ?_
        refine ok_getR 37 dX12_lastRule_34 rfl rfl F_EncoresModel_7 sg_123 rfl (Nat.le_of_ble_eq_true rfl) rfl rfl ?_
        refine ok_bipush 39 105 dX12_lastRule_37 rfl rfl ?_
        refine ok_iconst 40 3 dX12_lastRule_39 rfl rfl ?_
        refine ok_iload 42 4 dX12_lastRule_40 rfl rfl ?_
        refine ok_imul 43 dX12_lastRule_42 rfl ?_
        refine ok_iadd 44 dX12_lastRule_43 rfl ?_
        refine ok_iconst 45 1 dX12_lastRule_44 rfl rfl ?_
        refine ok_iadd 46 dX12_lastRule_45 rfl ?_
        refine ok_iald 47 dX12_lastRule_46 rfl sg_124 ?_
        refine ok_goto 51 dX12_lastRule_47 (by decide) ?_
        refine ok_bndI (fun a3_51 => ?_)
        refine ok_istore_n 52 3 [some (.ref 123), some (.int a1), none, some (.int a3_51), some (.int s4_5)] dX12_lastRule_51 rfl rfl (by decide) rfl ?_
        refine ok_iinc 55 4 1 [some (.ref 123), some (.int a1), none, some (.int a3_51), some (.int (s4_5 + 1))] dX12_lastRule_52 rfl rfl rfl (by decide) rfl ?_
        refine ok_goto 5 dX12_lastRule_55 (by decide) ?_
        exact ok_less [some (.ref 123), some (.int a1), none, some (.int a3_51), some (.int (s4_5 + 1))] (And.intro rfl (And.intro rfl (And.intro rfl (And.intro rfl (trivial))))) (hX a3_51 (s4_5 + 1) m))

set_option maxRecDepth 100000 in
set_option maxHeartbeats 4000000 in
theorem ok_X12_lastRule (N d : Nat) (a1 : Int32) (a2 : Int32)  (m : Mem) : Ok none SG (d + 0) m_X12_lastRule 0 [some (.ref 123), some (.int a1), some (.int a2), none, none] [] SG m (f_X12_lastRule N a1 a2 m) := by
  unfold f_X12_lastRule
  refine ok_iload_n 1 2 dX12_lastRule_0 rfl rfl rfl ?_
  refine ok_istore_n 2 3 [some (.ref 123), some (.int a1), some (.int a2), some (.int a2), none] dX12_lastRule_1 rfl rfl (by decide) rfl ?_
  refine ok_iconst 3 0 dX12_lastRule_2 rfl rfl ?_
  refine ok_istore 5 4 [some (.ref 123), some (.int a1), some (.int a2), some (.int a2), some (.int 0)] dX12_lastRule_3 rfl (by decide) rfl ?_
  refine ok_less [some (.ref 123), some (.int a1), none, some (.int a2), some (.int 0)] (And.intro rfl (And.intro rfl (And.intro rfl (And.intro rfl (trivial))))) ?_
  exact ok_X12_lastRule_L5 N d a1 a2    N a2 0 m

theorem c_X12_lastRule (N d : Nat) (a1 : Int32) (a2 : Int32)  (m : Mem) : CM (d + 0) m_X12_lastRule SG SG [.ref 123, .int a1, .int a2] m (f_X12_lastRule N a1 a2 m) :=
  CM.ofOk km_X12_lastRule ⟨Nat.le_refl _, Nat.le_refl _⟩ (by simp [Value.category]) (Nat.le_of_ble_eq_true rfl) (ok_X12_lastRule N d a1 a2 m)

def f_X12_mostAgains (N : Nat)  (m : Mem) : Ans :=
bd (f_X12_lastRule N 8 9 m) fun r_5 m_5 =>
some (r_5, m_5)

set_option maxRecDepth 100000 in
set_option maxHeartbeats 4000000 in
theorem ok_X12_mostAgains (N d : Nat)   (m : Mem) : Ok none SG (d + 1) m_X12_mostAgains 0 [some (.ref 123)] [] SG m (f_X12_mostAgains N m) := by
  unfold f_X12_mostAgains
  refine ok_aload_n 1 0 dX12_mostAgains_0 rfl rfl rfl ?_
  refine ok_bipush 3 8 dX12_mostAgains_1 rfl rfl ?_
  refine ok_bipush 5 9 dX12_mostAgains_3 rfl rfl ?_
  refine ok_callVi (np := 2) (M' := m_X12_lastRule) (As := [.int 8, .int 9]) (st := []) 8 dX12_mostAgains_5 rfl rfl km_X12_lastRule ki_X12_lastRule kv_X12_lastRule ml_EncoresModel_300 (by decide) sg_123 rfl (Nat.le_of_ble_eq_true rfl) rfl rfl rfl (Nat.le_of_ble_eq_true rfl) (c_X12_lastRule N (d + 0) 8 9 m) ⟨Nat.le_refl _, Nat.le_refl _⟩ (Or.inl rfl) rfl (fun r_5 m_5 _ => ?_)
  exact ok_iret dX12_mostAgains_8 rfl

theorem c_X12_mostAgains (N d : Nat)   (m : Mem) : CM (d + 1) m_X12_mostAgains SG SG [.ref 123] m (f_X12_mostAgains N m) :=
  CM.ofOk km_X12_mostAgains ⟨Nat.le_refl _, Nat.le_refl _⟩ (by simp [Value.category]) (Nat.le_of_ble_eq_true rfl) (ok_X12_mostAgains N d  m)

def f_X12_endsAt (N : Nat)  (m : Mem) : Ans :=
bd (f_X12_lastRule N 10 300 m) fun r_6 m_6 =>
some (r_6, m_6)

set_option maxRecDepth 100000 in
set_option maxHeartbeats 4000000 in
theorem ok_X12_endsAt (N d : Nat)   (m : Mem) : Ok none SG (d + 1) m_X12_endsAt 0 [some (.ref 123)] [] SG m (f_X12_endsAt N m) := by
  unfold f_X12_endsAt
  refine ok_aload_n 1 0 dX12_endsAt_0 rfl rfl rfl ?_
  refine ok_bipush 3 10 dX12_endsAt_1 rfl rfl ?_
  refine ok_sipush 6 300 dX12_endsAt_3 rfl rfl ?_
  refine ok_callVi (np := 2) (M' := m_X12_lastRule) (As := [.int 10, .int 300]) (st := []) 9 dX12_endsAt_6 rfl rfl km_X12_lastRule ki_X12_lastRule kv_X12_lastRule ml_EncoresModel_300 (by decide) sg_123 rfl (Nat.le_of_ble_eq_true rfl) rfl rfl rfl (Nat.le_of_ble_eq_true rfl) (c_X12_lastRule N (d + 0) 10 300 m) ⟨Nat.le_refl _, Nat.le_refl _⟩ (Or.inl rfl) rfl (fun r_6 m_6 _ => ?_)
  exact ok_iret dX12_endsAt_9 rfl

theorem c_X12_endsAt (N d : Nat)   (m : Mem) : CM (d + 1) m_X12_endsAt SG SG [.ref 123] m (f_X12_endsAt N m) :=
  CM.ofOk km_X12_endsAt ⟨Nat.le_refl _, Nat.le_refl _⟩ (by simp [Value.category]) (Nat.le_of_ble_eq_true rfl) (ok_X12_endsAt N d  m)

def f_X12_countsAs_L2 (N : Nat) (a1 : Int32)   (X : Int32 → Mem → Ans) (s2_2 : Int32) (m : Mem) : Ans :=
if (m 124 41) ≤ s2_2 then (some (1, m))
else (chk (inb ((105 : Int32) + ((3 : Int32) * s2_2)) 1707) <|
if (m 124 ((105 : Int32) + ((3 : Int32) * s2_2)).toNatClampNeg) = (9 : Int32) then (chk (inb (((105 : Int32) + ((3 : Int32) * s2_2)) + (1 : Int32)) 1707) <|
if (m 124 (((105 : Int32) + ((3 : Int32) * s2_2)) + (1 : Int32)).toNatClampNeg) = a1 then (some (2, m))
else (X (s2_2 + 1) m))
else (X (s2_2 + 1) m))

def f_X12_countsAs (N : Nat) (a1 : Int32) (m : Mem) : Ans :=
it1 (f_X12_countsAs_L2 N a1 ) N 0 m

set_option maxRecDepth 100000 in
set_option maxHeartbeats 4000000 in
theorem ok_X12_countsAs_L2 (N d : Nat) (a1 : Int32)    : ∀ (n : Nat) (s2_2 : Int32) (m : Mem), Ok none SG (d + 0) m_X12_countsAs 2 [some (.ref 123), some (.int a1), some (.int s2_2)] [] SG m (it1 (f_X12_countsAs_L2 N a1) n s2_2 m) :=
  ok_it1 (fun s2_2 => [some (.ref 123), some (.int a1), some (.int s2_2)]) (fun X hX s2_2 m => by
    try unfold f_X12_countsAs_L2
    refine ok_iload_n 3 2 dX12_countsAs_2 rfl rfl rfl ?_
    refine ok_aload_n 4 0 dX12_countsAs_3 rfl rfl rfl ?_
    refine ok_getR 7 dX12_countsAs_4 rfl rfl F_EncoresModel_7 sg_123 rfl (Nat.le_of_ble_eq_true rfl) rfl rfl ?_
    refine ok_bipush 9 41 dX12_countsAs_7 rfl rfl ?_
    refine ok_ialdc 10 41 dX12_countsAs_9 rfl sg_124 (by decide) (by decide) ?_
    refine ok_icmp_ge 54 13 dX12_countsAs_10 (by decide) rfl (fun _ => ?_) (fun _ => ?_)
    · refine ok_iconst 55 1 dX12_countsAs_54 rfl rfl ?_
      exact ok_iret dX12_countsAs_55 rfl
    · refine ok_aload_n 14 0 dX12_countsAs_13 rfl rfl rfl ?_
      refine ok_getR 17 dX12_countsAs_14 rfl rfl F_EncoresModel_7 sg_123 rfl (Nat.le_of_ble_eq_true rfl) rfl rfl ?_
      refine ok_bipush 19 105 dX12_countsAs_17 rfl rfl ?_
      refine ok_iconst 20 3 dX12_countsAs_19 rfl rfl ?_
      refine ok_iload_n 21 2 dX12_countsAs_20 rfl rfl rfl ?_
      refine ok_imul 22 dX12_countsAs_21 rfl ?_
      refine ok_iadd 23 dX12_countsAs_22 rfl ?_
      refine ok_iald 24 dX12_countsAs_23 rfl sg_124 ?_
      refine ok_bipush 26 9 dX12_countsAs_24 rfl rfl ?_
      refine ok_icmp_ne 48 29 dX12_countsAs_26 (by decide) rfl (fun _ => ?_) (fun _ => ?_)
      · refine ok_iinc 51 2 1 [some (.ref 123), some (.int a1), some (.int (s2_2 + 1))] dX12_countsAs_48 rfl rfl rfl (by decide) rfl ?_
        refine ok_goto 2 dX12_countsAs_51 (by decide) ?_
        exact ok_less [some (.ref 123), some (.int a1), some (.int (s2_2 + 1))] (And.intro rfl (And.intro rfl (And.intro rfl (trivial)))) (hX (s2_2 + 1) m)
      · refine ok_aload_n 30 0 dX12_countsAs_29 rfl rfl rfl ?_
        refine ok_getR 33 dX12_countsAs_30 rfl rfl F_EncoresModel_7 sg_123 rfl (Nat.le_of_ble_eq_true rfl) rfl rfl ?_
        refine ok_bipush 35 105 dX12_countsAs_33 rfl rfl ?_
        refine ok_iconst 36 3 dX12_countsAs_35 rfl rfl ?_
        refine ok_iload_n 37 2 dX12_countsAs_36 rfl rfl rfl ?_
        refine ok_imul 38 dX12_countsAs_37 rfl ?_
        refine ok_iadd 39 dX12_countsAs_38 rfl ?_
        refine ok_iconst 40 1 dX12_countsAs_39 rfl rfl ?_
        refine ok_iadd 41 dX12_countsAs_40 rfl ?_
        refine ok_iald 42 dX12_countsAs_41 rfl sg_124 ?_
        refine ok_iload_n 43 1 dX12_countsAs_42 rfl rfl rfl ?_
        refine ok_icmp_ne 48 46 dX12_countsAs_43 (by decide) rfl (fun _ => ?_) (fun _ => ?_)
        · refine ok_iinc 51 2 1 [some (.ref 123), some (.int a1), some (.int (s2_2 + 1))] dX12_countsAs_48 rfl rfl rfl (by decide) rfl ?_
          refine ok_goto 2 dX12_countsAs_51 (by decide) ?_
          exact ok_less [some (.ref 123), some (.int a1), some (.int (s2_2 + 1))] (And.intro rfl (And.intro rfl (And.intro rfl (trivial)))) (hX (s2_2 + 1) m)
        · refine ok_iconst 47 2 dX12_countsAs_46 rfl rfl ?_
          exact ok_iret dX12_countsAs_47 rfl)

set_option maxRecDepth 100000 in
set_option maxHeartbeats 4000000 in
theorem ok_X12_countsAs (N d : Nat) (a1 : Int32)  (m : Mem) : Ok none SG (d + 0) m_X12_countsAs 0 [some (.ref 123), some (.int a1), none] [] SG m (f_X12_countsAs N a1 m) := by
  unfold f_X12_countsAs
  refine ok_iconst 1 0 dX12_countsAs_0 rfl rfl ?_
  refine ok_istore_n 2 2 [some (.ref 123), some (.int a1), some (.int 0)] dX12_countsAs_1 rfl rfl (by decide) rfl ?_
  refine ok_less [some (.ref 123), some (.int a1), some (.int 0)] (And.intro rfl (And.intro rfl (And.intro rfl (trivial)))) ?_
  exact ok_X12_countsAs_L2 N d a1    N 0 m

theorem c_X12_countsAs (N d : Nat) (a1 : Int32)  (m : Mem) : CM (d + 0) m_X12_countsAs SG SG [.ref 123, .int a1] m (f_X12_countsAs N a1 m) :=
  CM.ofOk km_X12_countsAs ⟨Nat.le_refl _, Nat.le_refl _⟩ (by simp [Value.category]) (Nat.le_of_ble_eq_true rfl) (ok_X12_countsAs N d a1 m)

def f_X12_keeps_L51 (N : Nat)    (X : Int32 → Mem → Ans) (s1_51 : Int32) (m : Mem) : Ans :=
if (37 : Int32) ≤ s1_51 then (bnd (mset m 123 4 ((m 123 4) + (1 : Int32))) fun m_90 =>
bnd (mset m_90 123 26 1) fun m_95 =>
some (0, m_95))
else (chk (inb s1_51 1707) <|
chk (inb (((37 : Int32) * (m 123 4)) + s1_51) 222) <|
bnd (mset m 126 (((37 : Int32) * (m 123 4)) + s1_51).toNatClampNeg (m 124 s1_51.toNatClampNeg)) fun m_76 =>
X (s1_51 + 1) m_76)

def f_X12_keeps_J49 (N : Nat)     (m : Mem) : Ans :=
it1 (f_X12_keeps_L51 N ) N 0 m

def f_X12_keeps_L11 (N : Nat)   (K39 : Mem → Ans) (X : Int32 → Mem → Ans) (s1_11 : Int32) (m : Mem) : Ans :=
if (185 : Int32) ≤ s1_11 then (K39 m)
else (chk (inb (s1_11 + (37 : Int32)) 222) <|
chk (inb s1_11 222) <|
bnd (mset m 126 s1_11.toNatClampNeg (m 126 (s1_11 + (37 : Int32)).toNatClampNeg)) fun m_32 =>
X (s1_11 + 1) m_32)

def f_X12_keeps (N : Nat)  (m : Mem) : Ans :=
if (m 123 4) = (6 : Int32) then (it1 (f_X12_keeps_L11 N (fun mk39 => bnd (mset mk39 123 4 ((mk39 123 4) - (1 : Int32))) fun m_46 =>
f_X12_keeps_J49 N m_46)) N 0 m)
else (f_X12_keeps_J49 N m)

set_option maxRecDepth 100000 in
set_option maxHeartbeats 4000000 in
theorem ok_X12_keeps_L51 (N d : Nat)     : ∀ (n : Nat) (s1_51 : Int32) (m : Mem), Ok none SG (d + 0) m_X12_keeps 51 [some (.ref 123), some (.int s1_51)] [] SG m (it1 (f_X12_keeps_L51 N) n s1_51 m) :=
  ok_it1 (fun s1_51 => [some (.ref 123), some (.int s1_51)]) (fun X hX s1_51 m => by
    try unfold f_X12_keeps_L51
    refine ok_iload_n 52 1 dX12_keeps_51 rfl rfl rfl ?_
    refine ok_bipush 54 37 dX12_keeps_52 rfl rfl ?_
    refine ok_icmp_ge 83 57 dX12_keeps_54 (by decide) rfl (fun _ => ?_) (fun _ => ?_)
    · refine ok_aload_n 84 0 dX12_keeps_83 rfl rfl rfl ?_
      refine ok_dup 85 dX12_keeps_84 rfl rfl ?_
      refine ok_getI 88 dX12_keeps_85 rfl rfl F_EncoresModel_60 sg_123 rfl (Nat.le_of_ble_eq_true rfl) rfl ?_
      refine ok_iconst 89 1 dX12_keeps_88 rfl rfl ?_
      refine ok_iadd 90 dX12_keeps_89 rfl ?_
      refine ok_putI 93 dX12_keeps_90 rfl rfl F_EncoresModel_60 sg_123 rfl (Nat.le_of_ble_eq_true rfl) rfl rfl pZ_12_4 rfl rfl ?_
      refine ok_bndM (fun m_90 => ?_)
      refine ok_aload_n 94 0 dX12_keeps_93 rfl rfl rfl ?_
      refine ok_iconst 95 1 dX12_keeps_94 rfl rfl ?_
      refine ok_putZc 98 dX12_keeps_95 rfl rfl F_EncoresModel_303 sg_123 rfl (Nat.le_of_ble_eq_true rfl) rfl rfl pZ_12_26 rfl ?_
      refine ok_bndM (fun m_95 => ?_)
      exact ok_vret dX12_keeps_98 rfl
    · refine ok_aload_n 58 0 dX12_keeps_57 rfl rfl rfl ?_
      refine ok_getR 61 dX12_keeps_58 rfl rfl F_EncoresModel_16 sg_123 rfl (Nat.le_of_ble_eq_true rfl) rfl rfl ?_
      refine ok_bipush 63 37 dX12_keeps_61 rfl rfl ?_
      refine ok_aload_n 64 0 dX12_keeps_63 rfl rfl rfl ?_
      refine ok_getI 67 dX12_keeps_64 rfl rfl F_EncoresModel_60 sg_123 rfl (Nat.le_of_ble_eq_true rfl) rfl ?_
      refine ok_imul 68 dX12_keeps_67 rfl ?_
      refine ok_iload_n 69 1 dX12_keeps_68 rfl rfl rfl ?_
      refine ok_iadd 70 dX12_keeps_69 rfl ?_
      refine ok_aload_n 71 0 dX12_keeps_70 rfl rfl rfl ?_
      refine ok_getR 74 dX12_keeps_71 rfl rfl F_EncoresModel_7 sg_123 rfl (Nat.le_of_ble_eq_true rfl) rfl rfl ?_
      refine ok_iload_n 75 1 dX12_keeps_74 rfl rfl rfl ?_
      refine ok_iald 76 dX12_keeps_75 rfl sg_124 ?_
      refine ok_iast 77 dX12_keeps_76 rfl sg_126 ?_
      refine ok_bndM (fun m_76 => ?_)
      refine ok_iinc 80 1 1 [some (.ref 123), some (.int (s1_51 + 1))] dX12_keeps_77 rfl rfl rfl (by decide) rfl ?_
      refine ok_goto 51 dX12_keeps_80 (by decide) ?_
      exact ok_less [some (.ref 123), some (.int (s1_51 + 1))] (And.intro rfl (And.intro rfl (trivial))) (hX (s1_51 + 1) m_76))

set_option maxRecDepth 100000 in
set_option maxHeartbeats 4000000 in
theorem ok_X12_keeps_J49 (N d : Nat)      (m : Mem) : Ok none SG (d + 0) m_X12_keeps 49 [some (.ref 123), none] [] SG m (f_X12_keeps_J49 N m) := by
  unfold f_X12_keeps_J49
  refine ok_iconst 50 0 dX12_keeps_49 rfl rfl ?_
  refine ok_istore_n 51 1 [some (.ref 123), some (.int 0)] dX12_keeps_50 rfl rfl (by decide) rfl ?_
  refine ok_less [some (.ref 123), some (.int 0)] (And.intro rfl (And.intro rfl (trivial))) ?_
  exact ok_X12_keeps_L51 N d     N 0 m

set_option maxRecDepth 100000 in
set_option maxHeartbeats 4000000 in
theorem ok_X12_keeps_L11 (N d : Nat)    (K39 : Mem → Ans) (hK39 : ∀  (m : Mem), Ok none SG (d + 0) m_X12_keeps 39 [some (.ref 123), none] [] SG m (K39 m)) : ∀ (n : Nat) (s1_11 : Int32) (m : Mem), Ok none SG (d + 0) m_X12_keeps 11 [some (.ref 123), some (.int s1_11)] [] SG m (it1 (f_X12_keeps_L11 N K39) n s1_11 m) :=
  ok_it1 (fun s1_11 => [some (.ref 123), some (.int s1_11)]) (fun X hX s1_11 m => by
    try unfold f_X12_keeps_L11
    refine ok_iload_n 12 1 dX12_keeps_11 rfl rfl rfl ?_
    refine ok_sipush 15 185 dX12_keeps_12 rfl rfl ?_
    refine ok_icmp_ge 39 18 dX12_keeps_15 (by decide) rfl (fun _ => ?_) (fun _ => ?_)
    · exact ok_less [some (.ref 123), none] (And.intro rfl (trivial)) (hK39 m)
    · refine ok_aload_n 19 0 dX12_keeps_18 rfl rfl rfl ?_
      refine ok_getR 22 dX12_keeps_19 rfl rfl F_EncoresModel_16 sg_123 rfl (Nat.le_of_ble_eq_true rfl) rfl rfl ?_
      refine ok_iload_n 23 1 dX12_keeps_22 rfl rfl rfl ?_
      refine ok_aload_n 24 0 dX12_keeps_23 rfl rfl rfl ?_
      refine ok_getR 27 dX12_keeps_24 rfl rfl F_EncoresModel_16 sg_123 rfl (Nat.le_of_ble_eq_true rfl) rfl rfl ?_
      refine ok_iload_n 28 1 dX12_keeps_27 rfl rfl rfl ?_
      refine ok_bipush 30 37 dX12_keeps_28 rfl rfl ?_
      refine ok_iadd 31 dX12_keeps_30 rfl ?_
      refine ok_iald 32 dX12_keeps_31 rfl sg_126 ?_
      refine ok_iast 33 dX12_keeps_32 rfl sg_126 ?_
      refine ok_bndM (fun m_32 => ?_)
      refine ok_iinc 36 1 1 [some (.ref 123), some (.int (s1_11 + 1))] dX12_keeps_33 rfl rfl rfl (by decide) rfl ?_
      refine ok_goto 11 dX12_keeps_36 (by decide) ?_
      exact ok_less [some (.ref 123), some (.int (s1_11 + 1))] (And.intro rfl (And.intro rfl (trivial))) (hX (s1_11 + 1) m_32))

set_option maxRecDepth 100000 in
set_option maxHeartbeats 4000000 in
theorem ok_X12_keeps (N d : Nat)   (m : Mem) : Ok none SG (d + 0) m_X12_keeps 0 [some (.ref 123), none] [] SG m (f_X12_keeps N m) := by
  unfold f_X12_keeps
  refine ok_aload_n 1 0 dX12_keeps_0 rfl rfl rfl ?_
  refine ok_getI 4 dX12_keeps_1 rfl rfl F_EncoresModel_60 sg_123 rfl (Nat.le_of_ble_eq_true rfl) rfl ?_
  refine ok_bipush 6 6 dX12_keeps_4 rfl rfl ?_
  refine ok_icmp_ne 49 9 dX12_keeps_6 (by decide) rfl (fun _ => ?_) (fun _ => ?_)
  · exact ok_less [some (.ref 123), none] (And.intro rfl (trivial)) (ok_X12_keeps_J49 N d    m)
  · refine ok_iconst 10 0 dX12_keeps_9 rfl rfl ?_
    refine ok_istore_n 11 1 [some (.ref 123), some (.int 0)] dX12_keeps_10 rfl rfl (by decide) rfl ?_
    refine ok_less [some (.ref 123), some (.int 0)] (And.intro rfl (And.intro rfl (trivial))) ?_
    exact ok_X12_keeps_L11 N d   _ (fun mk39 => by
        refine ok_aload_n 40 0 dX12_keeps_39 rfl rfl rfl ?_
        refine ok_dup 41 dX12_keeps_40 rfl rfl ?_
        refine ok_getI 44 dX12_keeps_41 rfl rfl F_EncoresModel_60 sg_123 rfl (Nat.le_of_ble_eq_true rfl) rfl ?_
        refine ok_iconst 45 1 dX12_keeps_44 rfl rfl ?_
        refine ok_isub 46 dX12_keeps_45 rfl ?_
        refine ok_putI 49 dX12_keeps_46 rfl rfl F_EncoresModel_60 sg_123 rfl (Nat.le_of_ble_eq_true rfl) rfl rfl pZ_12_4 rfl rfl ?_
        refine ok_bndM (fun m_46 => ?_)
        exact ok_less [some (.ref 123), none] (And.intro rfl (trivial)) (ok_X12_keeps_J49 N d    m_46)) N 0 m

theorem c_X12_keeps (N d : Nat)   (m : Mem) : CM (d + 0) m_X12_keeps SG SG [.ref 123] m (f_X12_keeps N m) :=
  CM.ofOk km_X12_keeps ⟨Nat.le_refl _, Nat.le_refl _⟩ (by simp [Value.category]) (Nat.le_of_ble_eq_true rfl) (ok_X12_keeps N d  m)

def f_X12_undo_L21 (N : Nat)    (X : Int32 → Mem → Ans) (s1_21 : Int32) (m : Mem) : Ans :=
if (37 : Int32) ≤ s1_21 then (some (1, m))
else (chk (inb (((37 : Int32) * (m 123 4)) + s1_21) 222) <|
chk (inb s1_21 1707) <|
bnd (mset m 124 s1_21.toNatClampNeg (m 126 (((37 : Int32) * (m 123 4)) + s1_21).toNatClampNeg)) fun m_46 =>
X (s1_21 + 1) m_46)

def f_X12_undo (N : Nat)  (m : Mem) : Ans :=
if (m 123 4) = 0 then (some (0, m))
else (bnd (mset m 123 4 ((m 123 4) - (1 : Int32))) fun m_16 =>
it1 (f_X12_undo_L21 N ) N 0 m_16)

set_option maxRecDepth 100000 in
set_option maxHeartbeats 4000000 in
theorem ok_X12_undo_L21 (N d : Nat)     : ∀ (n : Nat) (s1_21 : Int32) (m : Mem), Ok none SG (d + 0) m_X12_undo 21 [some (.ref 123), some (.int s1_21)] [] SG m (it1 (f_X12_undo_L21 N) n s1_21 m) :=
  ok_it1 (fun s1_21 => [some (.ref 123), some (.int s1_21)]) (fun X hX s1_21 m => by
    try unfold f_X12_undo_L21
    refine ok_iload_n 22 1 dX12_undo_21 rfl rfl rfl ?_
    refine ok_bipush 24 37 dX12_undo_22 rfl rfl ?_
    refine ok_icmp_ge 53 27 dX12_undo_24 (by decide) rfl (fun _ => ?_) (fun _ => ?_)
    · refine ok_iconst 54 1 dX12_undo_53 rfl rfl ?_
      exact ok_zretc dX12_undo_54 rfl rfl
    · refine ok_aload_n 28 0 dX12_undo_27 rfl rfl rfl ?_
      refine ok_getR 31 dX12_undo_28 rfl rfl F_EncoresModel_7 sg_123 rfl (Nat.le_of_ble_eq_true rfl) rfl rfl ?_
      refine ok_iload_n 32 1 dX12_undo_31 rfl rfl rfl ?_
      refine ok_aload_n 33 0 dX12_undo_32 rfl rfl rfl ?_
      refine ok_getR 36 dX12_undo_33 rfl rfl F_EncoresModel_16 sg_123 rfl (Nat.le_of_ble_eq_true rfl) rfl rfl ?_
      refine ok_bipush 38 37 dX12_undo_36 rfl rfl ?_
      refine ok_aload_n 39 0 dX12_undo_38 rfl rfl rfl ?_
      refine ok_getI 42 dX12_undo_39 rfl rfl F_EncoresModel_60 sg_123 rfl (Nat.le_of_ble_eq_true rfl) rfl ?_
      refine ok_imul 43 dX12_undo_42 rfl ?_
      refine ok_iload_n 44 1 dX12_undo_43 rfl rfl rfl ?_
      refine ok_iadd 45 dX12_undo_44 rfl ?_
      refine ok_iald 46 dX12_undo_45 rfl sg_126 ?_
      refine ok_iast 47 dX12_undo_46 rfl sg_124 ?_
      refine ok_bndM (fun m_46 => ?_)
      refine ok_iinc 50 1 1 [some (.ref 123), some (.int (s1_21 + 1))] dX12_undo_47 rfl rfl rfl (by decide) rfl ?_
      refine ok_goto 21 dX12_undo_50 (by decide) ?_
      exact ok_less [some (.ref 123), some (.int (s1_21 + 1))] (And.intro rfl (And.intro rfl (trivial))) (hX (s1_21 + 1) m_46))

set_option maxRecDepth 100000 in
set_option maxHeartbeats 4000000 in
theorem ok_X12_undo (N d : Nat)   (m : Mem) : Ok none SG (d + 0) m_X12_undo 0 [some (.ref 123), none] [] SG m (f_X12_undo N m) := by
  unfold f_X12_undo
  refine ok_aload_n 1 0 dX12_undo_0 rfl rfl rfl ?_
  refine ok_getI 4 dX12_undo_1 rfl rfl F_EncoresModel_60 sg_123 rfl (Nat.le_of_ble_eq_true rfl) rfl ?_
  refine ok_if_ne 9 7 dX12_undo_4 (by decide) rfl (fun _ => ?_) (fun _ => ?_)
  · refine ok_aload_n 10 0 dX12_undo_9 rfl rfl rfl ?_
    refine ok_dup 11 dX12_undo_10 rfl rfl ?_
    refine ok_getI 14 dX12_undo_11 rfl rfl F_EncoresModel_60 sg_123 rfl (Nat.le_of_ble_eq_true rfl) rfl ?_
    refine ok_iconst 15 1 dX12_undo_14 rfl rfl ?_
    refine ok_isub 16 dX12_undo_15 rfl ?_
    refine ok_putI 19 dX12_undo_16 rfl rfl F_EncoresModel_60 sg_123 rfl (Nat.le_of_ble_eq_true rfl) rfl rfl pZ_12_4 rfl rfl ?_
    refine ok_bndM (fun m_16 => ?_)
    refine ok_iconst 20 0 dX12_undo_19 rfl rfl ?_
    refine ok_istore_n 21 1 [some (.ref 123), some (.int 0)] dX12_undo_20 rfl rfl (by decide) rfl ?_
    refine ok_less [some (.ref 123), some (.int 0)] (And.intro rfl (And.intro rfl (trivial))) ?_
    exact ok_X12_undo_L21 N d     N 0 m_16
  · refine ok_iconst 8 0 dX12_undo_7 rfl rfl ?_
    exact ok_zretc dX12_undo_8 rfl rfl

theorem c_X12_undo (N d : Nat)   (m : Mem) : CM (d + 0) m_X12_undo SG SG [.ref 123] m (f_X12_undo N m) :=
  CM.ofOk km_X12_undo ⟨Nat.le_refl _, Nat.le_refl _⟩ (by simp [Value.category]) (Nat.le_of_ble_eq_true rfl) (ok_X12_undo N d  m)

def f_X12_notes (N : Nat) (a1 : Int32) (a2 : Int32) (a3 : Int32) (m : Mem) : Ans :=
if (m 123 26) = 0 then (some (0, m))
else (if (m 124 6) = (150 : Int32) then (some (0, m))
else (bnd ((223 : Int32) + ((4 : Int32) * (m 124 6))) fun a4_34 =>
chk (inb a4_34 1707) <|
bnd (mset m 124 a4_34.toNatClampNeg (m 124 1)) fun m_48 =>
chk (inb (a4_34 + (1 : Int32)) 1707) <|
bnd (mset m_48 124 (a4_34 + (1 : Int32)).toNatClampNeg a1) fun m_58 =>
chk (inb (a4_34 + (2 : Int32)) 1707) <|
bnd (mset m_58 124 (a4_34 + (2 : Int32)).toNatClampNeg a2) fun m_68 =>
chk (inb (a4_34 + (3 : Int32)) 1707) <|
bnd (mset m_68 124 (a4_34 + (3 : Int32)).toNatClampNeg a3) fun m_78 =>
bnd (mset m_78 124 6 ((m_78 124 6) + (1 : Int32))) fun m_89 =>
some (0, m_89)))

set_option maxRecDepth 100000 in
set_option maxHeartbeats 4000000 in
theorem ok_X12_notes (N d : Nat) (a1 : Int32) (a2 : Int32) (a3 : Int32)  (m : Mem) : Ok none SG (d + 0) m_X12_notes 0 [some (.ref 123), some (.int a1), some (.int a2), some (.int a3), none] [] SG m (f_X12_notes N a1 a2 a3 m) := by
  unfold f_X12_notes
  refine ok_aload_n 1 0 dX12_notes_0 rfl rfl rfl ?_
  refine ok_getI 4 dX12_notes_1 rfl rfl F_EncoresModel_303 sg_123 rfl (Nat.le_of_ble_eq_true rfl) rfl ?_
  refine ok_if_eq 20 7 dX12_notes_4 (by decide) rfl (fun _ => ?_) (fun _ => ?_)
  · exact ok_vret dX12_notes_20 rfl
  · refine ok_aload_n 8 0 dX12_notes_7 rfl rfl rfl ?_
    refine ok_getR 11 dX12_notes_8 rfl rfl F_EncoresModel_7 sg_123 rfl (Nat.le_of_ble_eq_true rfl) rfl rfl ?_
    refine ok_bipush 13 6 dX12_notes_11 rfl rfl ?_
    refine ok_ialdc 14 6 dX12_notes_13 rfl sg_124 (by decide) (by decide) ?_
    refine ok_sipush 17 150 dX12_notes_14 rfl rfl ?_
    refine ok_icmp_ne 21 20 dX12_notes_17 (by decide) rfl (fun _ => ?_) (fun _ => ?_)
    · refine ok_sipush 24 223 dX12_notes_21 rfl rfl ?_
      refine ok_iconst 25 4 dX12_notes_24 rfl rfl ?_
      refine ok_aload_n 26 0 dX12_notes_25 rfl rfl rfl ?_
      refine ok_getR 29 dX12_notes_26 rfl rfl F_EncoresModel_7 sg_123 rfl (Nat.le_of_ble_eq_true rfl) rfl rfl ?_
      refine ok_bipush 31 6 dX12_notes_29 rfl rfl ?_
      refine ok_ialdc 32 6 dX12_notes_31 rfl sg_124 (by decide) (by decide) ?_
      refine ok_imul 33 dX12_notes_32 rfl ?_
      refine ok_iadd 34 dX12_notes_33 rfl ?_
      refine ok_bndI (fun a4_34 => ?_)
      refine ok_istore 36 4 [some (.ref 123), some (.int a1), some (.int a2), some (.int a3), some (.int a4_34)] dX12_notes_34 rfl (by decide) rfl ?_
      refine ok_aload_n 37 0 dX12_notes_36 rfl rfl rfl ?_
      refine ok_getR 40 dX12_notes_37 rfl rfl F_EncoresModel_7 sg_123 rfl (Nat.le_of_ble_eq_true rfl) rfl rfl ?_
      refine ok_iload 42 4 dX12_notes_40 rfl rfl ?_
      refine ok_aload_n 43 0 dX12_notes_42 rfl rfl rfl ?_
      refine ok_getR 46 dX12_notes_43 rfl rfl F_EncoresModel_7 sg_123 rfl (Nat.le_of_ble_eq_true rfl) rfl rfl ?_
      refine ok_iconst 47 1 dX12_notes_46 rfl rfl ?_
      refine ok_ialdc 48 1 dX12_notes_47 rfl sg_124 (by decide) (by decide) ?_
      refine ok_iast 49 dX12_notes_48 rfl sg_124 ?_
      refine ok_bndM (fun m_48 => ?_)
      refine ok_aload_n 50 0 dX12_notes_49 rfl rfl rfl ?_
      refine ok_getR 53 dX12_notes_50 rfl rfl F_EncoresModel_7 sg_123 rfl (Nat.le_of_ble_eq_true rfl) rfl rfl ?_
      refine ok_iload 55 4 dX12_notes_53 rfl rfl ?_
      refine ok_iconst 56 1 dX12_notes_55 rfl rfl ?_
      refine ok_iadd 57 dX12_notes_56 rfl ?_
      refine ok_iload_n 58 1 dX12_notes_57 rfl rfl rfl ?_
      refine ok_iast 59 dX12_notes_58 rfl sg_124 ?_
      refine ok_bndM (fun m_58 => ?_)
      refine ok_aload_n 60 0 dX12_notes_59 rfl rfl rfl ?_
      refine ok_getR 63 dX12_notes_60 rfl rfl F_EncoresModel_7 sg_123 rfl (Nat.le_of_ble_eq_true rfl) rfl rfl ?_
      refine ok_iload 65 4 dX12_notes_63 rfl rfl ?_
      refine ok_iconst 66 2 dX12_notes_65 rfl rfl ?_
      refine ok_iadd 67 dX12_notes_66 rfl ?_
      refine ok_iload_n 68 2 dX12_notes_67 rfl rfl rfl ?_
      refine ok_iast 69 dX12_notes_68 rfl sg_124 ?_
      refine ok_bndM (fun m_68 => ?_)
      refine ok_aload_n 70 0 dX12_notes_69 rfl rfl rfl ?_
      refine ok_getR 73 dX12_notes_70 rfl rfl F_EncoresModel_7 sg_123 rfl (Nat.le_of_ble_eq_true rfl) rfl rfl ?_
      refine ok_iload 75 4 dX12_notes_73 rfl rfl ?_
      refine ok_iconst 76 3 dX12_notes_75 rfl rfl ?_
      refine ok_iadd 77 dX12_notes_76 rfl ?_
      refine ok_iload_n 78 3 dX12_notes_77 rfl rfl rfl ?_
      refine ok_iast 79 dX12_notes_78 rfl sg_124 ?_
      refine ok_bndM (fun m_78 => ?_)
      refine ok_aload_n 80 0 dX12_notes_79 rfl rfl rfl ?_
      refine ok_getR 83 dX12_notes_80 rfl rfl F_EncoresModel_7 sg_123 rfl (Nat.le_of_ble_eq_true rfl) rfl rfl ?_
      refine ok_bipush 85 6 dX12_notes_83 rfl rfl ?_
      refine ok_dup2 86 dX12_notes_85 rfl rfl rfl ?_
      refine ok_ialdc 87 6 dX12_notes_86 rfl sg_124 (by decide) (by decide) ?_
      refine ok_iconst 88 1 dX12_notes_87 rfl rfl ?_
      refine ok_iadd 89 dX12_notes_88 rfl ?_
      refine ok_iastc 90 6 dX12_notes_89 rfl sg_124 (by decide) (by decide) ?_
      refine ok_bndM (fun m_89 => ?_)
      exact ok_vret dX12_notes_90 rfl
    · exact ok_vret dX12_notes_20 rfl

theorem c_X12_notes (N d : Nat) (a1 : Int32) (a2 : Int32) (a3 : Int32)  (m : Mem) : CM (d + 0) m_X12_notes SG SG [.ref 123, .int a1, .int a2, .int a3] m (f_X12_notes N a1 a2 a3 m) :=
  CM.ofOk km_X12_notes ⟨Nat.le_refl _, Nat.le_refl _⟩ (by simp [Value.category]) (Nat.le_of_ble_eq_true rfl) (ok_X12_notes N d a1 a2 a3 m)

def f_X12_begins0_J27 (N : Nat) (a1 : Int32)   (t0_27 : Int32) (t1_27 : Int32) (m : Mem) : Ans :=
chk (inb t1_27 1707) <|
bnd (mset m 124 t1_27.toNatClampNeg t0_27) fun m_27 =>
bnd (mset m_27 124 3 a1) fun m_34 =>
bd (f_X12_wearsOf N a1 m_34) fun r_37 m_37 =>
chk (inb ((89 : Int32) + a1) 1707) <|
bnd (mset m_37 124 0 ((m_37 124 0) + (m_37 124 ((89 : Int32) + a1).toNatClampNeg))) fun m_58 =>
chk (inb ((97 : Int32) + a1) 1707) <|
bnd (mset m_58 124 2 ((m_58 124 2) - (m_58 124 ((97 : Int32) + a1).toNatClampNeg))) fun m_76 =>
chk (inb ((29 : Int32) + a1) 1707) <|
chk (inb ((29 : Int32) + a1) 1707) <|
bnd (mset m_76 124 ((29 : Int32) + a1).toNatClampNeg ((m_76 124 ((29 : Int32) + a1).toNatClampNeg) + (1 : Int32))) fun m_89 =>
chk (inb ((21 : Int32) + a1) 1707) <|
bd (f_X12_lesser N 99 ((m_89 124 ((21 : Int32) + a1).toNatClampNeg) + r_37) m_89) fun r_111 m_111 =>
chk (inb ((21 : Int32) + a1) 1707) <|
bnd (mset m_111 124 ((21 : Int32) + a1).toNatClampNeg r_111) fun m_114 =>
some (0, m_114)

def f_X12_begins0 (N : Nat) (a1 : Int32) (m : Mem) : Ans :=
if (m 124 3) = a1 then (f_X12_begins0_J27 N a1 ((m 124 4) + (1 : Int32)) 4 m)
else (f_X12_begins0_J27 N a1 0 4 m)

set_option maxRecDepth 100000 in
set_option maxHeartbeats 4000000 in
theorem ok_X12_begins0_J27 (N d : Nat) (a1 : Int32)    (t0_27 : Int32) (t1_27 : Int32) (m : Mem) : Ok none SG (d + 5) m_X12_begins0 27 [some (.ref 123), some (.int a1), none] [.int t0_27, .int t1_27, .ref 124] SG m (f_X12_begins0_J27 N a1 t0_27 t1_27 m) := by
  unfold f_X12_begins0_J27
  refine ok_iast 28 dX12_begins0_27 rfl sg_124 ?_
  refine ok_bndM (fun m_27 => ?_)
  refine ok_aload_n 29 0 dX12_begins0_28 rfl rfl rfl ?_
  refine ok_getR 32 dX12_begins0_29 rfl rfl F_EncoresModel_7 sg_123 rfl (Nat.le_of_ble_eq_true rfl) rfl rfl ?_
  refine ok_iconst 33 3 dX12_begins0_32 rfl rfl ?_
  refine ok_iload_n 34 1 dX12_begins0_33 rfl rfl rfl ?_
  refine ok_iastc 35 3 dX12_begins0_34 rfl sg_124 (by decide) (by decide) ?_
  refine ok_bndM (fun m_34 => ?_)
  refine ok_aload_n 36 0 dX12_begins0_35 rfl rfl rfl ?_
  refine ok_iload_n 37 1 dX12_begins0_36 rfl rfl rfl ?_
  refine ok_callVi (np := 1) (M' := m_X12_wearsOf) (As := [.int a1]) (st := []) 40 dX12_begins0_37 rfl rfl km_X12_wearsOf ki_X12_wearsOf kv_X12_wearsOf ml_EncoresModel_307 (by decide) sg_123 rfl (Nat.le_of_ble_eq_true rfl) rfl rfl rfl (Nat.le_of_ble_eq_true rfl) (c_X12_wearsOf N (d + 0) a1 m_34) ⟨Nat.le_refl _, Nat.le_refl _⟩ (Or.inl rfl) rfl (fun r_37 m_37 _ => ?_)
  refine ok_istore_n 41 2 [some (.ref 123), some (.int a1), some (.int r_37)] dX12_begins0_40 rfl rfl (by decide) rfl ?_
  refine ok_aload_n 42 0 dX12_begins0_41 rfl rfl rfl ?_
  refine ok_getR 45 dX12_begins0_42 rfl rfl F_EncoresModel_7 sg_123 rfl (Nat.le_of_ble_eq_true rfl) rfl rfl ?_
  refine ok_iconst 46 0 dX12_begins0_45 rfl rfl ?_
  refine ok_dup2 47 dX12_begins0_46 rfl rfl rfl ?_
  refine ok_ialdc 48 0 dX12_begins0_47 rfl sg_124 (by decide) (by decide) ?_
  refine ok_aload_n 49 0 dX12_begins0_48 rfl rfl rfl ?_
  refine ok_getR 52 dX12_begins0_49 rfl rfl F_EncoresModel_7 sg_123 rfl (Nat.le_of_ble_eq_true rfl) rfl rfl ?_
  refine ok_bipush 54 89 dX12_begins0_52 rfl rfl ?_
  refine ok_iload_n 55 1 dX12_begins0_54 rfl rfl rfl ?_
  refine ok_iadd 56 dX12_begins0_55 rfl ?_
  refine ok_iald 57 dX12_begins0_56 rfl sg_124 ?_
  refine ok_iadd 58 dX12_begins0_57 rfl ?_
  refine ok_iastc 59 0 dX12_begins0_58 rfl sg_124 (by decide) (by decide) ?_
  refine ok_bndM (fun m_58 => ?_)
  refine ok_aload_n 60 0 dX12_begins0_59 rfl rfl rfl ?_
  refine ok_getR 63 dX12_begins0_60 rfl rfl F_EncoresModel_7 sg_123 rfl (Nat.le_of_ble_eq_true rfl) rfl rfl ?_
  refine ok_iconst 64 2 dX12_begins0_63 rfl rfl ?_
  refine ok_dup2 65 dX12_begins0_64 rfl rfl rfl ?_
  refine ok_ialdc 66 2 dX12_begins0_65 rfl sg_124 (by decide) (by decide) ?_
  refine ok_aload_n 67 0 dX12_begins0_66 rfl rfl rfl ?_
  refine ok_getR 70 dX12_begins0_67 rfl rfl F_EncoresModel_7 sg_123 rfl (Nat.le_of_ble_eq_true rfl) rfl rfl ?_
  refine ok_bipush 72 97 dX12_begins0_70 rfl rfl ?_
  refine ok_iload_n 73 1 dX12_begins0_72 rfl rfl rfl ?_
  refine ok_iadd 74 dX12_begins0_73 rfl ?_
  refine ok_iald 75 dX12_begins0_74 rfl sg_124 ?_
  refine ok_isub 76 dX12_begins0_75 rfl ?_
  refine ok_iastc 77 2 dX12_begins0_76 rfl sg_124 (by decide) (by decide) ?_
  refine ok_bndM (fun m_76 => ?_)
  refine ok_aload_n 78 0 dX12_begins0_77 rfl rfl rfl ?_
  refine ok_getR 81 dX12_begins0_78 rfl rfl F_EncoresModel_7 sg_123 rfl (Nat.le_of_ble_eq_true rfl) rfl rfl ?_
  refine ok_bipush 83 29 dX12_begins0_81 rfl rfl ?_
  refine ok_iload_n 84 1 dX12_begins0_83 rfl rfl rfl ?_
  refine ok_iadd 85 dX12_begins0_84 rfl ?_
  refine ok_dup2 86 dX12_begins0_85 rfl rfl rfl ?_
  refine ok_iald 87 dX12_begins0_86 rfl sg_124 ?_
  refine ok_iconst 88 1 dX12_begins0_87 rfl rfl ?_
  refine ok_iadd 89 dX12_begins0_88 rfl ?_
  refine ok_iast 90 dX12_begins0_89 rfl sg_124 ?_
  refine ok_bndM (fun m_89 => ?_)
  refine ok_aload_n 91 0 dX12_begins0_90 rfl rfl rfl ?_
  refine ok_getR 94 dX12_begins0_91 rfl rfl F_EncoresModel_7 sg_123 rfl (Nat.le_of_ble_eq_true rfl) rfl rfl ?_
  refine ok_bipush 96 21 dX12_begins0_94 rfl rfl ?_
  refine ok_iload_n 97 1 dX12_begins0_96 rfl rfl rfl ?_
  refine ok_iadd 98 dX12_begins0_97 rfl ?_
  refine ok_bipush 100 99 dX12_begins0_98 rfl rfl ?_
  refine ok_aload_n 101 0 dX12_begins0_100 rfl rfl rfl ?_
  refine ok_getR 104 dX12_begins0_101 rfl rfl F_EncoresModel_7 sg_123 rfl (Nat.le_of_ble_eq_true rfl) rfl rfl ?_
  refine ok_bipush 106 21 dX12_begins0_104 rfl rfl ?_
  refine ok_iload_n 107 1 dX12_begins0_106 rfl rfl rfl ?_
  refine ok_iadd 108 dX12_begins0_107 rfl ?_
  refine ok_iald 109 dX12_begins0_108 rfl sg_124 ?_
  refine ok_iload_n 110 2 dX12_begins0_109 rfl rfl rfl ?_
  refine ok_iadd 111 dX12_begins0_110 rfl ?_
  refine ok_callSi (np := 2) (M' := m_X12_lesser) (As := [.int 99, .int ((m_89 124 ((21 : Int32) + a1).toNatClampNeg) + r_37)]) (st := [.int ((21 : Int32) + a1), .ref 124]) 114 dX12_begins0_111 rfl rfl km_X12_lesser ks_X12_lesser ml_EncoresModel_286 (by decide) rfl rfl (Nat.le_of_ble_eq_true rfl) (c_X12_lesser N (d + 4) 99 ((m_89 124 ((21 : Int32) + a1).toNatClampNeg) + r_37) m_89) ⟨Nat.le_refl _, Nat.le_refl _⟩ (Or.inl rfl) rfl (fun r_111 m_111 _ => ?_)
  refine ok_iast 115 dX12_begins0_114 rfl sg_124 ?_
  refine ok_bndM (fun m_114 => ?_)
  exact ok_vret dX12_begins0_115 rfl

set_option maxRecDepth 100000 in
set_option maxHeartbeats 4000000 in
theorem ok_X12_begins0 (N d : Nat) (a1 : Int32)  (m : Mem) : Ok none SG (d + 5) m_X12_begins0 0 [some (.ref 123), some (.int a1), none] [] SG m (f_X12_begins0 N a1 m) := by
  unfold f_X12_begins0
  refine ok_aload_n 1 0 dX12_begins0_0 rfl rfl rfl ?_
  refine ok_getR 4 dX12_begins0_1 rfl rfl F_EncoresModel_7 sg_123 rfl (Nat.le_of_ble_eq_true rfl) rfl rfl ?_
  refine ok_iconst 5 4 dX12_begins0_4 rfl rfl ?_
  refine ok_aload_n 6 0 dX12_begins0_5 rfl rfl rfl ?_
  refine ok_getR 9 dX12_begins0_6 rfl rfl F_EncoresModel_7 sg_123 rfl (Nat.le_of_ble_eq_true rfl) rfl rfl ?_
  refine ok_iconst 10 3 dX12_begins0_9 rfl rfl ?_
  refine ok_ialdc 11 3 dX12_begins0_10 rfl sg_124 (by decide) (by decide) ?_
  refine ok_iload_n 12 1 dX12_begins0_11 rfl rfl rfl ?_
  refine ok_icmp_ne 26 15 dX12_begins0_12 (by decide) rfl (fun _ => ?_) (fun _ => ?_)
  · refine ok_iconst 27 0 dX12_begins0_26 rfl rfl ?_
    exact ok_less [some (.ref 123), some (.int a1), none] (And.intro rfl (And.intro rfl (trivial))) (ok_X12_begins0_J27 N d a1   0 4 m)
  · refine ok_aload_n 16 0 dX12_begins0_15 rfl rfl rfl ?_
    refine ok_getR 19 dX12_begins0_16 rfl rfl F_EncoresModel_7 sg_123 rfl (Nat.le_of_ble_eq_true rfl) rfl rfl ?_
    refine ok_iconst 20 4 dX12_begins0_19 rfl rfl ?_
    refine ok_ialdc 21 4 dX12_begins0_20 rfl sg_124 (by decide) (by decide) ?_
    refine ok_iconst 22 1 dX12_begins0_21 rfl rfl ?_
    refine ok_iadd 23 dX12_begins0_22 rfl ?_
    refine ok_goto 27 dX12_begins0_23 (by decide) ?_
    exact ok_less [some (.ref 123), some (.int a1), none] (And.intro rfl (And.intro rfl (trivial))) (ok_X12_begins0_J27 N d a1   ((m 124 4) + (1 : Int32)) 4 m)

theorem c_X12_begins0 (N d : Nat) (a1 : Int32)  (m : Mem) : CM (d + 5) m_X12_begins0 SG SG [.ref 123, .int a1] m (f_X12_begins0 N a1 m) :=
  CM.ofOk km_X12_begins0 ⟨Nat.le_refl _, Nat.le_refl _⟩ (by simp [Value.category]) (Nat.le_of_ble_eq_true rfl) (ok_X12_begins0 N d a1 m)

def f_X12_aRound_L4 (N : Nat) (a1 : Int32)   (X : Int32 → Int32 → Mem → Ans) (s2_4 : Int32) (s3_4 : Int32) (m : Mem) : Ans :=
if (m 124 37) ≤ s3_4 then (chk (isB s2_4) (some (s2_4, m)))
else (bd (f_X12_isThere N s3_4 m) fun r_17 m_17 =>
if r_17 = 0 then (X s2_4 (s3_4 + 1) m_17)
else (bd (f_X12_isGloved N s3_4 m_17) fun r_25 m_25 =>
if r_25 = 0 then (if (((m_25 123 28) >>> (s3_4 &&& 31)) &&& (1 : Int32)) = (1 : Int32) then (X s2_4 (s3_4 + 1) m_25)
else (chk (inb s3_4 12) <|
chk (inb ((185 : Int32) + s3_4) 1707) <|
bd (f_X12_count N ((m_25 124 ((185 : Int32) + s3_4).toNatClampNeg) &&& (m_25 123 28)) m_25) fun r_70 m_70 =>
bd (f_X12_clapOf N s3_4 a1 r_70 m_70) fun r_73 m_73 =>
if (m_25 134 s3_4.toNatClampNeg) < r_73 then (bnd (mset m_73 123 28 ((m_73 123 28) ||| ((1 : Int32) <<< (s3_4 &&& 31)))) fun m_91 =>
X 1 (s3_4 + 1) m_91)
else (X s2_4 (s3_4 + 1) m_73)))
else (X s2_4 (s3_4 + 1) m_25)))

def f_X12_aRound (N : Nat) (a1 : Int32) (m : Mem) : Ans :=
it2 (f_X12_aRound_L4 N a1 ) N 0 0 m

set_option maxRecDepth 100000 in
set_option maxHeartbeats 4000000 in
theorem ok_X12_aRound_L4 (N d : Nat) (a1 : Int32)    : ∀ (n : Nat) (s2_4 : Int32) (s3_4 : Int32) (m : Mem), Ok none SG (d + 5) m_X12_aRound 4 [some (.ref 123), some (.int a1), some (.int s2_4), some (.int s3_4)] [] SG m (it2 (f_X12_aRound_L4 N a1) n s2_4 s3_4 m) :=
  ok_it2 (fun s2_4 s3_4 => [some (.ref 123), some (.int a1), some (.int s2_4), some (.int s3_4)]) (fun X hX s2_4 s3_4 m => by
    try unfold f_X12_aRound_L4
    refine ok_iload_n 5 3 dX12_aRound_4 rfl rfl rfl ?_
    refine ok_aload_n 6 0 dX12_aRound_5 rfl rfl rfl ?_
    refine ok_getR 9 dX12_aRound_6 rfl rfl F_EncoresModel_7 sg_123 rfl (Nat.le_of_ble_eq_true rfl) rfl rfl ?_
    refine ok_bipush 11 37 dX12_aRound_9 rfl rfl ?_
    refine ok_ialdc 12 37 dX12_aRound_11 rfl sg_124 (by decide) (by decide) ?_
    refine ok_icmp_ge 102 15 dX12_aRound_12 (by decide) rfl (fun _ => ?_) (fun _ => ?_)
    · refine ok_iload_n 103 2 dX12_aRound_102 rfl rfl rfl ?_
      exact ok_zret dX12_aRound_103 rfl
    · refine ok_aload_n 16 0 dX12_aRound_15 rfl rfl rfl ?_
      refine ok_iload_n 17 3 dX12_aRound_16 rfl rfl rfl ?_
      refine ok_callVi (np := 1) (M' := m_X12_isThere) (As := [.int s3_4]) (st := []) 20 dX12_aRound_17 rfl rfl km_X12_isThere ki_X12_isThere kv_X12_isThere ml_EncoresModel_310 (by decide) sg_123 rfl (Nat.le_of_ble_eq_true rfl) rfl rfl rfl (Nat.le_of_ble_eq_true rfl) (c_X12_isThere N (d + 4) s3_4 m) ⟨Nat.le_refl _, Nat.le_refl _⟩ (Or.inl rfl) rfl (fun r_17 m_17 _ => ?_)
      refine ok_if_eq 96 23 dX12_aRound_20 (by decide) rfl (fun _ => ?_) (fun _ => ?_)
      · refine ok_iinc 99 3 1 [some (.ref 123), some (.int a1), some (.int s2_4), some (.int (s3_4 + 1))] dX12_aRound_96 rfl rfl rfl (by decide) rfl ?_
        refine ok_goto 4 dX12_aRound_99 (by decide) ?_
        exact ok_less [some (.ref 123), some (.int a1), some (.int s2_4), some (.int (s3_4 + 1))] (And.intro rfl (And.intro rfl (And.intro rfl (And.intro rfl (trivial))))) (hX s2_4 (s3_4 + 1) m_17)
      · refine ok_aload_n 24 0 dX12_aRound_23 rfl rfl rfl ?_
        refine ok_iload_n 25 3 dX12_aRound_24 rfl rfl rfl ?_
        refine ok_callVi (np := 1) (M' := m_X12_isGloved) (As := [.int s3_4]) (st := []) 28 dX12_aRound_25 rfl rfl km_X12_isGloved ki_X12_isGloved kv_X12_isGloved ml_EncoresModel_313 (by decide) sg_123 rfl (Nat.le_of_ble_eq_true rfl) rfl rfl rfl (Nat.le_of_ble_eq_true rfl) (c_X12_isGloved N (d + 4) s3_4 m_17) ⟨Nat.le_refl _, Nat.le_refl _⟩ (Or.inl rfl) rfl (fun r_25 m_25 _ => ?_)
        refine ok_if_ne 96 31 dX12_aRound_28 (by decide) rfl (fun _ => ?_) (fun _ => ?_)
        · refine ok_iinc 99 3 1 [some (.ref 123), some (.int a1), some (.int s2_4), some (.int (s3_4 + 1))] dX12_aRound_96 rfl rfl rfl (by decide) rfl ?_
          refine ok_goto 4 dX12_aRound_99 (by decide) ?_
          exact ok_less [some (.ref 123), some (.int a1), some (.int s2_4), some (.int (s3_4 + 1))] (And.intro rfl (And.intro rfl (And.intro rfl (And.intro rfl (trivial))))) (hX s2_4 (s3_4 + 1) m_25)
        · refine ok_aload_n 32 0 dX12_aRound_31 rfl rfl rfl ?_
          refine ok_getI 35 dX12_aRound_32 rfl rfl F_EncoresModel_316 sg_123 rfl (Nat.le_of_ble_eq_true rfl) rfl ?_
          refine ok_iload_n 36 3 dX12_aRound_35 rfl rfl rfl ?_
          refine ok_ishr 37 dX12_aRound_36 rfl ?_
          refine ok_iconst 38 1 dX12_aRound_37 rfl rfl ?_
          refine ok_iand 39 dX12_aRound_38 rfl ?_
          refine ok_iconst 40 1 dX12_aRound_39 rfl rfl ?_
          refine ok_icmp_ne 46 43 dX12_aRound_40 (by decide) rfl (fun _ => ?_) (fun _ => ?_)
          · refine ok_aload_n 47 0 dX12_aRound_46 rfl rfl rfl ?_
            refine ok_getR 50 dX12_aRound_47 rfl rfl F_EncoresModel_44 sg_123 rfl (Nat.le_of_ble_eq_true rfl) rfl rfl ?_
            refine ok_iload_n 51 3 dX12_aRound_50 rfl rfl rfl ?_
            refine ok_iald 52 dX12_aRound_51 rfl sg_134 ?_
            refine ok_aload_n 53 0 dX12_aRound_52 rfl rfl rfl ?_
            refine ok_iload_n 54 3 dX12_aRound_53 rfl rfl rfl ?_
            refine ok_iload_n 55 1 dX12_aRound_54 rfl rfl rfl ?_
            refine ok_aload_n 56 0 dX12_aRound_55 rfl rfl rfl ?_
            refine ok_getR 59 dX12_aRound_56 rfl rfl F_EncoresModel_7 sg_123 rfl (Nat.le_of_ble_eq_true rfl) rfl rfl ?_
            refine ok_sipush 62 185 dX12_aRound_59 rfl rfl ?_
            refine ok_iload_n 63 3 dX12_aRound_62 rfl rfl rfl ?_
            refine ok_iadd 64 dX12_aRound_63 rfl ?_
            refine ok_iald 65 dX12_aRound_64 rfl sg_124 ?_
            refine ok_aload_n 66 0 dX12_aRound_65 rfl rfl rfl ?_
            refine ok_getI 69 dX12_aRound_66 rfl rfl F_EncoresModel_316 sg_123 rfl (Nat.le_of_ble_eq_true rfl) rfl ?_
            refine ok_iand 70 dX12_aRound_69 rfl ?_
            refine ok_callSi (np := 1) (M' := m_X12_count) (As := [.int ((m_25 124 ((185 : Int32) + s3_4).toNatClampNeg) &&& (m_25 123 28))]) (st := [.int a1, .int s3_4, .ref 123, .int (m_25 134 s3_4.toNatClampNeg)]) 73 dX12_aRound_70 rfl rfl km_X12_count ks_X12_count ml_EncoresModel_319 (by decide) rfl rfl (Nat.le_of_ble_eq_true rfl) (c_X12_count N (d + 4) ((m_25 124 ((185 : Int32) + s3_4).toNatClampNeg) &&& (m_25 123 28)) m_25) ⟨Nat.le_refl _, Nat.le_refl _⟩ (Or.inl rfl) rfl (fun r_70 m_70 _ => ?_)
            refine ok_callVi (np := 3) (M' := m_X12_clapOf) (As := [.int s3_4, .int a1, .int r_70]) (st := [.int (m_25 134 s3_4.toNatClampNeg)]) 76 dX12_aRound_73 rfl rfl km_X12_clapOf ki_X12_clapOf kv_X12_clapOf ml_EncoresModel_322 (by decide) sg_123 rfl (Nat.le_of_ble_eq_true rfl) rfl rfl rfl (Nat.le_of_ble_eq_true rfl) (c_X12_clapOf N (d + 0) s3_4 a1 r_70 m_70) ⟨Nat.le_refl _, Nat.le_refl _⟩ (Or.inl rfl) rfl (fun r_73 m_73 _ => ?_)
            refine ok_icmp_lt 82 79 dX12_aRound_76 (by decide) rfl (fun _ => ?_) (fun _ => ?_)
            · refine ok_aload_n 83 0 dX12_aRound_82 rfl rfl rfl ?_
              refine ok_dup 84 dX12_aRound_83 rfl rfl ?_
              refine ok_getI 87 dX12_aRound_84 rfl rfl F_EncoresModel_316 sg_123 rfl (Nat.le_of_ble_eq_true rfl) rfl ?_
              refine ok_iconst 88 1 dX12_aRound_87 rfl rfl ?_
              refine ok_iload_n 89 3 dX12_aRound_88 rfl rfl rfl ?_
              refine ok_ishl 90 dX12_aRound_89 rfl ?_
              refine ok_ior 91 dX12_aRound_90 rfl ?_
              refine ok_putI 94 dX12_aRound_91 rfl rfl F_EncoresModel_316 sg_123 rfl (Nat.le_of_ble_eq_true rfl) rfl rfl pZ_12_28 rfl rfl ?_
              refine ok_bndM (fun m_91 => ?_)
              refine ok_iconst 95 1 dX12_aRound_94 rfl rfl ?_
              refine ok_istore_n 96 2 [some (.ref 123), some (.int a1), some (.int 1), some (.int s3_4)] dX12_aRound_95 rfl rfl (by decide) rfl ?_
              refine ok_iinc 99 3 1 [some (.ref 123), some (.int a1), some (.int 1), some (.int (s3_4 + 1))] dX12_aRound_96 rfl rfl rfl (by decide) rfl ?_
              refine ok_goto 4 dX12_aRound_99 (by decide) ?_
              exact ok_less [some (.ref 123), some (.int a1), some (.int 1), some (.int (s3_4 + 1))] (And.intro rfl (And.intro rfl (And.intro rfl (And.intro rfl (trivial))))) (hX 1 (s3_4 + 1) m_91)
            · refine ok_goto 96 dX12_aRound_79 (by decide) ?_
              refine ok_iinc 99 3 1 [some (.ref 123), some (.int a1), some (.int s2_4), some (.int (s3_4 + 1))] dX12_aRound_96 rfl rfl rfl (by decide) rfl ?_
              refine ok_goto 4 dX12_aRound_99 (by decide) ?_
              exact ok_less [some (.ref 123), some (.int a1), some (.int s2_4), some (.int (s3_4 + 1))] (And.intro rfl (And.intro rfl (And.intro rfl (And.intro rfl (trivial))))) (hX s2_4 (s3_4 + 1) m_73)
          · refine ok_goto 96 dX12_aRound_43 (by decide) ?_
            refine ok_iinc 99 3 1 [some (.ref 123), some (.int a1), some (.int s2_4), some (.int (s3_4 + 1))] dX12_aRound_96 rfl rfl rfl (by decide) rfl ?_
            refine ok_goto 4 dX12_aRound_99 (by decide) ?_
            exact ok_less [some (.ref 123), some (.int a1), some (.int s2_4), some (.int (s3_4 + 1))] (And.intro rfl (And.intro rfl (And.intro rfl (And.intro rfl (trivial))))) (hX s2_4 (s3_4 + 1) m_25))

set_option maxRecDepth 100000 in
set_option maxHeartbeats 4000000 in
theorem ok_X12_aRound (N d : Nat) (a1 : Int32)  (m : Mem) : Ok none SG (d + 5) m_X12_aRound 0 [some (.ref 123), some (.int a1), none, none] [] SG m (f_X12_aRound N a1 m) := by
  unfold f_X12_aRound
  refine ok_iconst 1 0 dX12_aRound_0 rfl rfl ?_
  refine ok_istore_n 2 2 [some (.ref 123), some (.int a1), some (.int 0), none] dX12_aRound_1 rfl rfl (by decide) rfl ?_
  refine ok_iconst 3 0 dX12_aRound_2 rfl rfl ?_
  refine ok_istore_n 4 3 [some (.ref 123), some (.int a1), some (.int 0), some (.int 0)] dX12_aRound_3 rfl rfl (by decide) rfl ?_
  refine ok_less [some (.ref 123), some (.int a1), some (.int 0), some (.int 0)] (And.intro rfl (And.intro rfl (And.intro rfl (And.intro rfl (trivial))))) ?_
  exact ok_X12_aRound_L4 N d a1    N 0 0 m

theorem c_X12_aRound (N d : Nat) (a1 : Int32)  (m : Mem) : CM (d + 5) m_X12_aRound SG SG [.ref 123, .int a1] m (f_X12_aRound N a1 m) :=
  CM.ofOk km_X12_aRound ⟨Nat.le_refl _, Nat.le_refl _⟩ (by simp [Value.category]) (Nat.le_of_ble_eq_true rfl) (ok_X12_aRound N d a1 m)

def f_X12_handsClapping_L4 (N : Nat)    (X : Int32 → Int32 → Mem → Ans) (s1_4 : Int32) (s2_4 : Int32) (m : Mem) : Ans :=
if (m 124 37) ≤ s2_4 then (some (s1_4, m))
else (if (((m 123 28) >>> (s2_4 &&& 31)) &&& (1 : Int32)) = (1 : Int32) then (chk (inb ((45 : Int32) + s2_4) 1707) <|
bd (f_X12_countsAs N s2_4 m) fun r_39 m_39 =>
bnd (s1_4 + ((m 124 ((45 : Int32) + s2_4).toNatClampNeg) * r_39)) fun a1_48 =>
X a1_48 (s2_4 + 1) m_39)
else (bnd (s1_4 + (0 : Int32)) fun a1_48 =>
X a1_48 (s2_4 + 1) m))

def f_X12_handsClapping (N : Nat)  (m : Mem) : Ans :=
it2 (f_X12_handsClapping_L4 N ) N 0 0 m

set_option maxRecDepth 100000 in
set_option maxHeartbeats 4000000 in
theorem ok_X12_handsClapping_L4 (N d : Nat)     : ∀ (n : Nat) (s1_4 : Int32) (s2_4 : Int32) (m : Mem), Ok none SG (d + 1) m_X12_handsClapping 4 [some (.ref 123), some (.int s1_4), some (.int s2_4)] [] SG m (it2 (f_X12_handsClapping_L4 N) n s1_4 s2_4 m) :=
  ok_it2 (fun s1_4 s2_4 => [some (.ref 123), some (.int s1_4), some (.int s2_4)]) (fun X hX s1_4 s2_4 m => by
    try unfold f_X12_handsClapping_L4
    refine ok_iload_n 5 2 dX12_handsClapping_4 rfl rfl rfl ?_
    refine ok_aload_n 6 0 dX12_handsClapping_5 rfl rfl rfl ?_
    refine ok_getR 9 dX12_handsClapping_6 rfl rfl F_EncoresModel_7 sg_123 rfl (Nat.le_of_ble_eq_true rfl) rfl rfl ?_
    refine ok_bipush 11 37 dX12_handsClapping_9 rfl rfl ?_
    refine ok_ialdc 12 37 dX12_handsClapping_11 rfl sg_124 (by decide) (by decide) ?_
    refine ok_icmp_ge 55 15 dX12_handsClapping_12 (by decide) rfl (fun _ => ?_) (fun _ => ?_)
    · refine ok_iload_n 56 1 dX12_handsClapping_55 rfl rfl rfl ?_
      exact ok_iret dX12_handsClapping_56 rfl
    · refine ok_iload_n 16 1 dX12_handsClapping_15 rfl rfl rfl ?_
      refine ok_aload_n 17 0 dX12_handsClapping_16 rfl rfl rfl ?_
      refine ok_getI 20 dX12_handsClapping_17 rfl rfl F_EncoresModel_316 sg_123 rfl (Nat.le_of_ble_eq_true rfl) rfl ?_
      refine ok_iload_n 21 2 dX12_handsClapping_20 rfl rfl rfl ?_
      refine ok_ishr 22 dX12_handsClapping_21 rfl ?_
      refine ok_iconst 23 1 dX12_handsClapping_22 rfl rfl ?_
      refine ok_iand 24 dX12_handsClapping_23 rfl ?_
      refine ok_iconst 25 1 dX12_handsClapping_24 rfl rfl ?_
      refine ok_icmp_ne 46 28 dX12_handsClapping_25 (by decide) rfl (fun _ => ?_) (fun _ => ?_)
      · refine ok_iconst 47 0 dX12_handsClapping_46 rfl rfl ?_
        refine ok_iadd 48 dX12_handsClapping_47 rfl ?_
        refine ok_bndI (fun a1_48 => ?_)
        refine ok_istore_n 49 1 [some (.ref 123), some (.int a1_48), some (.int s2_4)] dX12_handsClapping_48 rfl rfl (by decide) rfl ?_
        refine ok_iinc 52 2 1 [some (.ref 123), some (.int a1_48), some (.int (s2_4 + 1))] dX12_handsClapping_49 rfl rfl rfl (by decide) rfl ?_
        refine ok_goto 4 dX12_handsClapping_52 (by decide) ?_
        exact ok_less [some (.ref 123), some (.int a1_48), some (.int (s2_4 + 1))] (And.intro rfl (And.intro rfl (And.intro rfl (trivial)))) (hX a1_48 (s2_4 + 1) m)
      · refine ok_aload_n 29 0 dX12_handsClapping_28 rfl rfl rfl ?_
        refine ok_getR 32 dX12_handsClapping_29 rfl rfl F_EncoresModel_7 sg_123 rfl (Nat.le_of_ble_eq_true rfl) rfl rfl ?_
        refine ok_bipush 34 45 dX12_handsClapping_32 rfl rfl ?_
        refine ok_iload_n 35 2 dX12_handsClapping_34 rfl rfl rfl ?_
        refine ok_iadd 36 dX12_handsClapping_35 rfl ?_
        refine ok_iald 37 dX12_handsClapping_36 rfl sg_124 ?_
        refine ok_aload_n 38 0 dX12_handsClapping_37 rfl rfl rfl ?_
        refine ok_iload_n 39 2 dX12_handsClapping_38 rfl rfl rfl ?_
        refine ok_callVi (np := 1) (M' := m_X12_countsAs) (As := [.int s2_4]) (st := [.int (m 124 ((45 : Int32) + s2_4).toNatClampNeg), .int s1_4]) 42 dX12_handsClapping_39 rfl rfl km_X12_countsAs ki_X12_countsAs kv_X12_countsAs ml_EncoresModel_325 (by decide) sg_123 rfl (Nat.le_of_ble_eq_true rfl) rfl rfl rfl (Nat.le_of_ble_eq_true rfl) (c_X12_countsAs N (d + 0) s2_4 m) ⟨Nat.le_refl _, Nat.le_refl _⟩ (Or.inl rfl) rfl (fun r_39 m_39 _ => ?_)
        refine ok_imul 43 dX12_handsClapping_42 rfl ?_
        refine ok_goto 47 dX12_handsClapping_43 (by decide) ?_
        refine ok_iadd 48 dX12_handsClapping_47 rfl ?_
        refine ok_bndI (fun a1_48 => ?_)
        refine ok_istore_n 49 1 [some (.ref 123), some (.int a1_48), some (.int s2_4)] dX12_handsClapping_48 rfl rfl (by decide) rfl ?_
        refine ok_iinc 52 2 1 [some (.ref 123), some (.int a1_48), some (.int (s2_4 + 1))] dX12_handsClapping_49 rfl rfl rfl (by decide) rfl ?_
        refine ok_goto 4 dX12_handsClapping_52 (by decide) ?_
        exact ok_less [some (.ref 123), some (.int a1_48), some (.int (s2_4 + 1))] (And.intro rfl (And.intro rfl (And.intro rfl (trivial)))) (hX a1_48 (s2_4 + 1) m_39))

set_option maxRecDepth 100000 in
set_option maxHeartbeats 4000000 in
theorem ok_X12_handsClapping (N d : Nat)   (m : Mem) : Ok none SG (d + 1) m_X12_handsClapping 0 [some (.ref 123), none, none] [] SG m (f_X12_handsClapping N m) := by
  unfold f_X12_handsClapping
  refine ok_iconst 1 0 dX12_handsClapping_0 rfl rfl ?_
  refine ok_istore_n 2 1 [some (.ref 123), some (.int 0), none] dX12_handsClapping_1 rfl rfl (by decide) rfl ?_
  refine ok_iconst 3 0 dX12_handsClapping_2 rfl rfl ?_
  refine ok_istore_n 4 2 [some (.ref 123), some (.int 0), some (.int 0)] dX12_handsClapping_3 rfl rfl (by decide) rfl ?_
  refine ok_less [some (.ref 123), some (.int 0), some (.int 0)] (And.intro rfl (And.intro rfl (And.intro rfl (trivial)))) ?_
  exact ok_X12_handsClapping_L4 N d     N 0 0 m

theorem c_X12_handsClapping (N d : Nat)   (m : Mem) : CM (d + 1) m_X12_handsClapping SG SG [.ref 123] m (f_X12_handsClapping N m) :=
  CM.ofOk km_X12_handsClapping ⟨Nat.le_refl _, Nat.le_refl _⟩ (by simp [Value.category]) (Nat.le_of_ble_eq_true rfl) (ok_X12_handsClapping N d  m)

def f_X12_claps_L2 (N : Nat) (a1 : Int32)  (K53 : Mem → Ans) (X : Int32 → Mem → Ans) (s2_2 : Int32) (m : Mem) : Ans :=
if (m 124 37) ≤ s2_2 then (K53 m)
else (bd (f_X12_isThere N s2_2 m) fun r_15 m_15 =>
if r_15 = 0 then (X (s2_2 + 1) m_15)
else (if (m_15 123 26) = 0 then (chk (inb s2_2 12) <|
bnd (mset m_15 134 s2_2.toNatClampNeg 500) fun m_46 =>
X (s2_2 + 1) m_46)
else (bd (f_X12_draw N 1000 m_15) fun r_37 m_37 =>
chk (inb s2_2 12) <|
bnd (mset m_37 134 s2_2.toNatClampNeg r_37) fun m_46 =>
X (s2_2 + 1) m_46)))

def f_X12_claps_L63 (N : Nat) (a1 : Int32)  (K84 : Mem → Ans) (X : Mem → Ans)  (m : Mem) : Ans :=
bd (f_X12_aRound N a1 m) fun r_65 m_65 =>
if r_65 = 0 then (K84 m_65)
else (bnd (mset m_65 123 29 ((m_65 123 29) + (1 : Int32))) fun m_78 =>
X m_78)

def f_X12_claps_J204 (N : Nat) (a1 : Int32)   (t0_204 : Int32) (m : Mem) : Ans :=
chk (isB t0_204) <|
bnd (mset m 123 31 t0_204) fun m_204 =>
if (m_204 124 4) = 0 then (bd (f_X12_notes N 0 a1 (m_204 123 30) m_204) fun _ m_227 =>
some (0, m_227))
else (bd (f_X12_notes N 1 a1 (m_204 123 30) m_204) fun _ m_227 =>
some (0, m_227))

def f_X12_claps_J203 (N : Nat) (a1 : Int32)    (m : Mem) : Ans :=
f_X12_claps_J204 N a1 0 m

def f_X12_claps_J154 (N : Nat) (a1 : Int32)   (s2_154 : Int32) (t0_154 : Int32) (m : Mem) : Ans :=
bnd (mset m 123 30 t0_154) fun m_154 =>
if s2_154 = 0 then (bd (f_X12_handsAsked N m_154) fun r_167 m_167 =>
if (m_154 123 30) < r_167 then (f_X12_claps_J203 N a1 m_167)
else (bd (f_X12_mostAgains N m_167) fun r_180 m_180 =>
if r_180 ≤ (m_167 124 4) then (f_X12_claps_J203 N a1 m_180)
else (bd (f_X12_endsAt N m_180) fun r_193 m_193 =>
if r_193 ≤ (m_180 124 0) then (f_X12_claps_J203 N a1 m_193)
else (f_X12_claps_J204 N a1 1 m_193))))
else (f_X12_claps_J203 N a1 m_154)

def f_X12_claps_J135 (N : Nat) (a1 : Int32)   (s2_135 : Int32) (m : Mem) : Ans :=
if s2_135 = 0 then (bd (f_X12_loudOf N a1 m) fun r_146 m_146 =>
bd (f_X12_handsClapping N m_146) fun r_150 m_150 =>
f_X12_claps_J154 N a1 s2_135 (r_146 + r_150) m_150)
else (f_X12_claps_J154 N a1 s2_135 0 m)

def f_X12_claps_J123 (N : Nat) (a1 : Int32)   (t0_123 : Int32) (m : Mem) : Ans :=
if t0_123 = 0 then (f_X12_claps_J135 N a1 t0_123 m)
else (bd (f_X12_notes N 2 a1 0 m) fun _ m_132 =>
f_X12_claps_J135 N a1 t0_123 m_132)

def f_X12_claps_J122 (N : Nat) (a1 : Int32)    (m : Mem) : Ans :=
f_X12_claps_J123 N a1 0 m

def f_X12_claps (N : Nat) (a1 : Int32) (m : Mem) : Ans :=
it1 (f_X12_claps_L2 N a1 (fun mk53 => bnd (mset mk53 123 28 0) fun m_55 =>
bnd (mset m_55 123 29 0) fun m_60 =>
it0 (f_X12_claps_L63 N a1 (fun mk84 => if (mk84 123 26) = 0 then (f_X12_claps_J122 N a1 mk84)
else (if (mk84 124 39) ≤ 0 then (f_X12_claps_J122 N a1 mk84)
else (bd (f_X12_draw N 1000 mk84) fun r_105 m_105 =>
if (m_105 124 39) ≤ r_105 then (f_X12_claps_J122 N a1 m_105)
else (f_X12_claps_J123 N a1 1 m_105))))) N m_60)) N 0 m

set_option maxRecDepth 100000 in
set_option maxHeartbeats 4000000 in
theorem ok_X12_claps_L2 (N d : Nat) (a1 : Int32)   (K53 : Mem → Ans) (hK53 : ∀  (m : Mem), Ok none SG (d + 6) m_X12_claps 53 [some (.ref 123), some (.int a1), none] [] SG m (K53 m)) : ∀ (n : Nat) (s2_2 : Int32) (m : Mem), Ok none SG (d + 6) m_X12_claps 2 [some (.ref 123), some (.int a1), some (.int s2_2)] [] SG m (it1 (f_X12_claps_L2 N a1 K53) n s2_2 m) :=
  ok_it1 (fun s2_2 => [some (.ref 123), some (.int a1), some (.int s2_2)]) (fun X hX s2_2 m => by
    try unfold f_X12_claps_L2
    refine ok_iload_n 3 2 dX12_claps_2 rfl rfl rfl ?_
    refine ok_aload_n 4 0 dX12_claps_3 rfl rfl rfl ?_
    refine ok_getR 7 dX12_claps_4 rfl rfl F_EncoresModel_7 sg_123 rfl (Nat.le_of_ble_eq_true rfl) rfl rfl ?_
    refine ok_bipush 9 37 dX12_claps_7 rfl rfl ?_
    refine ok_ialdc 10 37 dX12_claps_9 rfl sg_124 (by decide) (by decide) ?_
    refine ok_icmp_ge 53 13 dX12_claps_10 (by decide) rfl (fun _ => ?_) (fun _ => ?_)
    · exact ok_less [some (.ref 123), some (.int a1), none] (And.intro rfl (And.intro rfl (trivial))) (hK53 m)
    · refine ok_aload_n 14 0 dX12_claps_13 rfl rfl rfl ?_
      refine ok_iload_n 15 2 dX12_claps_14 rfl rfl rfl ?_
      refine ok_callVi (np := 1) (M' := m_X12_isThere) (As := [.int s2_2]) (st := []) 18 dX12_claps_15 rfl rfl km_X12_isThere ki_X12_isThere kv_X12_isThere ml_EncoresModel_310 (by decide) sg_123 rfl (Nat.le_of_ble_eq_true rfl) rfl rfl rfl (Nat.le_of_ble_eq_true rfl) (c_X12_isThere N (d + 5) s2_2 m) ⟨Nat.le_refl _, Nat.le_refl _⟩ (Or.inl rfl) rfl (fun r_15 m_15 _ => ?_)
      refine ok_if_eq 47 21 dX12_claps_18 (by decide) rfl (fun _ => ?_) (fun _ => ?_)
      · refine ok_iinc 50 2 1 [some (.ref 123), some (.int a1), some (.int (s2_2 + 1))] dX12_claps_47 rfl rfl rfl (by decide) rfl ?_
        refine ok_goto 2 dX12_claps_50 (by decide) ?_
        exact ok_less [some (.ref 123), some (.int a1), some (.int (s2_2 + 1))] (And.intro rfl (And.intro rfl (And.intro rfl (trivial)))) (hX (s2_2 + 1) m_15)
      · refine ok_aload_n 22 0 dX12_claps_21 rfl rfl rfl ?_
        refine ok_getR 25 dX12_claps_22 rfl rfl F_EncoresModel_44 sg_123 rfl (Nat.le_of_ble_eq_true rfl) rfl rfl ?_
        refine ok_iload_n 26 2 dX12_claps_25 rfl rfl rfl ?_
        refine ok_aload_n 27 0 dX12_claps_26 rfl rfl rfl ?_
        refine ok_getI 30 dX12_claps_27 rfl rfl F_EncoresModel_303 sg_123 rfl (Nat.le_of_ble_eq_true rfl) rfl ?_
        refine ok_if_eq 43 33 dX12_claps_30 (by decide) rfl (fun _ => ?_) (fun _ => ?_)
        · refine ok_sipush 46 500 dX12_claps_43 rfl rfl ?_
          refine ok_iast 47 dX12_claps_46 rfl sg_134 ?_
          refine ok_bndM (fun m_46 => ?_)
          refine ok_iinc 50 2 1 [some (.ref 123), some (.int a1), some (.int (s2_2 + 1))] dX12_claps_47 rfl rfl rfl (by decide) rfl ?_
          refine ok_goto 2 dX12_claps_50 (by decide) ?_
          exact ok_less [some (.ref 123), some (.int a1), some (.int (s2_2 + 1))] (And.intro rfl (And.intro rfl (And.intro rfl (trivial)))) (hX (s2_2 + 1) m_46)
        · refine ok_aload_n 34 0 dX12_claps_33 rfl rfl rfl ?_
          refine ok_sipush 37 1000 dX12_claps_34 rfl rfl ?_
          refine ok_callVi (np := 1) (M' := m_X12_draw) (As := [.int 1000]) (st := [.int s2_2, .ref 134]) 40 dX12_claps_37 rfl rfl km_X12_draw ki_X12_draw kv_X12_draw ml_EncoresModel_328 (by decide) sg_123 rfl (Nat.le_of_ble_eq_true rfl) rfl rfl rfl (Nat.le_of_ble_eq_true rfl) (c_X12_draw N (d + 5) 1000 m_15) ⟨Nat.le_refl _, Nat.le_refl _⟩ (Or.inl rfl) rfl (fun r_37 m_37 _ => ?_)
          refine ok_goto 46 dX12_claps_40 (by decide) ?_
          refine ok_iast 47 dX12_claps_46 rfl sg_134 ?_
          refine ok_bndM (fun m_46 => ?_)
          refine ok_iinc 50 2 1 [some (.ref 123), some (.int a1), some (.int (s2_2 + 1))] dX12_claps_47 rfl rfl rfl (by decide) rfl ?_
          refine ok_goto 2 dX12_claps_50 (by decide) ?_
          exact ok_less [some (.ref 123), some (.int a1), some (.int (s2_2 + 1))] (And.intro rfl (And.intro rfl (And.intro rfl (trivial)))) (hX (s2_2 + 1) m_46))

set_option maxRecDepth 100000 in
set_option maxHeartbeats 4000000 in
theorem ok_X12_claps_L63 (N d : Nat) (a1 : Int32)   (K84 : Mem → Ans) (hK84 : ∀  (m : Mem), Ok none SG (d + 6) m_X12_claps 84 [some (.ref 123), some (.int a1), none] [] SG m (K84 m)) : ∀ (n : Nat) (m : Mem), Ok none SG (d + 6) m_X12_claps 63 [some (.ref 123), some (.int a1), none] [] SG m (it0 (f_X12_claps_L63 N a1 K84) n m) :=
  ok_it0 [some (.ref 123), some (.int a1), none] (fun X hX m => by
    try unfold f_X12_claps_L63
    refine ok_aload_n 64 0 dX12_claps_63 rfl rfl rfl ?_
    refine ok_iload_n 65 1 dX12_claps_64 rfl rfl rfl ?_
    refine ok_callVi (np := 1) (M' := m_X12_aRound) (As := [.int a1]) (st := []) 68 dX12_claps_65 rfl rfl km_X12_aRound ki_X12_aRound kv_X12_aRound ml_EncoresModel_334 (by decide) sg_123 rfl (Nat.le_of_ble_eq_true rfl) rfl rfl rfl (Nat.le_of_ble_eq_true rfl) (c_X12_aRound N (d + 0) a1 m) ⟨Nat.le_refl _, Nat.le_refl _⟩ (Or.inl rfl) rfl (fun r_65 m_65 _ => ?_)
    refine ok_if_eq 84 71 dX12_claps_68 (by decide) rfl (fun _ => ?_) (fun _ => ?_)
    · exact ok_less [some (.ref 123), some (.int a1), none] (And.intro rfl (And.intro rfl (trivial))) (hK84 m_65)
    · refine ok_aload_n 72 0 dX12_claps_71 rfl rfl rfl ?_
      refine ok_dup 73 dX12_claps_72 rfl rfl ?_
      refine ok_getI 76 dX12_claps_73 rfl rfl F_EncoresModel_331 sg_123 rfl (Nat.le_of_ble_eq_true rfl) rfl ?_
      refine ok_iconst 77 1 dX12_claps_76 rfl rfl ?_
      refine ok_iadd 78 dX12_claps_77 rfl ?_
      refine ok_putI 81 dX12_claps_78 rfl rfl F_EncoresModel_331 sg_123 rfl (Nat.le_of_ble_eq_true rfl) rfl rfl pZ_12_29 rfl rfl ?_
      refine ok_bndM (fun m_78 => ?_)
      refine ok_goto 63 dX12_claps_81 (by decide) ?_
      exact ok_less [some (.ref 123), some (.int a1), none] (And.intro rfl (And.intro rfl (trivial))) (hX m_78))

set_option maxRecDepth 100000 in
set_option maxHeartbeats 4000000 in
theorem ok_X12_claps_J204 (N d : Nat) (a1 : Int32)    (t0_204 : Int32) (m : Mem) : Ok none SG (d + 6) m_X12_claps 204 [some (.ref 123), some (.int a1), none] [.int t0_204, .ref 123] SG m (f_X12_claps_J204 N a1 t0_204 m) := by
  unfold f_X12_claps_J204
  refine ok_putZ 207 dX12_claps_204 rfl rfl F_EncoresModel_358 sg_123 rfl (Nat.le_of_ble_eq_true rfl) rfl rfl pZ_12_31 ?_
  refine ok_bndM (fun m_204 => ?_)
  refine ok_aload_n 208 0 dX12_claps_207 rfl rfl rfl ?_
  refine ok_aload_n 209 0 dX12_claps_208 rfl rfl rfl ?_
  refine ok_getR 212 dX12_claps_209 rfl rfl F_EncoresModel_7 sg_123 rfl (Nat.le_of_ble_eq_true rfl) rfl rfl ?_
  refine ok_iconst 213 4 dX12_claps_212 rfl rfl ?_
  refine ok_ialdc 214 4 dX12_claps_213 rfl sg_124 (by decide) (by decide) ?_
  refine ok_if_ne 221 217 dX12_claps_214 (by decide) rfl (fun _ => ?_) (fun _ => ?_)
  · refine ok_iconst 222 1 dX12_claps_221 rfl rfl ?_
    refine ok_iload_n 223 1 dX12_claps_222 rfl rfl rfl ?_
    refine ok_aload_n 224 0 dX12_claps_223 rfl rfl rfl ?_
    refine ok_getI 227 dX12_claps_224 rfl rfl F_EncoresModel_347 sg_123 rfl (Nat.le_of_ble_eq_true rfl) rfl ?_
    refine ok_callVv (np := 3) (M' := m_X12_notes) (As := [.int 1, .int a1, .int (m_204 123 30)]) (st := []) 230 dX12_claps_227 rfl rfl km_X12_notes ki_X12_notes kv_X12_notes ml_EncoresModel_337 (by decide) sg_123 rfl (Nat.le_of_ble_eq_true rfl) rfl rfl rfl (Nat.le_of_ble_eq_true rfl) (c_X12_notes N (d + 5) 1 a1 (m_204 123 30) m_204) ⟨Nat.le_refl _, Nat.le_refl _⟩ (Or.inl rfl) rfl (fun _ m_227 _ => ?_)
    exact ok_vret dX12_claps_230 rfl
  · refine ok_iconst 218 0 dX12_claps_217 rfl rfl ?_
    refine ok_goto 222 dX12_claps_218 (by decide) ?_
    refine ok_iload_n 223 1 dX12_claps_222 rfl rfl rfl ?_
    refine ok_aload_n 224 0 dX12_claps_223 rfl rfl rfl ?_
    refine ok_getI 227 dX12_claps_224 rfl rfl F_EncoresModel_347 sg_123 rfl (Nat.le_of_ble_eq_true rfl) rfl ?_
    refine ok_callVv (np := 3) (M' := m_X12_notes) (As := [.int 0, .int a1, .int (m_204 123 30)]) (st := []) 230 dX12_claps_227 rfl rfl km_X12_notes ki_X12_notes kv_X12_notes ml_EncoresModel_337 (by decide) sg_123 rfl (Nat.le_of_ble_eq_true rfl) rfl rfl rfl (Nat.le_of_ble_eq_true rfl) (c_X12_notes N (d + 5) 0 a1 (m_204 123 30) m_204) ⟨Nat.le_refl _, Nat.le_refl _⟩ (Or.inl rfl) rfl (fun _ m_227 _ => ?_)
    exact ok_vret dX12_claps_230 rfl

set_option maxRecDepth 100000 in
set_option maxHeartbeats 4000000 in
theorem ok_X12_claps_J203 (N d : Nat) (a1 : Int32)     (m : Mem) : Ok none SG (d + 6) m_X12_claps 203 [some (.ref 123), some (.int a1), none] [.ref 123] SG m (f_X12_claps_J203 N a1 m) := by
  unfold f_X12_claps_J203
  refine ok_iconst 204 0 dX12_claps_203 rfl rfl ?_
  exact ok_less [some (.ref 123), some (.int a1), none] (And.intro rfl (And.intro rfl (trivial))) (ok_X12_claps_J204 N d a1   0 m)

set_option maxRecDepth 100000 in
set_option maxHeartbeats 4000000 in
theorem ok_X12_claps_J154 (N d : Nat) (a1 : Int32)    (s2_154 : Int32) (t0_154 : Int32) (m : Mem) : Ok none SG (d + 6) m_X12_claps 154 [some (.ref 123), some (.int a1), some (.int s2_154)] [.int t0_154, .ref 123] SG m (f_X12_claps_J154 N a1 s2_154 t0_154 m) := by
  unfold f_X12_claps_J154
  refine ok_putI 157 dX12_claps_154 rfl rfl F_EncoresModel_347 sg_123 rfl (Nat.le_of_ble_eq_true rfl) rfl rfl pZ_12_30 rfl rfl ?_
  refine ok_bndM (fun m_154 => ?_)
  refine ok_aload_n 158 0 dX12_claps_157 rfl rfl rfl ?_
  refine ok_iload_n 159 2 dX12_claps_158 rfl rfl rfl ?_
  refine ok_if_ne 203 162 dX12_claps_159 (by decide) rfl (fun _ => ?_) (fun _ => ?_)
  · exact ok_less [some (.ref 123), some (.int a1), none] (And.intro rfl (And.intro rfl (trivial))) (ok_X12_claps_J203 N d a1   m_154)
  · refine ok_aload_n 163 0 dX12_claps_162 rfl rfl rfl ?_
    refine ok_getI 166 dX12_claps_163 rfl rfl F_EncoresModel_347 sg_123 rfl (Nat.le_of_ble_eq_true rfl) rfl ?_
    refine ok_aload_n 167 0 dX12_claps_166 rfl rfl rfl ?_
    refine ok_callVi (np := 0) (M' := m_X12_handsAsked) (As := []) (st := [.int (m_154 123 30), .ref 123]) 170 dX12_claps_167 rfl rfl km_X12_handsAsked ki_X12_handsAsked kv_X12_handsAsked ml_EncoresModel_349 (by decide) sg_123 rfl (Nat.le_of_ble_eq_true rfl) rfl rfl rfl (Nat.le_of_ble_eq_true rfl) (c_X12_handsAsked N (d + 5) m_154) ⟨Nat.le_refl _, Nat.le_refl _⟩ (Or.inl rfl) rfl (fun r_167 m_167 _ => ?_)
    refine ok_icmp_lt 203 173 dX12_claps_170 (by decide) rfl (fun _ => ?_) (fun _ => ?_)
    · exact ok_less [some (.ref 123), some (.int a1), none] (And.intro rfl (And.intro rfl (trivial))) (ok_X12_claps_J203 N d a1   m_167)
    · refine ok_aload_n 174 0 dX12_claps_173 rfl rfl rfl ?_
      refine ok_getR 177 dX12_claps_174 rfl rfl F_EncoresModel_7 sg_123 rfl (Nat.le_of_ble_eq_true rfl) rfl rfl ?_
      refine ok_iconst 178 4 dX12_claps_177 rfl rfl ?_
      refine ok_ialdc 179 4 dX12_claps_178 rfl sg_124 (by decide) (by decide) ?_
      refine ok_aload_n 180 0 dX12_claps_179 rfl rfl rfl ?_
      refine ok_callVi (np := 0) (M' := m_X12_mostAgains) (As := []) (st := [.int (m_167 124 4), .ref 123]) 183 dX12_claps_180 rfl rfl km_X12_mostAgains ki_X12_mostAgains kv_X12_mostAgains ml_EncoresModel_352 (by decide) sg_123 rfl (Nat.le_of_ble_eq_true rfl) rfl rfl rfl (Nat.le_of_ble_eq_true rfl) (c_X12_mostAgains N (d + 4) m_167) ⟨Nat.le_refl _, Nat.le_refl _⟩ (Or.inl rfl) rfl (fun r_180 m_180 _ => ?_)
      refine ok_icmp_ge 203 186 dX12_claps_183 (by decide) rfl (fun _ => ?_) (fun _ => ?_)
      · exact ok_less [some (.ref 123), some (.int a1), none] (And.intro rfl (And.intro rfl (trivial))) (ok_X12_claps_J203 N d a1   m_180)
      · refine ok_aload_n 187 0 dX12_claps_186 rfl rfl rfl ?_
        refine ok_getR 190 dX12_claps_187 rfl rfl F_EncoresModel_7 sg_123 rfl (Nat.le_of_ble_eq_true rfl) rfl rfl ?_
        refine ok_iconst 191 0 dX12_claps_190 rfl rfl ?_
        refine ok_ialdc 192 0 dX12_claps_191 rfl sg_124 (by decide) (by decide) ?_
        refine ok_aload_n 193 0 dX12_claps_192 rfl rfl rfl ?_
        refine ok_callVi (np := 0) (M' := m_X12_endsAt) (As := []) (st := [.int (m_180 124 0), .ref 123]) 196 dX12_claps_193 rfl rfl km_X12_endsAt ki_X12_endsAt kv_X12_endsAt ml_EncoresModel_355 (by decide) sg_123 rfl (Nat.le_of_ble_eq_true rfl) rfl rfl rfl (Nat.le_of_ble_eq_true rfl) (c_X12_endsAt N (d + 4) m_180) ⟨Nat.le_refl _, Nat.le_refl _⟩ (Or.inl rfl) rfl (fun r_193 m_193 _ => ?_)
        refine ok_icmp_ge 203 199 dX12_claps_196 (by decide) rfl (fun _ => ?_) (fun _ => ?_)
        · exact ok_less [some (.ref 123), some (.int a1), none] (And.intro rfl (And.intro rfl (trivial))) (ok_X12_claps_J203 N d a1   m_193)
        · refine ok_iconst 200 1 dX12_claps_199 rfl rfl ?_
          refine ok_goto 204 dX12_claps_200 (by decide) ?_
          exact ok_less [some (.ref 123), some (.int a1), none] (And.intro rfl (And.intro rfl (trivial))) (ok_X12_claps_J204 N d a1   1 m_193)

set_option maxRecDepth 100000 in
set_option maxHeartbeats 4000000 in
theorem ok_X12_claps_J135 (N d : Nat) (a1 : Int32)    (s2_135 : Int32) (m : Mem) : Ok none SG (d + 6) m_X12_claps 135 [some (.ref 123), some (.int a1), some (.int s2_135)] [] SG m (f_X12_claps_J135 N a1 s2_135 m) := by
  unfold f_X12_claps_J135
  refine ok_aload_n 136 0 dX12_claps_135 rfl rfl rfl ?_
  refine ok_iload_n 137 2 dX12_claps_136 rfl rfl rfl ?_
  refine ok_if_eq 144 140 dX12_claps_137 (by decide) rfl (fun _ => ?_) (fun _ => ?_)
  · refine ok_aload_n 145 0 dX12_claps_144 rfl rfl rfl ?_
    refine ok_iload_n 146 1 dX12_claps_145 rfl rfl rfl ?_
    refine ok_callVi (np := 1) (M' := m_X12_loudOf) (As := [.int a1]) (st := [.ref 123]) 149 dX12_claps_146 rfl rfl km_X12_loudOf ki_X12_loudOf kv_X12_loudOf ml_EncoresModel_341 (by decide) sg_123 rfl (Nat.le_of_ble_eq_true rfl) rfl rfl rfl (Nat.le_of_ble_eq_true rfl) (c_X12_loudOf N (d + 1) a1 m) ⟨Nat.le_refl _, Nat.le_refl _⟩ (Or.inl rfl) rfl (fun r_146 m_146 _ => ?_)
    refine ok_aload_n 150 0 dX12_claps_149 rfl rfl rfl ?_
    refine ok_callVi (np := 0) (M' := m_X12_handsClapping) (As := []) (st := [.int r_146, .ref 123]) 153 dX12_claps_150 rfl rfl km_X12_handsClapping ki_X12_handsClapping kv_X12_handsClapping ml_EncoresModel_344 (by decide) sg_123 rfl (Nat.le_of_ble_eq_true rfl) rfl rfl rfl (Nat.le_of_ble_eq_true rfl) (c_X12_handsClapping N (d + 4) m_146) ⟨Nat.le_refl _, Nat.le_refl _⟩ (Or.inl rfl) rfl (fun r_150 m_150 _ => ?_)
    refine ok_iadd 154 dX12_claps_153 rfl ?_
    exact ok_less [some (.ref 123), some (.int a1), some (.int s2_135)] (And.intro rfl (And.intro rfl (And.intro rfl (trivial)))) (ok_X12_claps_J154 N d a1   s2_135 (r_146 + r_150) m_150)
  · refine ok_iconst 141 0 dX12_claps_140 rfl rfl ?_
    refine ok_goto 154 dX12_claps_141 (by decide) ?_
    exact ok_less [some (.ref 123), some (.int a1), some (.int s2_135)] (And.intro rfl (And.intro rfl (And.intro rfl (trivial)))) (ok_X12_claps_J154 N d a1   s2_135 0 m)

set_option maxRecDepth 100000 in
set_option maxHeartbeats 4000000 in
theorem ok_X12_claps_J123 (N d : Nat) (a1 : Int32)    (t0_123 : Int32) (m : Mem) : Ok none SG (d + 6) m_X12_claps 123 [some (.ref 123), some (.int a1), none] [.int t0_123] SG m (f_X12_claps_J123 N a1 t0_123 m) := by
  unfold f_X12_claps_J123
  refine ok_istore_n 124 2 [some (.ref 123), some (.int a1), some (.int t0_123)] dX12_claps_123 rfl rfl (by decide) rfl ?_
  refine ok_iload_n 125 2 dX12_claps_124 rfl rfl rfl ?_
  refine ok_if_eq 135 128 dX12_claps_125 (by decide) rfl (fun _ => ?_) (fun _ => ?_)
  · exact ok_less [some (.ref 123), some (.int a1), some (.int t0_123)] (And.intro rfl (And.intro rfl (And.intro rfl (trivial)))) (ok_X12_claps_J135 N d a1   t0_123 m)
  · refine ok_aload_n 129 0 dX12_claps_128 rfl rfl rfl ?_
    refine ok_iconst 130 2 dX12_claps_129 rfl rfl ?_
    refine ok_iload_n 131 1 dX12_claps_130 rfl rfl rfl ?_
    refine ok_iconst 132 0 dX12_claps_131 rfl rfl ?_
    refine ok_callVv (np := 3) (M' := m_X12_notes) (As := [.int 2, .int a1, .int 0]) (st := []) 135 dX12_claps_132 rfl rfl km_X12_notes ki_X12_notes kv_X12_notes ml_EncoresModel_337 (by decide) sg_123 rfl (Nat.le_of_ble_eq_true rfl) rfl rfl rfl (Nat.le_of_ble_eq_true rfl) (c_X12_notes N (d + 5) 2 a1 0 m) ⟨Nat.le_refl _, Nat.le_refl _⟩ (Or.inl rfl) rfl (fun _ m_132 _ => ?_)
    exact ok_less [some (.ref 123), some (.int a1), some (.int t0_123)] (And.intro rfl (And.intro rfl (And.intro rfl (trivial)))) (ok_X12_claps_J135 N d a1   t0_123 m_132)

set_option maxRecDepth 100000 in
set_option maxHeartbeats 4000000 in
theorem ok_X12_claps_J122 (N d : Nat) (a1 : Int32)     (m : Mem) : Ok none SG (d + 6) m_X12_claps 122 [some (.ref 123), some (.int a1), none] [] SG m (f_X12_claps_J122 N a1 m) := by
  unfold f_X12_claps_J122
  refine ok_iconst 123 0 dX12_claps_122 rfl rfl ?_
  exact ok_less [some (.ref 123), some (.int a1), none] (And.intro rfl (And.intro rfl (trivial))) (ok_X12_claps_J123 N d a1   0 m)

set_option maxRecDepth 100000 in
set_option maxHeartbeats 4000000 in
theorem ok_X12_claps (N d : Nat) (a1 : Int32)  (m : Mem) : Ok none SG (d + 6) m_X12_claps 0 [some (.ref 123), some (.int a1), none] [] SG m (f_X12_claps N a1 m) := by
  unfold f_X12_claps
  refine ok_iconst 1 0 dX12_claps_0 rfl rfl ?_
  refine ok_istore_n 2 2 [some (.ref 123), some (.int a1), some (.int 0)] dX12_claps_1 rfl rfl (by decide) rfl ?_
  refine ok_less [some (.ref 123), some (.int a1), some (.int 0)] (And.intro rfl (And.intro rfl (And.intro rfl (trivial)))) ?_
  exact ok_X12_claps_L2 N d a1  _ (fun mk53 => by
      refine ok_aload_n 54 0 dX12_claps_53 rfl rfl rfl ?_
      refine ok_iconst 55 0 dX12_claps_54 rfl rfl ?_
      refine ok_putI 58 dX12_claps_55 rfl rfl F_EncoresModel_316 sg_123 rfl (Nat.le_of_ble_eq_true rfl) rfl rfl pZ_12_28 rfl rfl ?_
      refine ok_bndM (fun m_55 => ?_)
      refine ok_aload_n 59 0 dX12_claps_58 rfl rfl rfl ?_
      refine ok_iconst 60 0 dX12_claps_59 rfl rfl ?_
      refine ok_putI 63 dX12_claps_60 rfl rfl F_EncoresModel_331 sg_123 rfl (Nat.le_of_ble_eq_true rfl) rfl rfl pZ_12_29 rfl rfl ?_
      refine ok_bndM (fun m_60 => ?_)
      refine ok_less [some (.ref 123), some (.int a1), none] (And.intro rfl (And.intro rfl (trivial))) ?_
      exact ok_X12_claps_L63 N d a1  _ (fun mk84 => by
          refine ok_aload_n 85 0 dX12_claps_84 rfl rfl rfl ?_
          refine ok_getI 88 dX12_claps_85 rfl rfl F_EncoresModel_303 sg_123 rfl (Nat.le_of_ble_eq_true rfl) rfl ?_
          refine ok_if_eq 122 91 dX12_claps_88 (by decide) rfl (fun _ => ?_) (fun _ => ?_)
          · exact ok_less [some (.ref 123), some (.int a1), none] (And.intro rfl (And.intro rfl (trivial))) (ok_X12_claps_J122 N d a1   mk84)
          · refine ok_aload_n 92 0 dX12_claps_91 rfl rfl rfl ?_
            refine ok_getR 95 dX12_claps_92 rfl rfl F_EncoresModel_7 sg_123 rfl (Nat.le_of_ble_eq_true rfl) rfl rfl ?_
            refine ok_bipush 97 39 dX12_claps_95 rfl rfl ?_
            refine ok_ialdc 98 39 dX12_claps_97 rfl sg_124 (by decide) (by decide) ?_
            refine ok_if_le 122 101 dX12_claps_98 (by decide) rfl (fun _ => ?_) (fun _ => ?_)
            · exact ok_less [some (.ref 123), some (.int a1), none] (And.intro rfl (And.intro rfl (trivial))) (ok_X12_claps_J122 N d a1   mk84)
            · refine ok_aload_n 102 0 dX12_claps_101 rfl rfl rfl ?_
              refine ok_sipush 105 1000 dX12_claps_102 rfl rfl ?_
              refine ok_callVi (np := 1) (M' := m_X12_draw) (As := [.int 1000]) (st := []) 108 dX12_claps_105 rfl rfl km_X12_draw ki_X12_draw kv_X12_draw ml_EncoresModel_328 (by decide) sg_123 rfl (Nat.le_of_ble_eq_true rfl) rfl rfl rfl (Nat.le_of_ble_eq_true rfl) (c_X12_draw N (d + 5) 1000 mk84) ⟨Nat.le_refl _, Nat.le_refl _⟩ (Or.inl rfl) rfl (fun r_105 m_105 _ => ?_)
              refine ok_aload_n 109 0 dX12_claps_108 rfl rfl rfl ?_
              refine ok_getR 112 dX12_claps_109 rfl rfl F_EncoresModel_7 sg_123 rfl (Nat.le_of_ble_eq_true rfl) rfl rfl ?_
              refine ok_bipush 114 39 dX12_claps_112 rfl rfl ?_
              refine ok_ialdc 115 39 dX12_claps_114 rfl sg_124 (by decide) (by decide) ?_
              refine ok_icmp_ge 122 118 dX12_claps_115 (by decide) rfl (fun _ => ?_) (fun _ => ?_)
              · exact ok_less [some (.ref 123), some (.int a1), none] (And.intro rfl (And.intro rfl (trivial))) (ok_X12_claps_J122 N d a1   m_105)
              · refine ok_iconst 119 1 dX12_claps_118 rfl rfl ?_
                refine ok_goto 123 dX12_claps_119 (by decide) ?_
                exact ok_less [some (.ref 123), some (.int a1), none] (And.intro rfl (And.intro rfl (trivial))) (ok_X12_claps_J123 N d a1   1 m_105)) N m_60) N 0 m

theorem c_X12_claps (N d : Nat) (a1 : Int32)  (m : Mem) : CM (d + 6) m_X12_claps SG SG [.ref 123, .int a1] m (f_X12_claps N a1 m) :=
  CM.ofOk km_X12_claps ⟨Nat.le_refl _, Nat.le_refl _⟩ (by simp [Value.category]) (Nat.le_of_ble_eq_true rfl) (ok_X12_claps N d a1 m)

def f_X12_does_L7 (N : Nat) (a1 : Int32)   (X : Int32 → Mem → Ans) (s2_7 : Int32) (m : Mem) : Ans :=
if (m 123 31) = 0 then (some (s2_7, m))
else (bd (f_X12_begins0 N a1 m) fun _ m_16 =>
bd (f_X12_claps N a1 m_16) fun _ m_21 =>
X (s2_7 + 1) m_21)

def f_X12_does (N : Nat) (a1 : Int32) (m : Mem) : Ans :=
bnd (mset m 123 31 1) fun m_4 =>
it1 (f_X12_does_L7 N a1 ) N 0 m_4

set_option maxRecDepth 100000 in
set_option maxHeartbeats 4000000 in
theorem ok_X12_does_L7 (N d : Nat) (a1 : Int32)    : ∀ (n : Nat) (s2_7 : Int32) (m : Mem), Ok none SG (d + 7) m_X12_does 7 [some (.ref 123), some (.int a1), some (.int s2_7)] [] SG m (it1 (f_X12_does_L7 N a1) n s2_7 m) :=
  ok_it1 (fun s2_7 => [some (.ref 123), some (.int a1), some (.int s2_7)]) (fun X hX s2_7 m => by
    try unfold f_X12_does_L7
    refine ok_aload_n 8 0 dX12_does_7 rfl rfl rfl ?_
    refine ok_getI 11 dX12_does_8 rfl rfl F_EncoresModel_358 sg_123 rfl (Nat.le_of_ble_eq_true rfl) rfl ?_
    refine ok_if_eq 30 14 dX12_does_11 (by decide) rfl (fun _ => ?_) (fun _ => ?_)
    · refine ok_iload_n 31 2 dX12_does_30 rfl rfl rfl ?_
      exact ok_iret dX12_does_31 rfl
    · refine ok_aload_n 15 0 dX12_does_14 rfl rfl rfl ?_
      refine ok_iload_n 16 1 dX12_does_15 rfl rfl rfl ?_
      refine ok_callVv (np := 1) (M' := m_X12_begins0) (As := [.int a1]) (st := []) 19 dX12_does_16 rfl rfl km_X12_begins0 ki_X12_begins0 kv_X12_begins0 ml_EncoresModel_361 (by decide) sg_123 rfl (Nat.le_of_ble_eq_true rfl) rfl rfl rfl (Nat.le_of_ble_eq_true rfl) (c_X12_begins0 N (d + 1) a1 m) ⟨Nat.le_refl _, Nat.le_refl _⟩ (Or.inl rfl) rfl (fun _ m_16 _ => ?_)
      refine ok_aload_n 20 0 dX12_does_19 rfl rfl rfl ?_
      refine ok_iload_n 21 1 dX12_does_20 rfl rfl rfl ?_
      refine ok_callVv (np := 1) (M' := m_X12_claps) (As := [.int a1]) (st := []) 24 dX12_does_21 rfl rfl km_X12_claps ki_X12_claps kv_X12_claps ml_EncoresModel_364 (by decide) sg_123 rfl (Nat.le_of_ble_eq_true rfl) rfl rfl rfl (Nat.le_of_ble_eq_true rfl) (c_X12_claps N (d + 0) a1 m_16) ⟨Nat.le_refl _, Nat.le_refl _⟩ (Or.inl rfl) rfl (fun _ m_21 _ => ?_)
      refine ok_iinc 27 2 1 [some (.ref 123), some (.int a1), some (.int (s2_7 + 1))] dX12_does_24 rfl rfl rfl (by decide) rfl ?_
      refine ok_goto 7 dX12_does_27 (by decide) ?_
      exact ok_less [some (.ref 123), some (.int a1), some (.int (s2_7 + 1))] (And.intro rfl (And.intro rfl (And.intro rfl (trivial)))) (hX (s2_7 + 1) m_21))

set_option maxRecDepth 100000 in
set_option maxHeartbeats 4000000 in
theorem ok_X12_does (N d : Nat) (a1 : Int32)  (m : Mem) : Ok none SG (d + 7) m_X12_does 0 [some (.ref 123), some (.int a1), none] [] SG m (f_X12_does N a1 m) := by
  unfold f_X12_does
  refine ok_iconst 1 0 dX12_does_0 rfl rfl ?_
  refine ok_istore_n 2 2 [some (.ref 123), some (.int a1), some (.int 0)] dX12_does_1 rfl rfl (by decide) rfl ?_
  refine ok_aload_n 3 0 dX12_does_2 rfl rfl rfl ?_
  refine ok_iconst 4 1 dX12_does_3 rfl rfl ?_
  refine ok_putZc 7 dX12_does_4 rfl rfl F_EncoresModel_358 sg_123 rfl (Nat.le_of_ble_eq_true rfl) rfl rfl pZ_12_31 rfl ?_
  refine ok_bndM (fun m_4 => ?_)
  refine ok_less [some (.ref 123), some (.int a1), some (.int 0)] (And.intro rfl (And.intro rfl (And.intro rfl (trivial)))) ?_
  exact ok_X12_does_L7 N d a1    N 0 m_4

theorem c_X12_does (N d : Nat) (a1 : Int32)  (m : Mem) : CM (d + 7) m_X12_does SG SG [.ref 123, .int a1] m (f_X12_does N a1 m) :=
  CM.ofOk km_X12_does ⟨Nat.le_refl _, Nat.le_refl _⟩ (by simp [Value.category]) (Nat.le_of_ble_eq_true rfl) (ok_X12_does N d a1 m)

def f_X12_perform (N : Nat) (a1 : Int32) (m : Mem) : Ans :=
bd (f_X12_isDeed N a1 m) fun r_2 m_2 =>
if r_2 = 0 then (some ((-1), m_2))
else (chk (inb ((89 : Int32) + a1) 1707) <|
if ((m_2 124 0) + ((21 : Int32) * (m_2 124 ((89 : Int32) + a1).toNatClampNeg))) < (9999 : Int32) then (bd (f_X12_keeps N m_2) fun _ m_36 =>
bd (f_X12_does N a1 m_36) fun r_41 m_41 =>
some (r_41, m_41))
else (some ((-1), m_2)))

set_option maxRecDepth 100000 in
set_option maxHeartbeats 4000000 in
theorem ok_X12_perform (N d : Nat) (a1 : Int32)  (m : Mem) : Ok none SG (d + 8) m_X12_perform 0 [some (.ref 123), some (.int a1)] [] SG m (f_X12_perform N a1 m) := by
  unfold f_X12_perform
  refine ok_aload_n 1 0 dX12_perform_0 rfl rfl rfl ?_
  refine ok_iload_n 2 1 dX12_perform_1 rfl rfl rfl ?_
  refine ok_callVi (np := 1) (M' := m_X12_isDeed) (As := [.int a1]) (st := []) 5 dX12_perform_2 rfl rfl km_X12_isDeed ki_X12_isDeed kv_X12_isDeed ml_EncoresModel_72 (by decide) sg_123 rfl (Nat.le_of_ble_eq_true rfl) rfl rfl rfl (Nat.le_of_ble_eq_true rfl) (c_X12_isDeed N (d + 6) a1 m) ⟨Nat.le_refl _, Nat.le_refl _⟩ (Or.inl rfl) rfl (fun r_2 m_2 _ => ?_)
  refine ok_if_eq 33 8 dX12_perform_5 (by decide) rfl (fun _ => ?_) (fun _ => ?_)
  · refine ok_iconst 34 (-1) dX12_perform_33 rfl rfl ?_
    exact ok_iret dX12_perform_34 rfl
  · refine ok_aload_n 9 0 dX12_perform_8 rfl rfl rfl ?_
    refine ok_getR 12 dX12_perform_9 rfl rfl F_EncoresModel_7 sg_123 rfl (Nat.le_of_ble_eq_true rfl) rfl rfl ?_
    refine ok_iconst 13 0 dX12_perform_12 rfl rfl ?_
    refine ok_ialdc 14 0 dX12_perform_13 rfl sg_124 (by decide) (by decide) ?_
    refine ok_bipush 16 21 dX12_perform_14 rfl rfl ?_
    refine ok_aload_n 17 0 dX12_perform_16 rfl rfl rfl ?_
    refine ok_getR 20 dX12_perform_17 rfl rfl F_EncoresModel_7 sg_123 rfl (Nat.le_of_ble_eq_true rfl) rfl rfl ?_
    refine ok_bipush 22 89 dX12_perform_20 rfl rfl ?_
    refine ok_iload_n 23 1 dX12_perform_22 rfl rfl rfl ?_
    refine ok_iadd 24 dX12_perform_23 rfl ?_
    refine ok_iald 25 dX12_perform_24 rfl sg_124 ?_
    refine ok_imul 26 dX12_perform_25 rfl ?_
    refine ok_iadd 27 dX12_perform_26 rfl ?_
    refine ok_sipush 30 9999 dX12_perform_27 rfl rfl ?_
    refine ok_icmp_lt 35 33 dX12_perform_30 (by decide) rfl (fun _ => ?_) (fun _ => ?_)
    · refine ok_aload_n 36 0 dX12_perform_35 rfl rfl rfl ?_
      refine ok_callVv (np := 0) (M' := m_X12_keeps) (As := []) (st := []) 39 dX12_perform_36 rfl rfl km_X12_keeps ki_X12_keeps kv_X12_keeps ml_EncoresModel_367 (by decide) sg_123 rfl (Nat.le_of_ble_eq_true rfl) rfl rfl rfl (Nat.le_of_ble_eq_true rfl) (c_X12_keeps N (d + 7) m_2) ⟨Nat.le_refl _, Nat.le_refl _⟩ (Or.inl rfl) rfl (fun _ m_36 _ => ?_)
      refine ok_aload_n 40 0 dX12_perform_39 rfl rfl rfl ?_
      refine ok_iload_n 41 1 dX12_perform_40 rfl rfl rfl ?_
      refine ok_callVi (np := 1) (M' := m_X12_does) (As := [.int a1]) (st := []) 44 dX12_perform_41 rfl rfl km_X12_does ki_X12_does kv_X12_does ml_EncoresModel_370 (by decide) sg_123 rfl (Nat.le_of_ble_eq_true rfl) rfl rfl rfl (Nat.le_of_ble_eq_true rfl) (c_X12_does N (d + 0) a1 m_36) ⟨Nat.le_refl _, Nat.le_refl _⟩ (Or.inl rfl) rfl (fun r_41 m_41 _ => ?_)
      exact ok_iret dX12_perform_44 rfl
    · refine ok_iconst 34 (-1) dX12_perform_33 rfl rfl ?_
      exact ok_iret dX12_perform_34 rfl

theorem c_X12_perform (N d : Nat) (a1 : Int32)  (m : Mem) : CM (d + 8) m_X12_perform SG SG [.ref 123, .int a1] m (f_X12_perform N a1 m) :=
  CM.ofOk km_X12_perform ⟨Nat.le_refl _, Nat.le_refl _⟩ (by simp [Value.category]) (Nat.le_of_ble_eq_true rfl) (ok_X12_perform N d a1 m)

def f_X12_pay (N : Nat) (a1 : Int32) (a2 : Int32) (m : Mem) : Ans :=
bd (f_X12_isHearer N a1 m) fun r_2 m_2 =>
if r_2 = 0 then (some (0, m_2))
else (bd (f_X12_isIn N a2 1 99 m_2) fun r_12 m_12 =>
if r_12 = 0 then (some (0, m_12))
else (bd (f_X12_keeps N m_12) fun _ m_21 =>
chk (inb ((9 : Int32) + a1) 1707) <|
bd (f_X12_lesser N 99 ((m_21 124 ((9 : Int32) + a1).toNatClampNeg) + a2) m_21) fun r_45 m_45 =>
chk (inb ((9 : Int32) + a1) 1707) <|
bnd (mset m_45 124 ((9 : Int32) + a1).toNatClampNeg r_45) fun m_48 =>
bnd (mset m_48 124 2 ((m_48 124 2) - a2)) fun m_58 =>
bd (f_X12_notes N 3 a1 a2 m_58) fun _ m_63 =>
some (1, m_63)))

set_option maxRecDepth 100000 in
set_option maxHeartbeats 4000000 in
theorem ok_X12_pay (N d : Nat) (a1 : Int32) (a2 : Int32)  (m : Mem) : Ok none SG (d + 2) m_X12_pay 0 [some (.ref 123), some (.int a1), some (.int a2)] [] SG m (f_X12_pay N a1 a2 m) := by
  unfold f_X12_pay
  refine ok_aload_n 1 0 dX12_pay_0 rfl rfl rfl ?_
  refine ok_iload_n 2 1 dX12_pay_1 rfl rfl rfl ?_
  refine ok_callVi (np := 1) (M' := m_X12_isHearer) (As := [.int a1]) (st := []) 5 dX12_pay_2 rfl rfl km_X12_isHearer ki_X12_isHearer kv_X12_isHearer ml_EncoresModel_68 (by decide) sg_123 rfl (Nat.le_of_ble_eq_true rfl) rfl rfl rfl (Nat.le_of_ble_eq_true rfl) (c_X12_isHearer N (d + 0) a1 m) ⟨Nat.le_refl _, Nat.le_refl _⟩ (Or.inl rfl) rfl (fun r_2 m_2 _ => ?_)
  refine ok_if_eq 18 8 dX12_pay_5 (by decide) rfl (fun _ => ?_) (fun _ => ?_)
  · refine ok_iconst 19 0 dX12_pay_18 rfl rfl ?_
    exact ok_zretc dX12_pay_19 rfl rfl
  · refine ok_iload_n 9 2 dX12_pay_8 rfl rfl rfl ?_
    refine ok_iconst 10 1 dX12_pay_9 rfl rfl ?_
    refine ok_bipush 12 99 dX12_pay_10 rfl rfl ?_
    refine ok_callSi (np := 3) (M' := m_X12_isIn) (As := [.int a2, .int 1, .int 99]) (st := []) 15 dX12_pay_12 rfl rfl km_X12_isIn ks_X12_isIn ml_EncoresModel_56 (by decide) rfl rfl (Nat.le_of_ble_eq_true rfl) (c_X12_isIn N (d + 1) a2 1 99 m_2) ⟨Nat.le_refl _, Nat.le_refl _⟩ (Or.inl rfl) rfl (fun r_12 m_12 _ => ?_)
    refine ok_if_ne 20 18 dX12_pay_15 (by decide) rfl (fun _ => ?_) (fun _ => ?_)
    · refine ok_aload_n 21 0 dX12_pay_20 rfl rfl rfl ?_
      refine ok_callVv (np := 0) (M' := m_X12_keeps) (As := []) (st := []) 24 dX12_pay_21 rfl rfl km_X12_keeps ki_X12_keeps kv_X12_keeps ml_EncoresModel_367 (by decide) sg_123 rfl (Nat.le_of_ble_eq_true rfl) rfl rfl rfl (Nat.le_of_ble_eq_true rfl) (c_X12_keeps N (d + 1) m_12) ⟨Nat.le_refl _, Nat.le_refl _⟩ (Or.inl rfl) rfl (fun _ m_21 _ => ?_)
      refine ok_aload_n 25 0 dX12_pay_24 rfl rfl rfl ?_
      refine ok_getR 28 dX12_pay_25 rfl rfl F_EncoresModel_7 sg_123 rfl (Nat.le_of_ble_eq_true rfl) rfl rfl ?_
      refine ok_bipush 30 9 dX12_pay_28 rfl rfl ?_
      refine ok_iload_n 31 1 dX12_pay_30 rfl rfl rfl ?_
      refine ok_iadd 32 dX12_pay_31 rfl ?_
      refine ok_bipush 34 99 dX12_pay_32 rfl rfl ?_
      refine ok_aload_n 35 0 dX12_pay_34 rfl rfl rfl ?_
      refine ok_getR 38 dX12_pay_35 rfl rfl F_EncoresModel_7 sg_123 rfl (Nat.le_of_ble_eq_true rfl) rfl rfl ?_
      refine ok_bipush 40 9 dX12_pay_38 rfl rfl ?_
      refine ok_iload_n 41 1 dX12_pay_40 rfl rfl rfl ?_
      refine ok_iadd 42 dX12_pay_41 rfl ?_
      refine ok_iald 43 dX12_pay_42 rfl sg_124 ?_
      refine ok_iload_n 44 2 dX12_pay_43 rfl rfl rfl ?_
      refine ok_iadd 45 dX12_pay_44 rfl ?_
      refine ok_callSi (np := 2) (M' := m_X12_lesser) (As := [.int 99, .int ((m_21 124 ((9 : Int32) + a1).toNatClampNeg) + a2)]) (st := [.int ((9 : Int32) + a1), .ref 124]) 48 dX12_pay_45 rfl rfl km_X12_lesser ks_X12_lesser ml_EncoresModel_286 (by decide) rfl rfl (Nat.le_of_ble_eq_true rfl) (c_X12_lesser N (d + 1) 99 ((m_21 124 ((9 : Int32) + a1).toNatClampNeg) + a2) m_21) ⟨Nat.le_refl _, Nat.le_refl _⟩ (Or.inl rfl) rfl (fun r_45 m_45 _ => ?_)
      refine ok_iast 49 dX12_pay_48 rfl sg_124 ?_
      refine ok_bndM (fun m_48 => ?_)
      refine ok_aload_n 50 0 dX12_pay_49 rfl rfl rfl ?_
      refine ok_getR 53 dX12_pay_50 rfl rfl F_EncoresModel_7 sg_123 rfl (Nat.le_of_ble_eq_true rfl) rfl rfl ?_
      refine ok_iconst 54 2 dX12_pay_53 rfl rfl ?_
      refine ok_dup2 55 dX12_pay_54 rfl rfl rfl ?_
      refine ok_ialdc 56 2 dX12_pay_55 rfl sg_124 (by decide) (by decide) ?_
      refine ok_iload_n 57 2 dX12_pay_56 rfl rfl rfl ?_
      refine ok_isub 58 dX12_pay_57 rfl ?_
      refine ok_iastc 59 2 dX12_pay_58 rfl sg_124 (by decide) (by decide) ?_
      refine ok_bndM (fun m_58 => ?_)
      refine ok_aload_n 60 0 dX12_pay_59 rfl rfl rfl ?_
      refine ok_iconst 61 3 dX12_pay_60 rfl rfl ?_
      refine ok_iload_n 62 1 dX12_pay_61 rfl rfl rfl ?_
      refine ok_iload_n 63 2 dX12_pay_62 rfl rfl rfl ?_
      refine ok_callVv (np := 3) (M' := m_X12_notes) (As := [.int 3, .int a1, .int a2]) (st := []) 66 dX12_pay_63 rfl rfl km_X12_notes ki_X12_notes kv_X12_notes ml_EncoresModel_337 (by decide) sg_123 rfl (Nat.le_of_ble_eq_true rfl) rfl rfl rfl (Nat.le_of_ble_eq_true rfl) (c_X12_notes N (d + 1) 3 a1 a2 m_58) ⟨Nat.le_refl _, Nat.le_refl _⟩ (Or.inl rfl) rfl (fun _ m_63 _ => ?_)
      refine ok_iconst 67 1 dX12_pay_66 rfl rfl ?_
      exact ok_zretc dX12_pay_67 rfl rfl
    · refine ok_iconst 19 0 dX12_pay_18 rfl rfl ?_
      exact ok_zretc dX12_pay_19 rfl rfl

theorem c_X12_pay (N d : Nat) (a1 : Int32) (a2 : Int32)  (m : Mem) : CM (d + 2) m_X12_pay SG SG [.ref 123, .int a1, .int a2] m (f_X12_pay N a1 a2 m) :=
  CM.ofOk km_X12_pay ⟨Nat.le_refl _, Nat.le_refl _⟩ (by simp [Value.category]) (Nat.le_of_ble_eq_true rfl) (ok_X12_pay N d a1 a2 m)

def f_X12_glove (N : Nat) (a1 : Int32) (a2 : Int32) (m : Mem) : Ans :=
bd (f_X12_isHearer N a1 m) fun r_2 m_2 =>
if r_2 = 0 then (some (0, m_2))
else (bd (f_X12_isGloved N a1 m_2) fun r_10 m_10 =>
if r_10 = a2 then (some (0, m_10))
else (bd (f_X12_keeps N m_10) fun _ m_20 =>
bnd (mset m_20 124 8 ((m_20 124 8) ^^^ ((1 : Int32) <<< (a1 &&& 31)))) fun m_35 =>
if a2 = 0 then (bd (f_X12_notes N 4 a1 0 m_35) fun _ m_48 =>
some (1, m_48))
else (bd (f_X12_notes N 4 a1 1 m_35) fun _ m_48 =>
some (1, m_48))))

set_option maxRecDepth 100000 in
set_option maxHeartbeats 4000000 in
theorem ok_X12_glove (N d : Nat) (a1 : Int32) (a2 : Int32)  (m : Mem) : Ok none SG (d + 2) m_X12_glove 0 [some (.ref 123), some (.int a1), some (.int a2)] [] SG m (f_X12_glove N a1 a2 m) := by
  unfold f_X12_glove
  refine ok_aload_n 1 0 dX12_glove_0 rfl rfl rfl ?_
  refine ok_iload_n 2 1 dX12_glove_1 rfl rfl rfl ?_
  refine ok_callVi (np := 1) (M' := m_X12_isHearer) (As := [.int a1]) (st := []) 5 dX12_glove_2 rfl rfl km_X12_isHearer ki_X12_isHearer kv_X12_isHearer ml_EncoresModel_68 (by decide) sg_123 rfl (Nat.le_of_ble_eq_true rfl) rfl rfl rfl (Nat.le_of_ble_eq_true rfl) (c_X12_isHearer N (d + 0) a1 m) ⟨Nat.le_refl _, Nat.le_refl _⟩ (Or.inl rfl) rfl (fun r_2 m_2 _ => ?_)
  refine ok_if_eq 17 8 dX12_glove_5 (by decide) rfl (fun _ => ?_) (fun _ => ?_)
  · refine ok_iconst 18 0 dX12_glove_17 rfl rfl ?_
    exact ok_zretc dX12_glove_18 rfl rfl
  · refine ok_aload_n 9 0 dX12_glove_8 rfl rfl rfl ?_
    refine ok_iload_n 10 1 dX12_glove_9 rfl rfl rfl ?_
    refine ok_callVi (np := 1) (M' := m_X12_isGloved) (As := [.int a1]) (st := []) 13 dX12_glove_10 rfl rfl km_X12_isGloved ki_X12_isGloved kv_X12_isGloved ml_EncoresModel_313 (by decide) sg_123 rfl (Nat.le_of_ble_eq_true rfl) rfl rfl rfl (Nat.le_of_ble_eq_true rfl) (c_X12_isGloved N (d + 1) a1 m_2) ⟨Nat.le_refl _, Nat.le_refl _⟩ (Or.inl rfl) rfl (fun r_10 m_10 _ => ?_)
    refine ok_iload_n 14 2 dX12_glove_13 rfl rfl rfl ?_
    refine ok_icmp_ne 19 17 dX12_glove_14 (by decide) rfl (fun _ => ?_) (fun _ => ?_)
    · refine ok_aload_n 20 0 dX12_glove_19 rfl rfl rfl ?_
      refine ok_callVv (np := 0) (M' := m_X12_keeps) (As := []) (st := []) 23 dX12_glove_20 rfl rfl km_X12_keeps ki_X12_keeps kv_X12_keeps ml_EncoresModel_367 (by decide) sg_123 rfl (Nat.le_of_ble_eq_true rfl) rfl rfl rfl (Nat.le_of_ble_eq_true rfl) (c_X12_keeps N (d + 1) m_10) ⟨Nat.le_refl _, Nat.le_refl _⟩ (Or.inl rfl) rfl (fun _ m_20 _ => ?_)
      refine ok_aload_n 24 0 dX12_glove_23 rfl rfl rfl ?_
      refine ok_getR 27 dX12_glove_24 rfl rfl F_EncoresModel_7 sg_123 rfl (Nat.le_of_ble_eq_true rfl) rfl rfl ?_
      refine ok_bipush 29 8 dX12_glove_27 rfl rfl ?_
      refine ok_dup2 30 dX12_glove_29 rfl rfl rfl ?_
      refine ok_ialdc 31 8 dX12_glove_30 rfl sg_124 (by decide) (by decide) ?_
      refine ok_iconst 32 1 dX12_glove_31 rfl rfl ?_
      refine ok_iload_n 33 1 dX12_glove_32 rfl rfl rfl ?_
      refine ok_ishl 34 dX12_glove_33 rfl ?_
      refine ok_ixor 35 dX12_glove_34 rfl ?_
      refine ok_iastc 36 8 dX12_glove_35 rfl sg_124 (by decide) (by decide) ?_
      refine ok_bndM (fun m_35 => ?_)
      refine ok_aload_n 37 0 dX12_glove_36 rfl rfl rfl ?_
      refine ok_iconst 38 4 dX12_glove_37 rfl rfl ?_
      refine ok_iload_n 39 1 dX12_glove_38 rfl rfl rfl ?_
      refine ok_iload_n 40 2 dX12_glove_39 rfl rfl rfl ?_
      refine ok_if_eq 47 43 dX12_glove_40 (by decide) rfl (fun _ => ?_) (fun _ => ?_)
      · refine ok_iconst 48 0 dX12_glove_47 rfl rfl ?_
        refine ok_callVv (np := 3) (M' := m_X12_notes) (As := [.int 4, .int a1, .int 0]) (st := []) 51 dX12_glove_48 rfl rfl km_X12_notes ki_X12_notes kv_X12_notes ml_EncoresModel_337 (by decide) sg_123 rfl (Nat.le_of_ble_eq_true rfl) rfl rfl rfl (Nat.le_of_ble_eq_true rfl) (c_X12_notes N (d + 1) 4 a1 0 m_35) ⟨Nat.le_refl _, Nat.le_refl _⟩ (Or.inl rfl) rfl (fun _ m_48 _ => ?_)
        refine ok_iconst 52 1 dX12_glove_51 rfl rfl ?_
        exact ok_zretc dX12_glove_52 rfl rfl
      · refine ok_iconst 44 1 dX12_glove_43 rfl rfl ?_
        refine ok_goto 48 dX12_glove_44 (by decide) ?_
        refine ok_callVv (np := 3) (M' := m_X12_notes) (As := [.int 4, .int a1, .int 1]) (st := []) 51 dX12_glove_48 rfl rfl km_X12_notes ki_X12_notes kv_X12_notes ml_EncoresModel_337 (by decide) sg_123 rfl (Nat.le_of_ble_eq_true rfl) rfl rfl rfl (Nat.le_of_ble_eq_true rfl) (c_X12_notes N (d + 1) 4 a1 1 m_35) ⟨Nat.le_refl _, Nat.le_refl _⟩ (Or.inl rfl) rfl (fun _ m_48 _ => ?_)
        refine ok_iconst 52 1 dX12_glove_51 rfl rfl ?_
        exact ok_zretc dX12_glove_52 rfl rfl
    · refine ok_iconst 18 0 dX12_glove_17 rfl rfl ?_
      exact ok_zretc dX12_glove_18 rfl rfl

theorem c_X12_glove (N d : Nat) (a1 : Int32) (a2 : Int32)  (m : Mem) : CM (d + 2) m_X12_glove SG SG [.ref 123, .int a1, .int a2] m (f_X12_glove N a1 a2 m) :=
  CM.ofOk km_X12_glove ⟨Nat.le_refl _, Nat.le_refl _⟩ (by simp [Value.category]) (Nat.le_of_ble_eq_true rfl) (ok_X12_glove N d a1 a2 m)

def f_X12_let (N : Nat) (a1 : Int32) (a2 : Int32) (m : Mem) : Ans :=
bd (f_X12_isHearer N a1 m) fun r_2 m_2 =>
if r_2 = 0 then (some (0, m_2))
else (bd (f_X12_isThere N a1 m_2) fun r_10 m_10 =>
if r_10 = a2 then (some (0, m_10))
else (bd (f_X12_keeps N m_10) fun _ m_20 =>
bnd (mset m_20 124 7 ((m_20 124 7) ^^^ ((1 : Int32) <<< (a1 &&& 31)))) fun m_35 =>
if a2 = 0 then (bd (f_X12_notes N 5 a1 0 m_35) fun _ m_48 =>
some (1, m_48))
else (bd (f_X12_notes N 5 a1 1 m_35) fun _ m_48 =>
some (1, m_48))))

set_option maxRecDepth 100000 in
set_option maxHeartbeats 4000000 in
theorem ok_X12_let (N d : Nat) (a1 : Int32) (a2 : Int32)  (m : Mem) : Ok none SG (d + 2) m_X12_let 0 [some (.ref 123), some (.int a1), some (.int a2)] [] SG m (f_X12_let N a1 a2 m) := by
  unfold f_X12_let
  refine ok_aload_n 1 0 dX12_let_0 rfl rfl rfl ?_
  refine ok_iload_n 2 1 dX12_let_1 rfl rfl rfl ?_
  refine ok_callVi (np := 1) (M' := m_X12_isHearer) (As := [.int a1]) (st := []) 5 dX12_let_2 rfl rfl km_X12_isHearer ki_X12_isHearer kv_X12_isHearer ml_EncoresModel_68 (by decide) sg_123 rfl (Nat.le_of_ble_eq_true rfl) rfl rfl rfl (Nat.le_of_ble_eq_true rfl) (c_X12_isHearer N (d + 0) a1 m) ⟨Nat.le_refl _, Nat.le_refl _⟩ (Or.inl rfl) rfl (fun r_2 m_2 _ => ?_)
  refine ok_if_eq 17 8 dX12_let_5 (by decide) rfl (fun _ => ?_) (fun _ => ?_)
  · refine ok_iconst 18 0 dX12_let_17 rfl rfl ?_
    exact ok_zretc dX12_let_18 rfl rfl
  · refine ok_aload_n 9 0 dX12_let_8 rfl rfl rfl ?_
    refine ok_iload_n 10 1 dX12_let_9 rfl rfl rfl ?_
    refine ok_callVi (np := 1) (M' := m_X12_isThere) (As := [.int a1]) (st := []) 13 dX12_let_10 rfl rfl km_X12_isThere ki_X12_isThere kv_X12_isThere ml_EncoresModel_310 (by decide) sg_123 rfl (Nat.le_of_ble_eq_true rfl) rfl rfl rfl (Nat.le_of_ble_eq_true rfl) (c_X12_isThere N (d + 1) a1 m_2) ⟨Nat.le_refl _, Nat.le_refl _⟩ (Or.inl rfl) rfl (fun r_10 m_10 _ => ?_)
    refine ok_iload_n 14 2 dX12_let_13 rfl rfl rfl ?_
    refine ok_icmp_ne 19 17 dX12_let_14 (by decide) rfl (fun _ => ?_) (fun _ => ?_)
    · refine ok_aload_n 20 0 dX12_let_19 rfl rfl rfl ?_
      refine ok_callVv (np := 0) (M' := m_X12_keeps) (As := []) (st := []) 23 dX12_let_20 rfl rfl km_X12_keeps ki_X12_keeps kv_X12_keeps ml_EncoresModel_367 (by decide) sg_123 rfl (Nat.le_of_ble_eq_true rfl) rfl rfl rfl (Nat.le_of_ble_eq_true rfl) (c_X12_keeps N (d + 1) m_10) ⟨Nat.le_refl _, Nat.le_refl _⟩ (Or.inl rfl) rfl (fun _ m_20 _ => ?_)
      refine ok_aload_n 24 0 dX12_let_23 rfl rfl rfl ?_
      refine ok_getR 27 dX12_let_24 rfl rfl F_EncoresModel_7 sg_123 rfl (Nat.le_of_ble_eq_true rfl) rfl rfl ?_
      refine ok_bipush 29 7 dX12_let_27 rfl rfl ?_
      refine ok_dup2 30 dX12_let_29 rfl rfl rfl ?_
      refine ok_ialdc 31 7 dX12_let_30 rfl sg_124 (by decide) (by decide) ?_
      refine ok_iconst 32 1 dX12_let_31 rfl rfl ?_
      refine ok_iload_n 33 1 dX12_let_32 rfl rfl rfl ?_
      refine ok_ishl 34 dX12_let_33 rfl ?_
      refine ok_ixor 35 dX12_let_34 rfl ?_
      refine ok_iastc 36 7 dX12_let_35 rfl sg_124 (by decide) (by decide) ?_
      refine ok_bndM (fun m_35 => ?_)
      refine ok_aload_n 37 0 dX12_let_36 rfl rfl rfl ?_
      refine ok_iconst 38 5 dX12_let_37 rfl rfl ?_
      refine ok_iload_n 39 1 dX12_let_38 rfl rfl rfl ?_
      refine ok_iload_n 40 2 dX12_let_39 rfl rfl rfl ?_
      refine ok_if_eq 47 43 dX12_let_40 (by decide) rfl (fun _ => ?_) (fun _ => ?_)
      · refine ok_iconst 48 0 dX12_let_47 rfl rfl ?_
        refine ok_callVv (np := 3) (M' := m_X12_notes) (As := [.int 5, .int a1, .int 0]) (st := []) 51 dX12_let_48 rfl rfl km_X12_notes ki_X12_notes kv_X12_notes ml_EncoresModel_337 (by decide) sg_123 rfl (Nat.le_of_ble_eq_true rfl) rfl rfl rfl (Nat.le_of_ble_eq_true rfl) (c_X12_notes N (d + 1) 5 a1 0 m_35) ⟨Nat.le_refl _, Nat.le_refl _⟩ (Or.inl rfl) rfl (fun _ m_48 _ => ?_)
        refine ok_iconst 52 1 dX12_let_51 rfl rfl ?_
        exact ok_zretc dX12_let_52 rfl rfl
      · refine ok_iconst 44 1 dX12_let_43 rfl rfl ?_
        refine ok_goto 48 dX12_let_44 (by decide) ?_
        refine ok_callVv (np := 3) (M' := m_X12_notes) (As := [.int 5, .int a1, .int 1]) (st := []) 51 dX12_let_48 rfl rfl km_X12_notes ki_X12_notes kv_X12_notes ml_EncoresModel_337 (by decide) sg_123 rfl (Nat.le_of_ble_eq_true rfl) rfl rfl rfl (Nat.le_of_ble_eq_true rfl) (c_X12_notes N (d + 1) 5 a1 1 m_35) ⟨Nat.le_refl _, Nat.le_refl _⟩ (Or.inl rfl) rfl (fun _ m_48 _ => ?_)
        refine ok_iconst 52 1 dX12_let_51 rfl rfl ?_
        exact ok_zretc dX12_let_52 rfl rfl
    · refine ok_iconst 18 0 dX12_let_17 rfl rfl ?_
      exact ok_zretc dX12_let_18 rfl rfl

theorem c_X12_let (N d : Nat) (a1 : Int32) (a2 : Int32)  (m : Mem) : CM (d + 2) m_X12_let SG SG [.ref 123, .int a1, .int a2] m (f_X12_let N a1 a2 m) :=
  CM.ofOk km_X12_let ⟨Nat.le_refl _, Nat.le_refl _⟩ (by simp [Value.category]) (Nat.le_of_ble_eq_true rfl) (ok_X12_let N d a1 a2 m)

def f_X12_anEvening_L25 (N : Nat)    (X : Int32 → Int32 → Mem → Ans) (s1_25 : Int32) (s2_25 : Int32) (m : Mem) : Ans :=
if (m 124 42) ≤ s2_25 then (bnd (mset m 124 1 ((m 124 1) + (1 : Int32))) fun m_112 =>
some (s1_25, m_112))
else (chk (inb ((153 : Int32) + ((2 : Int32) * s2_25)) 1707) <|
bd (f_X12_greater N (m 124 0) (m 124 ((153 : Int32) + ((2 : Int32) * s2_25)).toNatClampNeg) m) fun r_59 m_59 =>
bnd (mset m_59 124 0 r_59) fun m_62 =>
bd (f_X12_endsAt N m_62) fun r_70 m_70 =>
if r_70 ≤ (m_62 124 0) then (X s1_25 (s2_25 + 1) m_70)
else (chk (inb (((153 : Int32) + ((2 : Int32) * s2_25)) + (1 : Int32)) 1707) <|
bd (f_X12_does N (m_70 124 (((153 : Int32) + ((2 : Int32) * s2_25)) + (1 : Int32)).toNatClampNeg) m_70) fun r_92 m_92 =>
bnd (s1_25 + r_92) fun a1_96 =>
X a1_96 (s2_25 + 1) m_92))

def f_X12_anEvening (N : Nat)  (m : Mem) : Ans :=
bnd (mset m 124 0 0) fun m_6 =>
bnd (mset m_6 124 3 (-1)) fun m_13 =>
bnd (mset m_13 124 4 0) fun m_20 =>
it2 (f_X12_anEvening_L25 N ) N 0 0 m_20

set_option maxRecDepth 100000 in
set_option maxHeartbeats 4000000 in
theorem ok_X12_anEvening_L25 (N d : Nat)     : ∀ (n : Nat) (s1_25 : Int32) (s2_25 : Int32) (m : Mem), Ok none SG (d + 8) m_X12_anEvening 25 [some (.ref 123), some (.int s1_25), some (.int s2_25)] [] SG m (it2 (f_X12_anEvening_L25 N) n s1_25 s2_25 m) :=
  ok_it2 (fun s1_25 s2_25 => [some (.ref 123), some (.int s1_25), some (.int s2_25)]) (fun X hX s1_25 s2_25 m => by
    try unfold f_X12_anEvening_L25
    refine ok_iload_n 26 2 dX12_anEvening_25 rfl rfl rfl ?_
    refine ok_aload_n 27 0 dX12_anEvening_26 rfl rfl rfl ?_
    refine ok_getR 30 dX12_anEvening_27 rfl rfl F_EncoresModel_7 sg_123 rfl (Nat.le_of_ble_eq_true rfl) rfl rfl ?_
    refine ok_bipush 32 42 dX12_anEvening_30 rfl rfl ?_
    refine ok_ialdc 33 42 dX12_anEvening_32 rfl sg_124 (by decide) (by decide) ?_
    refine ok_icmp_ge 103 36 dX12_anEvening_33 (by decide) rfl (fun _ => ?_) (fun _ => ?_)
    · refine ok_aload_n 104 0 dX12_anEvening_103 rfl rfl rfl ?_
      refine ok_getR 107 dX12_anEvening_104 rfl rfl F_EncoresModel_7 sg_123 rfl (Nat.le_of_ble_eq_true rfl) rfl rfl ?_
      refine ok_iconst 108 1 dX12_anEvening_107 rfl rfl ?_
      refine ok_dup2 109 dX12_anEvening_108 rfl rfl rfl ?_
      refine ok_ialdc 110 1 dX12_anEvening_109 rfl sg_124 (by decide) (by decide) ?_
      refine ok_iconst 111 1 dX12_anEvening_110 rfl rfl ?_
      refine ok_iadd 112 dX12_anEvening_111 rfl ?_
      refine ok_iastc 113 1 dX12_anEvening_112 rfl sg_124 (by decide) (by decide) ?_
      refine ok_bndM (fun m_112 => ?_)
      refine ok_iload_n 114 1 dX12_anEvening_113 rfl rfl rfl ?_
      exact ok_iret dX12_anEvening_114 rfl
    · refine ok_aload_n 37 0 dX12_anEvening_36 rfl rfl rfl ?_
      refine ok_getR 40 dX12_anEvening_37 rfl rfl F_EncoresModel_7 sg_123 rfl (Nat.le_of_ble_eq_true rfl) rfl rfl ?_
      refine ok_iconst 41 0 dX12_anEvening_40 rfl rfl ?_
      refine ok_aload_n 42 0 dX12_anEvening_41 rfl rfl rfl ?_
      refine ok_getR 45 dX12_anEvening_42 rfl rfl F_EncoresModel_7 sg_123 rfl (Nat.le_of_ble_eq_true rfl) rfl rfl ?_
      refine ok_iconst 46 0 dX12_anEvening_45 rfl rfl ?_
      refine ok_ialdc 47 0 dX12_anEvening_46 rfl sg_124 (by decide) (by decide) ?_
      refine ok_aload_n 48 0 dX12_anEvening_47 rfl rfl rfl ?_
      refine ok_getR 51 dX12_anEvening_48 rfl rfl F_EncoresModel_7 sg_123 rfl (Nat.le_of_ble_eq_true rfl) rfl rfl ?_
      refine ok_sipush 54 153 dX12_anEvening_51 rfl rfl ?_
      refine ok_iconst 55 2 dX12_anEvening_54 rfl rfl ?_
      refine ok_iload_n 56 2 dX12_anEvening_55 rfl rfl rfl ?_
      refine ok_imul 57 dX12_anEvening_56 rfl ?_
      refine ok_iadd 58 dX12_anEvening_57 rfl ?_
      refine ok_iald 59 dX12_anEvening_58 rfl sg_124 ?_
      refine ok_callSi (np := 2) (M' := m_X12_greater) (As := [.int (m 124 0), .int (m 124 ((153 : Int32) + ((2 : Int32) * s2_25)).toNatClampNeg)]) (st := [.int 0, .ref 124]) 62 dX12_anEvening_59 rfl rfl km_X12_greater ks_X12_greater ml_EncoresModel_290 (by decide) rfl rfl (Nat.le_of_ble_eq_true rfl) (c_X12_greater N (d + 7) (m 124 0) (m 124 ((153 : Int32) + ((2 : Int32) * s2_25)).toNatClampNeg) m) ⟨Nat.le_refl _, Nat.le_refl _⟩ (Or.inl rfl) rfl (fun r_59 m_59 _ => ?_)
      refine ok_iastc 63 0 dX12_anEvening_62 rfl sg_124 (by decide) (by decide) ?_
      refine ok_bndM (fun m_62 => ?_)
      refine ok_aload_n 64 0 dX12_anEvening_63 rfl rfl rfl ?_
      refine ok_getR 67 dX12_anEvening_64 rfl rfl F_EncoresModel_7 sg_123 rfl (Nat.le_of_ble_eq_true rfl) rfl rfl ?_
      refine ok_iconst 68 0 dX12_anEvening_67 rfl rfl ?_
      refine ok_ialdc 69 0 dX12_anEvening_68 rfl sg_124 (by decide) (by decide) ?_
      refine ok_aload_n 70 0 dX12_anEvening_69 rfl rfl rfl ?_
      refine ok_callVi (np := 0) (M' := m_X12_endsAt) (As := []) (st := [.int (m_62 124 0)]) 73 dX12_anEvening_70 rfl rfl km_X12_endsAt ki_X12_endsAt kv_X12_endsAt ml_EncoresModel_355 (by decide) sg_123 rfl (Nat.le_of_ble_eq_true rfl) rfl rfl rfl (Nat.le_of_ble_eq_true rfl) (c_X12_endsAt N (d + 6) m_62) ⟨Nat.le_refl _, Nat.le_refl _⟩ (Or.inl rfl) rfl (fun r_70 m_70 _ => ?_)
      refine ok_icmp_ge 97 76 dX12_anEvening_73 (by decide) rfl (fun _ => ?_) (fun _ => ?_)
      · refine ok_iinc 100 2 1 [some (.ref 123), some (.int s1_25), some (.int (s2_25 + 1))] dX12_anEvening_97 rfl rfl rfl (by decide) rfl ?_
        refine ok_goto 25 dX12_anEvening_100 (by decide) ?_
        exact ok_less [some (.ref 123), some (.int s1_25), some (.int (s2_25 + 1))] (And.intro rfl (And.intro rfl (And.intro rfl (trivial)))) (hX s1_25 (s2_25 + 1) m_70)
      · refine ok_iload_n 77 1 dX12_anEvening_76 rfl rfl rfl ?_
        refine ok_aload_n 78 0 dX12_anEvening_77 rfl rfl rfl ?_
        refine ok_aload_n 79 0 dX12_anEvening_78 rfl rfl rfl ?_
        refine ok_getR 82 dX12_anEvening_79 rfl rfl F_EncoresModel_7 sg_123 rfl (Nat.le_of_ble_eq_true rfl) rfl rfl ?_
        refine ok_sipush 85 153 dX12_anEvening_82 rfl rfl ?_
        refine ok_iconst 86 2 dX12_anEvening_85 rfl rfl ?_
        refine ok_iload_n 87 2 dX12_anEvening_86 rfl rfl rfl ?_
        refine ok_imul 88 dX12_anEvening_87 rfl ?_
        refine ok_iadd 89 dX12_anEvening_88 rfl ?_
        refine ok_iconst 90 1 dX12_anEvening_89 rfl rfl ?_
        refine ok_iadd 91 dX12_anEvening_90 rfl ?_
        refine ok_iald 92 dX12_anEvening_91 rfl sg_124 ?_
        refine ok_callVi (np := 1) (M' := m_X12_does) (As := [.int (m_70 124 (((153 : Int32) + ((2 : Int32) * s2_25)) + (1 : Int32)).toNatClampNeg)]) (st := [.int s1_25]) 95 dX12_anEvening_92 rfl rfl km_X12_does ki_X12_does kv_X12_does ml_EncoresModel_370 (by decide) sg_123 rfl (Nat.le_of_ble_eq_true rfl) rfl rfl rfl (Nat.le_of_ble_eq_true rfl) (c_X12_does N (d + 0) (m_70 124 (((153 : Int32) + ((2 : Int32) * s2_25)) + (1 : Int32)).toNatClampNeg) m_70) ⟨Nat.le_refl _, Nat.le_refl _⟩ (Or.inl rfl) rfl (fun r_92 m_92 _ => ?_)
        refine ok_iadd 96 dX12_anEvening_95 rfl ?_
        refine ok_bndI (fun a1_96 => ?_)
        refine ok_istore_n 97 1 [some (.ref 123), some (.int a1_96), some (.int s2_25)] dX12_anEvening_96 rfl rfl (by decide) rfl ?_
        refine ok_iinc 100 2 1 [some (.ref 123), some (.int a1_96), some (.int (s2_25 + 1))] dX12_anEvening_97 rfl rfl rfl (by decide) rfl ?_
        refine ok_goto 25 dX12_anEvening_100 (by decide) ?_
        exact ok_less [some (.ref 123), some (.int a1_96), some (.int (s2_25 + 1))] (And.intro rfl (And.intro rfl (And.intro rfl (trivial)))) (hX a1_96 (s2_25 + 1) m_92))

set_option maxRecDepth 100000 in
set_option maxHeartbeats 4000000 in
theorem ok_X12_anEvening (N d : Nat)   (m : Mem) : Ok none SG (d + 8) m_X12_anEvening 0 [some (.ref 123), none, none] [] SG m (f_X12_anEvening N m) := by
  unfold f_X12_anEvening
  refine ok_aload_n 1 0 dX12_anEvening_0 rfl rfl rfl ?_
  refine ok_getR 4 dX12_anEvening_1 rfl rfl F_EncoresModel_7 sg_123 rfl (Nat.le_of_ble_eq_true rfl) rfl rfl ?_
  refine ok_iconst 5 0 dX12_anEvening_4 rfl rfl ?_
  refine ok_iconst 6 0 dX12_anEvening_5 rfl rfl ?_
  refine ok_iastc 7 0 dX12_anEvening_6 rfl sg_124 (by decide) (by decide) ?_
  refine ok_bndM (fun m_6 => ?_)
  refine ok_aload_n 8 0 dX12_anEvening_7 rfl rfl rfl ?_
  refine ok_getR 11 dX12_anEvening_8 rfl rfl F_EncoresModel_7 sg_123 rfl (Nat.le_of_ble_eq_true rfl) rfl rfl ?_
  refine ok_iconst 12 3 dX12_anEvening_11 rfl rfl ?_
  refine ok_iconst 13 (-1) dX12_anEvening_12 rfl rfl ?_
  refine ok_iastc 14 3 dX12_anEvening_13 rfl sg_124 (by decide) (by decide) ?_
  refine ok_bndM (fun m_13 => ?_)
  refine ok_aload_n 15 0 dX12_anEvening_14 rfl rfl rfl ?_
  refine ok_getR 18 dX12_anEvening_15 rfl rfl F_EncoresModel_7 sg_123 rfl (Nat.le_of_ble_eq_true rfl) rfl rfl ?_
  refine ok_iconst 19 4 dX12_anEvening_18 rfl rfl ?_
  refine ok_iconst 20 0 dX12_anEvening_19 rfl rfl ?_
  refine ok_iastc 21 4 dX12_anEvening_20 rfl sg_124 (by decide) (by decide) ?_
  refine ok_bndM (fun m_20 => ?_)
  refine ok_iconst 22 0 dX12_anEvening_21 rfl rfl ?_
  refine ok_istore_n 23 1 [some (.ref 123), some (.int 0), none] dX12_anEvening_22 rfl rfl (by decide) rfl ?_
  refine ok_iconst 24 0 dX12_anEvening_23 rfl rfl ?_
  refine ok_istore_n 25 2 [some (.ref 123), some (.int 0), some (.int 0)] dX12_anEvening_24 rfl rfl (by decide) rfl ?_
  refine ok_less [some (.ref 123), some (.int 0), some (.int 0)] (And.intro rfl (And.intro rfl (And.intro rfl (trivial)))) ?_
  exact ok_X12_anEvening_L25 N d     N 0 0 m_20

theorem c_X12_anEvening (N d : Nat)   (m : Mem) : CM (d + 8) m_X12_anEvening SG SG [.ref 123] m (f_X12_anEvening N m) :=
  CM.ofOk km_X12_anEvening ⟨Nat.le_refl _, Nat.le_refl _⟩ (by simp [Value.category]) (Nat.le_of_ble_eq_true rfl) (ok_X12_anEvening N d  m)

def f_X12_evenings_L30 (N : Nat) (a1 : Int32)   (X : Int32 → Int32 → Mem → Ans) (s2_30 : Int32) (s3_30 : Int32) (m : Mem) : Ans :=
if a1 ≤ s3_30 then (some (s2_30, m))
else (bd (f_X12_keeps N m) fun _ m_36 =>
bd (f_X12_anEvening N m_36) fun r_41 m_41 =>
bnd (s2_30 + r_41) fun a2_45 =>
X a2_45 (s3_30 + 1) m_41)

def f_X12_evenings (N : Nat) (a1 : Int32) (m : Mem) : Ans :=
bd (f_X12_isIn N a1 1 20 m) fun r_4 m_4 =>
if r_4 = 0 then (some ((-1), m_4))
else (if ((m_4 124 1) + a1) ≤ (9999 : Int32) then (it2 (f_X12_evenings_L30 N a1 ) N 0 0 m_4)
else (some ((-1), m_4)))

set_option maxRecDepth 100000 in
set_option maxHeartbeats 4000000 in
theorem ok_X12_evenings_L30 (N d : Nat) (a1 : Int32)    : ∀ (n : Nat) (s2_30 : Int32) (s3_30 : Int32) (m : Mem), Ok none SG (d + 9) m_X12_evenings 30 [some (.ref 123), some (.int a1), some (.int s2_30), some (.int s3_30)] [] SG m (it2 (f_X12_evenings_L30 N a1) n s2_30 s3_30 m) :=
  ok_it2 (fun s2_30 s3_30 => [some (.ref 123), some (.int a1), some (.int s2_30), some (.int s3_30)]) (fun X hX s2_30 s3_30 m => by
    try unfold f_X12_evenings_L30
    refine ok_iload_n 31 3 dX12_evenings_30 rfl rfl rfl ?_
    refine ok_iload_n 32 1 dX12_evenings_31 rfl rfl rfl ?_
    refine ok_icmp_ge 52 35 dX12_evenings_32 (by decide) rfl (fun _ => ?_) (fun _ => ?_)
    · refine ok_iload_n 53 2 dX12_evenings_52 rfl rfl rfl ?_
      exact ok_iret dX12_evenings_53 rfl
    · refine ok_aload_n 36 0 dX12_evenings_35 rfl rfl rfl ?_
      refine ok_callVv (np := 0) (M' := m_X12_keeps) (As := []) (st := []) 39 dX12_evenings_36 rfl rfl km_X12_keeps ki_X12_keeps kv_X12_keeps ml_EncoresModel_367 (by decide) sg_123 rfl (Nat.le_of_ble_eq_true rfl) rfl rfl rfl (Nat.le_of_ble_eq_true rfl) (c_X12_keeps N (d + 8) m) ⟨Nat.le_refl _, Nat.le_refl _⟩ (Or.inl rfl) rfl (fun _ m_36 _ => ?_)
      refine ok_iload_n 40 2 dX12_evenings_39 rfl rfl rfl ?_
      refine ok_aload_n 41 0 dX12_evenings_40 rfl rfl rfl ?_
      refine ok_callVi (np := 0) (M' := m_X12_anEvening) (As := []) (st := [.int s2_30]) 44 dX12_evenings_41 rfl rfl km_X12_anEvening ki_X12_anEvening kv_X12_anEvening ml_EncoresModel_373 (by decide) sg_123 rfl (Nat.le_of_ble_eq_true rfl) rfl rfl rfl (Nat.le_of_ble_eq_true rfl) (c_X12_anEvening N (d + 0) m_36) ⟨Nat.le_refl _, Nat.le_refl _⟩ (Or.inl rfl) rfl (fun r_41 m_41 _ => ?_)
      refine ok_iadd 45 dX12_evenings_44 rfl ?_
      refine ok_bndI (fun a2_45 => ?_)
      refine ok_istore_n 46 2 [some (.ref 123), some (.int a1), some (.int a2_45), some (.int s3_30)] dX12_evenings_45 rfl rfl (by decide) rfl ?_
      refine ok_iinc 49 3 1 [some (.ref 123), some (.int a1), some (.int a2_45), some (.int (s3_30 + 1))] dX12_evenings_46 rfl rfl rfl (by decide) rfl ?_
      refine ok_goto 30 dX12_evenings_49 (by decide) ?_
      exact ok_less [some (.ref 123), some (.int a1), some (.int a2_45), some (.int (s3_30 + 1))] (And.intro rfl (And.intro rfl (And.intro rfl (And.intro rfl (trivial))))) (hX a2_45 (s3_30 + 1) m_41))

set_option maxRecDepth 100000 in
set_option maxHeartbeats 4000000 in
theorem ok_X12_evenings (N d : Nat) (a1 : Int32)  (m : Mem) : Ok none SG (d + 9) m_X12_evenings 0 [some (.ref 123), some (.int a1), none, none] [] SG m (f_X12_evenings N a1 m) := by
  unfold f_X12_evenings
  refine ok_iload_n 1 1 dX12_evenings_0 rfl rfl rfl ?_
  refine ok_iconst 2 1 dX12_evenings_1 rfl rfl ?_
  refine ok_bipush 4 20 dX12_evenings_2 rfl rfl ?_
  refine ok_callSi (np := 3) (M' := m_X12_isIn) (As := [.int a1, .int 1, .int 20]) (st := []) 7 dX12_evenings_4 rfl rfl km_X12_isIn ks_X12_isIn ml_EncoresModel_56 (by decide) rfl rfl (Nat.le_of_ble_eq_true rfl) (c_X12_isIn N (d + 8) a1 1 20 m) ⟨Nat.le_refl _, Nat.le_refl _⟩ (Or.inl rfl) rfl (fun r_4 m_4 _ => ?_)
  refine ok_if_eq 24 10 dX12_evenings_7 (by decide) rfl (fun _ => ?_) (fun _ => ?_)
  · refine ok_iconst 25 (-1) dX12_evenings_24 rfl rfl ?_
    exact ok_iret dX12_evenings_25 rfl
  · refine ok_aload_n 11 0 dX12_evenings_10 rfl rfl rfl ?_
    refine ok_getR 14 dX12_evenings_11 rfl rfl F_EncoresModel_7 sg_123 rfl (Nat.le_of_ble_eq_true rfl) rfl rfl ?_
    refine ok_iconst 15 1 dX12_evenings_14 rfl rfl ?_
    refine ok_ialdc 16 1 dX12_evenings_15 rfl sg_124 (by decide) (by decide) ?_
    refine ok_iload_n 17 1 dX12_evenings_16 rfl rfl rfl ?_
    refine ok_iadd 18 dX12_evenings_17 rfl ?_
    refine ok_sipush 21 9999 dX12_evenings_18 rfl rfl ?_
    refine ok_icmp_le 26 24 dX12_evenings_21 (by decide) rfl (fun _ => ?_) (fun _ => ?_)
    · refine ok_iconst 27 0 dX12_evenings_26 rfl rfl ?_
      refine ok_istore_n 28 2 [some (.ref 123), some (.int a1), some (.int 0), none] dX12_evenings_27 rfl rfl (by decide) rfl ?_
      refine ok_iconst 29 0 dX12_evenings_28 rfl rfl ?_
      refine ok_istore_n 30 3 [some (.ref 123), some (.int a1), some (.int 0), some (.int 0)] dX12_evenings_29 rfl rfl (by decide) rfl ?_
      refine ok_less [some (.ref 123), some (.int a1), some (.int 0), some (.int 0)] (And.intro rfl (And.intro rfl (And.intro rfl (And.intro rfl (trivial))))) ?_
      exact ok_X12_evenings_L30 N d a1    N 0 0 m_4
    · refine ok_iconst 25 (-1) dX12_evenings_24 rfl rfl ?_
      exact ok_iret dX12_evenings_25 rfl

theorem c_X12_evenings (N d : Nat) (a1 : Int32)  (m : Mem) : CM (d + 9) m_X12_evenings SG SG [.ref 123, .int a1] m (f_X12_evenings N a1 m) :=
  CM.ofOk km_X12_evenings ⟨Nat.le_refl _, Nat.le_refl _⟩ (by simp [Value.category]) (Nat.le_of_ble_eq_true rfl) (ok_X12_evenings N d a1 m)

def f_X12_of (N : Nat) (a1 : Int32) (a2 : Int32) (m : Mem) : Ans :=
bd (f_X12_isHearer N a1 m) fun r_2 m_2 =>
if r_2 = 0 then (some ((-1), m_2))
else (swt (Int32.toInt a2 - (3)) [(bd (f_X12_isThere N a1 m_2) fun r_46 m_46 =>
if r_46 = 0 then (some (0, m_46))
else (some (1, m_46))),
(bd (f_X12_isGloved N a1 m_2) fun r_60 m_60 =>
if r_60 = 0 then (some (0, m_60))
else (some (1, m_60))),
(chk (inb ((9 : Int32) + a1) 1707) <|
some (m_2 124 ((9 : Int32) + a1).toNatClampNeg, m_2)),
(chk (inb ((185 : Int32) + a1) 1707) <|
some (m_2 124 ((185 : Int32) + a1).toNatClampNeg, m_2)),
(bd (f_X12_countsAs N a1 m_2) fun r_95 m_95 =>
some (r_95, m_95))] (bd (f_X12_isIn N a2 0 2 m_2) fun r_102 m_102 =>
if r_102 = 0 then (bd (f_X12_isDeed N (a2 - (10 : Int32)) m_102) fun r_128 m_128 =>
if r_128 = 0 then (some ((-1), m_128))
else (bd (f_X12_clapOf N a1 (a2 - (10 : Int32)) 0 m_128) fun r_141 m_141 =>
some (r_141, m_141)))
else (chk (inb (((45 : Int32) + ((12 : Int32) * a2)) + a1) 1707) <|
some (m_102 124 (((45 : Int32) + ((12 : Int32) * a2)) + a1).toNatClampNeg, m_102))))

set_option maxRecDepth 100000 in
set_option maxHeartbeats 4000000 in
theorem ok_X12_of (N d : Nat) (a1 : Int32) (a2 : Int32)  (m : Mem) : Ok none SG (d + 5) m_X12_of 0 [some (.ref 123), some (.int a1), some (.int a2)] [] SG m (f_X12_of N a1 a2 m) := by
  unfold f_X12_of
  refine ok_aload_n 1 0 dX12_of_0 rfl rfl rfl ?_
  refine ok_iload_n 2 1 dX12_of_1 rfl rfl rfl ?_
  refine ok_callVi (np := 1) (M' := m_X12_isHearer) (As := [.int a1]) (st := []) 5 dX12_of_2 rfl rfl km_X12_isHearer ki_X12_isHearer kv_X12_isHearer ml_EncoresModel_68 (by decide) sg_123 rfl (Nat.le_of_ble_eq_true rfl) rfl rfl rfl (Nat.le_of_ble_eq_true rfl) (c_X12_isHearer N (d + 3) a1 m) ⟨Nat.le_refl _, Nat.le_refl _⟩ (Or.inl rfl) rfl (fun r_2 m_2 _ => ?_)
  refine ok_if_ne 10 8 dX12_of_5 (by decide) rfl (fun _ => ?_) (fun _ => ?_)
  · refine ok_iload_n 11 2 dX12_of_10 rfl rfl rfl ?_
    refine ok_tsw 99 [44, 58, 72, 82, 93] dX12_of_11 (by decide) (by decide) (by decide) rfl ?_ ?_
    · refine And.intro ?_ (And.intro ?_ (And.intro ?_ (And.intro ?_ (And.intro ?_ (trivial)))))
      · refine ok_aload_n 45 0 dX12_of_44 rfl rfl rfl ?_
        refine ok_iload_n 46 1 dX12_of_45 rfl rfl rfl ?_
        refine ok_callVi (np := 1) (M' := m_X12_isThere) (As := [.int a1]) (st := []) 49 dX12_of_46 rfl rfl km_X12_isThere ki_X12_isThere kv_X12_isThere ml_EncoresModel_310 (by decide) sg_123 rfl (Nat.le_of_ble_eq_true rfl) rfl rfl rfl (Nat.le_of_ble_eq_true rfl) (c_X12_isThere N (d + 4) a1 m_2) ⟨Nat.le_refl _, Nat.le_refl _⟩ (Or.inl rfl) rfl (fun r_46 m_46 _ => ?_)
        refine ok_if_eq 56 52 dX12_of_49 (by decide) rfl (fun _ => ?_) (fun _ => ?_)
        · refine ok_iconst 57 0 dX12_of_56 rfl rfl ?_
          exact ok_iret dX12_of_57 rfl
        · refine ok_iconst 53 1 dX12_of_52 rfl rfl ?_
          refine ok_goto 57 dX12_of_53 (by decide) ?_
          exact ok_iret dX12_of_57 rfl
      · refine ok_aload_n 59 0 dX12_of_58 rfl rfl rfl ?_
        refine ok_iload_n 60 1 dX12_of_59 rfl rfl rfl ?_
        refine ok_callVi (np := 1) (M' := m_X12_isGloved) (As := [.int a1]) (st := []) 63 dX12_of_60 rfl rfl km_X12_isGloved ki_X12_isGloved kv_X12_isGloved ml_EncoresModel_313 (by decide) sg_123 rfl (Nat.le_of_ble_eq_true rfl) rfl rfl rfl (Nat.le_of_ble_eq_true rfl) (c_X12_isGloved N (d + 4) a1 m_2) ⟨Nat.le_refl _, Nat.le_refl _⟩ (Or.inl rfl) rfl (fun r_60 m_60 _ => ?_)
        refine ok_if_eq 70 66 dX12_of_63 (by decide) rfl (fun _ => ?_) (fun _ => ?_)
        · refine ok_iconst 71 0 dX12_of_70 rfl rfl ?_
          exact ok_iret dX12_of_71 rfl
        · refine ok_iconst 67 1 dX12_of_66 rfl rfl ?_
          refine ok_goto 71 dX12_of_67 (by decide) ?_
          exact ok_iret dX12_of_71 rfl
      · refine ok_aload_n 73 0 dX12_of_72 rfl rfl rfl ?_
        refine ok_getR 76 dX12_of_73 rfl rfl F_EncoresModel_7 sg_123 rfl (Nat.le_of_ble_eq_true rfl) rfl rfl ?_
        refine ok_bipush 78 9 dX12_of_76 rfl rfl ?_
        refine ok_iload_n 79 1 dX12_of_78 rfl rfl rfl ?_
        refine ok_iadd 80 dX12_of_79 rfl ?_
        refine ok_iald 81 dX12_of_80 rfl sg_124 ?_
        exact ok_iret dX12_of_81 rfl
      · refine ok_aload_n 83 0 dX12_of_82 rfl rfl rfl ?_
        refine ok_getR 86 dX12_of_83 rfl rfl F_EncoresModel_7 sg_123 rfl (Nat.le_of_ble_eq_true rfl) rfl rfl ?_
        refine ok_sipush 89 185 dX12_of_86 rfl rfl ?_
        refine ok_iload_n 90 1 dX12_of_89 rfl rfl rfl ?_
        refine ok_iadd 91 dX12_of_90 rfl ?_
        refine ok_iald 92 dX12_of_91 rfl sg_124 ?_
        exact ok_iret dX12_of_92 rfl
      · refine ok_aload_n 94 0 dX12_of_93 rfl rfl rfl ?_
        refine ok_iload_n 95 1 dX12_of_94 rfl rfl rfl ?_
        refine ok_callVi (np := 1) (M' := m_X12_countsAs) (As := [.int a1]) (st := []) 98 dX12_of_95 rfl rfl km_X12_countsAs ki_X12_countsAs kv_X12_countsAs ml_EncoresModel_325 (by decide) sg_123 rfl (Nat.le_of_ble_eq_true rfl) rfl rfl rfl (Nat.le_of_ble_eq_true rfl) (c_X12_countsAs N (d + 4) a1 m_2) ⟨Nat.le_refl _, Nat.le_refl _⟩ (Or.inl rfl) rfl (fun r_95 m_95 _ => ?_)
        exact ok_iret dX12_of_98 rfl
    · refine ok_iload_n 100 2 dX12_of_99 rfl rfl rfl ?_
      refine ok_iconst 101 0 dX12_of_100 rfl rfl ?_
      refine ok_iconst 102 2 dX12_of_101 rfl rfl ?_
      refine ok_callSi (np := 3) (M' := m_X12_isIn) (As := [.int a2, .int 0, .int 2]) (st := []) 105 dX12_of_102 rfl rfl km_X12_isIn ks_X12_isIn ml_EncoresModel_56 (by decide) rfl rfl (Nat.le_of_ble_eq_true rfl) (c_X12_isIn N (d + 4) a2 0 2 m_2) ⟨Nat.le_refl _, Nat.le_refl _⟩ (Or.inl rfl) rfl (fun r_102 m_102 _ => ?_)
      refine ok_if_eq 123 108 dX12_of_105 (by decide) rfl (fun _ => ?_) (fun _ => ?_)
      · refine ok_aload_n 124 0 dX12_of_123 rfl rfl rfl ?_
        refine ok_iload_n 125 2 dX12_of_124 rfl rfl rfl ?_
        refine ok_bipush 127 10 dX12_of_125 rfl rfl ?_
        refine ok_isub 128 dX12_of_127 rfl ?_
        refine ok_callVi (np := 1) (M' := m_X12_isDeed) (As := [.int (a2 - (10 : Int32))]) (st := []) 131 dX12_of_128 rfl rfl km_X12_isDeed ki_X12_isDeed kv_X12_isDeed ml_EncoresModel_72 (by decide) sg_123 rfl (Nat.le_of_ble_eq_true rfl) rfl rfl rfl (Nat.le_of_ble_eq_true rfl) (c_X12_isDeed N (d + 3) (a2 - (10 : Int32)) m_102) ⟨Nat.le_refl _, Nat.le_refl _⟩ (Or.inl rfl) rfl (fun r_128 m_128 _ => ?_)
        refine ok_if_eq 147 134 dX12_of_131 (by decide) rfl (fun _ => ?_) (fun _ => ?_)
        · refine ok_iconst 148 (-1) dX12_of_147 rfl rfl ?_
          exact ok_iret dX12_of_148 rfl
        · refine ok_aload_n 135 0 dX12_of_134 rfl rfl rfl ?_
          refine ok_iload_n 136 1 dX12_of_135 rfl rfl rfl ?_
          refine ok_iload_n 137 2 dX12_of_136 rfl rfl rfl ?_
          refine ok_bipush 139 10 dX12_of_137 rfl rfl ?_
          refine ok_isub 140 dX12_of_139 rfl ?_
          refine ok_iconst 141 0 dX12_of_140 rfl rfl ?_
          refine ok_callVi (np := 3) (M' := m_X12_clapOf) (As := [.int a1, .int (a2 - (10 : Int32)), .int 0]) (st := []) 144 dX12_of_141 rfl rfl km_X12_clapOf ki_X12_clapOf kv_X12_clapOf ml_EncoresModel_322 (by decide) sg_123 rfl (Nat.le_of_ble_eq_true rfl) rfl rfl rfl (Nat.le_of_ble_eq_true rfl) (c_X12_clapOf N (d + 0) a1 (a2 - (10 : Int32)) 0 m_128) ⟨Nat.le_refl _, Nat.le_refl _⟩ (Or.inl rfl) rfl (fun r_141 m_141 _ => ?_)
          refine ok_goto 148 dX12_of_144 (by decide) ?_
          exact ok_iret dX12_of_148 rfl
      · refine ok_aload_n 109 0 dX12_of_108 rfl rfl rfl ?_
        refine ok_getR 112 dX12_of_109 rfl rfl F_EncoresModel_7 sg_123 rfl (Nat.le_of_ble_eq_true rfl) rfl rfl ?_
        refine ok_bipush 114 45 dX12_of_112 rfl rfl ?_
        refine ok_bipush 116 12 dX12_of_114 rfl rfl ?_
        refine ok_iload_n 117 2 dX12_of_116 rfl rfl rfl ?_
        refine ok_imul 118 dX12_of_117 rfl ?_
        refine ok_iadd 119 dX12_of_118 rfl ?_
        refine ok_iload_n 120 1 dX12_of_119 rfl rfl rfl ?_
        refine ok_iadd 121 dX12_of_120 rfl ?_
        refine ok_iald 122 dX12_of_121 rfl sg_124 ?_
        exact ok_iret dX12_of_122 rfl
  · refine ok_iconst 9 (-1) dX12_of_8 rfl rfl ?_
    exact ok_iret dX12_of_9 rfl

theorem c_X12_of (N d : Nat) (a1 : Int32) (a2 : Int32)  (m : Mem) : CM (d + 5) m_X12_of SG SG [.ref 123, .int a1, .int a2] m (f_X12_of N a1 a2 m) :=
  CM.ofOk km_X12_of ⟨Nat.le_refl _, Nat.le_refl _⟩ (by simp [Value.category]) (Nat.le_of_ble_eq_true rfl) (ok_X12_of N d a1 a2 m)

def f_X12_deedOf (N : Nat) (a1 : Int32) (a2 : Int32) (m : Mem) : Ans :=
bd (f_X12_isDeed N a1 m) fun r_2 m_2 =>
if r_2 = 0 then (some ((-1), m_2))
else (swt (Int32.toInt a2 - (0)) [(chk (inb ((81 : Int32) + a1) 1707) <|
some (m_2 124 ((81 : Int32) + a1).toNatClampNeg, m_2)),
(chk (inb ((89 : Int32) + a1) 1707) <|
some (m_2 124 ((89 : Int32) + a1).toNatClampNeg, m_2)),
(chk (inb ((97 : Int32) + a1) 1707) <|
some (m_2 124 ((97 : Int32) + a1).toNatClampNeg, m_2)),
(chk (inb ((21 : Int32) + a1) 1707) <|
some (m_2 124 ((21 : Int32) + a1).toNatClampNeg, m_2)),
(chk (inb ((29 : Int32) + a1) 1707) <|
some (m_2 124 ((29 : Int32) + a1).toNatClampNeg, m_2)),
(bd (f_X12_loudOf N a1 m_2) fun r_104 m_104 =>
some (r_104, m_104)),
(bd (f_X12_wearsOf N a1 m_2) fun r_110 m_110 =>
some (r_110, m_110))] (some ((-1), m_2)))

set_option maxRecDepth 100000 in
set_option maxHeartbeats 4000000 in
theorem ok_X12_deedOf (N d : Nat) (a1 : Int32) (a2 : Int32)  (m : Mem) : Ok none SG (d + 5) m_X12_deedOf 0 [some (.ref 123), some (.int a1), some (.int a2)] [] SG m (f_X12_deedOf N a1 a2 m) := by
  unfold f_X12_deedOf
  refine ok_aload_n 1 0 dX12_deedOf_0 rfl rfl rfl ?_
  refine ok_iload_n 2 1 dX12_deedOf_1 rfl rfl rfl ?_
  refine ok_callVi (np := 1) (M' := m_X12_isDeed) (As := [.int a1]) (st := []) 5 dX12_deedOf_2 rfl rfl km_X12_isDeed ki_X12_isDeed kv_X12_isDeed ml_EncoresModel_72 (by decide) sg_123 rfl (Nat.le_of_ble_eq_true rfl) rfl rfl rfl (Nat.le_of_ble_eq_true rfl) (c_X12_isDeed N (d + 3) a1 m) ⟨Nat.le_refl _, Nat.le_refl _⟩ (Or.inl rfl) rfl (fun r_2 m_2 _ => ?_)
  refine ok_if_ne 10 8 dX12_deedOf_5 (by decide) rfl (fun _ => ?_) (fun _ => ?_)
  · refine ok_iload_n 11 2 dX12_deedOf_10 rfl rfl rfl ?_
    refine ok_tsw 114 [52, 62, 72, 82, 92, 102, 108] dX12_deedOf_11 (by decide) (by decide) (by decide) rfl ?_ ?_
    · refine And.intro ?_ (And.intro ?_ (And.intro ?_ (And.intro ?_ (And.intro ?_ (And.intro ?_ (And.intro ?_ (trivial)))))))
      · refine ok_aload_n 53 0 dX12_deedOf_52 rfl rfl rfl ?_
        refine ok_getR 56 dX12_deedOf_53 rfl rfl F_EncoresModel_7 sg_123 rfl (Nat.le_of_ble_eq_true rfl) rfl rfl ?_
        refine ok_bipush 58 81 dX12_deedOf_56 rfl rfl ?_
        refine ok_iload_n 59 1 dX12_deedOf_58 rfl rfl rfl ?_
        refine ok_iadd 60 dX12_deedOf_59 rfl ?_
        refine ok_iald 61 dX12_deedOf_60 rfl sg_124 ?_
        exact ok_iret dX12_deedOf_61 rfl
      · refine ok_aload_n 63 0 dX12_deedOf_62 rfl rfl rfl ?_
        refine ok_getR 66 dX12_deedOf_63 rfl rfl F_EncoresModel_7 sg_123 rfl (Nat.le_of_ble_eq_true rfl) rfl rfl ?_
        refine ok_bipush 68 89 dX12_deedOf_66 rfl rfl ?_
        refine ok_iload_n 69 1 dX12_deedOf_68 rfl rfl rfl ?_
        refine ok_iadd 70 dX12_deedOf_69 rfl ?_
        refine ok_iald 71 dX12_deedOf_70 rfl sg_124 ?_
        exact ok_iret dX12_deedOf_71 rfl
      · refine ok_aload_n 73 0 dX12_deedOf_72 rfl rfl rfl ?_
        refine ok_getR 76 dX12_deedOf_73 rfl rfl F_EncoresModel_7 sg_123 rfl (Nat.le_of_ble_eq_true rfl) rfl rfl ?_
        refine ok_bipush 78 97 dX12_deedOf_76 rfl rfl ?_
        refine ok_iload_n 79 1 dX12_deedOf_78 rfl rfl rfl ?_
        refine ok_iadd 80 dX12_deedOf_79 rfl ?_
        refine ok_iald 81 dX12_deedOf_80 rfl sg_124 ?_
        exact ok_iret dX12_deedOf_81 rfl
      · refine ok_aload_n 83 0 dX12_deedOf_82 rfl rfl rfl ?_
        refine ok_getR 86 dX12_deedOf_83 rfl rfl F_EncoresModel_7 sg_123 rfl (Nat.le_of_ble_eq_true rfl) rfl rfl ?_
        refine ok_bipush 88 21 dX12_deedOf_86 rfl rfl ?_
        refine ok_iload_n 89 1 dX12_deedOf_88 rfl rfl rfl ?_
        refine ok_iadd 90 dX12_deedOf_89 rfl ?_
        refine ok_iald 91 dX12_deedOf_90 rfl sg_124 ?_
        exact ok_iret dX12_deedOf_91 rfl
      · refine ok_aload_n 93 0 dX12_deedOf_92 rfl rfl rfl ?_
        refine ok_getR 96 dX12_deedOf_93 rfl rfl F_EncoresModel_7 sg_123 rfl (Nat.le_of_ble_eq_true rfl) rfl rfl ?_
        refine ok_bipush 98 29 dX12_deedOf_96 rfl rfl ?_
        refine ok_iload_n 99 1 dX12_deedOf_98 rfl rfl rfl ?_
        refine ok_iadd 100 dX12_deedOf_99 rfl ?_
        refine ok_iald 101 dX12_deedOf_100 rfl sg_124 ?_
        exact ok_iret dX12_deedOf_101 rfl
      · refine ok_aload_n 103 0 dX12_deedOf_102 rfl rfl rfl ?_
        refine ok_iload_n 104 1 dX12_deedOf_103 rfl rfl rfl ?_
        refine ok_callVi (np := 1) (M' := m_X12_loudOf) (As := [.int a1]) (st := []) 107 dX12_deedOf_104 rfl rfl km_X12_loudOf ki_X12_loudOf kv_X12_loudOf ml_EncoresModel_341 (by decide) sg_123 rfl (Nat.le_of_ble_eq_true rfl) rfl rfl rfl (Nat.le_of_ble_eq_true rfl) (c_X12_loudOf N (d + 0) a1 m_2) ⟨Nat.le_refl _, Nat.le_refl _⟩ (Or.inl rfl) rfl (fun r_104 m_104 _ => ?_)
        exact ok_iret dX12_deedOf_107 rfl
      · refine ok_aload_n 109 0 dX12_deedOf_108 rfl rfl rfl ?_
        refine ok_iload_n 110 1 dX12_deedOf_109 rfl rfl rfl ?_
        refine ok_callVi (np := 1) (M' := m_X12_wearsOf) (As := [.int a1]) (st := []) 113 dX12_deedOf_110 rfl rfl km_X12_wearsOf ki_X12_wearsOf kv_X12_wearsOf ml_EncoresModel_307 (by decide) sg_123 rfl (Nat.le_of_ble_eq_true rfl) rfl rfl rfl (Nat.le_of_ble_eq_true rfl) (c_X12_wearsOf N (d + 0) a1 m_2) ⟨Nat.le_refl _, Nat.le_refl _⟩ (Or.inl rfl) rfl (fun r_110 m_110 _ => ?_)
        exact ok_iret dX12_deedOf_113 rfl
    · refine ok_iconst 115 (-1) dX12_deedOf_114 rfl rfl ?_
      exact ok_iret dX12_deedOf_115 rfl
  · refine ok_iconst 9 (-1) dX12_deedOf_8 rfl rfl ?_
    exact ok_iret dX12_deedOf_9 rfl

theorem c_X12_deedOf (N d : Nat) (a1 : Int32) (a2 : Int32)  (m : Mem) : CM (d + 5) m_X12_deedOf SG SG [.ref 123, .int a1, .int a2] m (f_X12_deedOf N a1 a2 m) :=
  CM.ofOk km_X12_deedOf ⟨Nat.le_refl _, Nat.le_refl _⟩ (by simp [Value.category]) (Nat.le_of_ble_eq_true rfl) (ok_X12_deedOf N d a1 a2 m)

def f_X12_statute (N : Nat) (a1 : Int32) (m : Mem) : Ans :=
if a1 = 0 then (bd (f_X12_handsAsked N m) fun r_5 m_5 =>
some (r_5, m_5))
else (if a1 = (1 : Int32) then (bd (f_X12_mostAgains N m) fun r_17 m_17 =>
some (r_17, m_17))
else (if a1 = (2 : Int32) then (bd (f_X12_endsAt N m) fun r_29 m_29 =>
some (r_29, m_29))
else (some ((-1), m))))

set_option maxRecDepth 100000 in
set_option maxHeartbeats 4000000 in
theorem ok_X12_statute (N d : Nat) (a1 : Int32)  (m : Mem) : Ok none SG (d + 2) m_X12_statute 0 [some (.ref 123), some (.int a1)] [] SG m (f_X12_statute N a1 m) := by
  unfold f_X12_statute
  refine ok_iload_n 1 1 dX12_statute_0 rfl rfl rfl ?_
  refine ok_if_ne 11 4 dX12_statute_1 (by decide) rfl (fun _ => ?_) (fun _ => ?_)
  · refine ok_iload_n 12 1 dX12_statute_11 rfl rfl rfl ?_
    refine ok_iconst 13 1 dX12_statute_12 rfl rfl ?_
    refine ok_icmp_ne 23 16 dX12_statute_13 (by decide) rfl (fun _ => ?_) (fun _ => ?_)
    · refine ok_iload_n 24 1 dX12_statute_23 rfl rfl rfl ?_
      refine ok_iconst 25 2 dX12_statute_24 rfl rfl ?_
      refine ok_icmp_ne 35 28 dX12_statute_25 (by decide) rfl (fun _ => ?_) (fun _ => ?_)
      · refine ok_iconst 36 (-1) dX12_statute_35 rfl rfl ?_
        exact ok_iret dX12_statute_36 rfl
      · refine ok_aload_n 29 0 dX12_statute_28 rfl rfl rfl ?_
        refine ok_callVi (np := 0) (M' := m_X12_endsAt) (As := []) (st := []) 32 dX12_statute_29 rfl rfl km_X12_endsAt ki_X12_endsAt kv_X12_endsAt ml_EncoresModel_355 (by decide) sg_123 rfl (Nat.le_of_ble_eq_true rfl) rfl rfl rfl (Nat.le_of_ble_eq_true rfl) (c_X12_endsAt N (d + 0) m) ⟨Nat.le_refl _, Nat.le_refl _⟩ (Or.inl rfl) rfl (fun r_29 m_29 _ => ?_)
        refine ok_goto 36 dX12_statute_32 (by decide) ?_
        exact ok_iret dX12_statute_36 rfl
    · refine ok_aload_n 17 0 dX12_statute_16 rfl rfl rfl ?_
      refine ok_callVi (np := 0) (M' := m_X12_mostAgains) (As := []) (st := []) 20 dX12_statute_17 rfl rfl km_X12_mostAgains ki_X12_mostAgains kv_X12_mostAgains ml_EncoresModel_352 (by decide) sg_123 rfl (Nat.le_of_ble_eq_true rfl) rfl rfl rfl (Nat.le_of_ble_eq_true rfl) (c_X12_mostAgains N (d + 0) m) ⟨Nat.le_refl _, Nat.le_refl _⟩ (Or.inl rfl) rfl (fun r_17 m_17 _ => ?_)
      refine ok_goto 36 dX12_statute_20 (by decide) ?_
      exact ok_iret dX12_statute_36 rfl
  · refine ok_aload_n 5 0 dX12_statute_4 rfl rfl rfl ?_
    refine ok_callVi (np := 0) (M' := m_X12_handsAsked) (As := []) (st := []) 8 dX12_statute_5 rfl rfl km_X12_handsAsked ki_X12_handsAsked kv_X12_handsAsked ml_EncoresModel_349 (by decide) sg_123 rfl (Nat.le_of_ble_eq_true rfl) rfl rfl rfl (Nat.le_of_ble_eq_true rfl) (c_X12_handsAsked N (d + 1) m) ⟨Nat.le_refl _, Nat.le_refl _⟩ (Or.inl rfl) rfl (fun r_5 m_5 _ => ?_)
    refine ok_goto 36 dX12_statute_8 (by decide) ?_
    exact ok_iret dX12_statute_36 rfl

theorem c_X12_statute (N d : Nat) (a1 : Int32)  (m : Mem) : CM (d + 2) m_X12_statute SG SG [.ref 123, .int a1] m (f_X12_statute N a1 m) :=
  CM.ofOk km_X12_statute ⟨Nat.le_refl _, Nat.le_refl _⟩ (by simp [Value.category]) (Nat.le_of_ble_eq_true rfl) (ok_X12_statute N d a1 m)

def f_X12_book (N : Nat) (a1 : Int32) (a2 : Int32) (m : Mem) : Ans :=
bd (f_X12_isIn N a1 0 ((m 124 6) - (1 : Int32)) m) fun r_11 m_11 =>
if r_11 = 0 then (some ((-1), m_11))
else (bd (f_X12_isIn N a2 0 3 m_11) fun r_20 m_20 =>
if r_20 = 0 then (some ((-1), m_20))
else (chk (inb (((223 : Int32) + ((4 : Int32) * a1)) + a2) 1707) <|
some (m_20 124 (((223 : Int32) + ((4 : Int32) * a1)) + a2).toNatClampNeg, m_20)))

set_option maxRecDepth 100000 in
set_option maxHeartbeats 4000000 in
theorem ok_X12_book (N d : Nat) (a1 : Int32) (a2 : Int32)  (m : Mem) : Ok none SG (d + 1) m_X12_book 0 [some (.ref 123), some (.int a1), some (.int a2)] [] SG m (f_X12_book N a1 a2 m) := by
  unfold f_X12_book
  refine ok_iload_n 1 1 dX12_book_0 rfl rfl rfl ?_
  refine ok_iconst 2 0 dX12_book_1 rfl rfl ?_
  refine ok_aload_n 3 0 dX12_book_2 rfl rfl rfl ?_
  refine ok_getR 6 dX12_book_3 rfl rfl F_EncoresModel_7 sg_123 rfl (Nat.le_of_ble_eq_true rfl) rfl rfl ?_
  refine ok_bipush 8 6 dX12_book_6 rfl rfl ?_
  refine ok_ialdc 9 6 dX12_book_8 rfl sg_124 (by decide) (by decide) ?_
  refine ok_iconst 10 1 dX12_book_9 rfl rfl ?_
  refine ok_isub 11 dX12_book_10 rfl ?_
  refine ok_callSi (np := 3) (M' := m_X12_isIn) (As := [.int a1, .int 0, .int ((m 124 6) - (1 : Int32))]) (st := []) 14 dX12_book_11 rfl rfl km_X12_isIn ks_X12_isIn ml_EncoresModel_56 (by decide) rfl rfl (Nat.le_of_ble_eq_true rfl) (c_X12_isIn N (d + 0) a1 0 ((m 124 6) - (1 : Int32)) m) ⟨Nat.le_refl _, Nat.le_refl _⟩ (Or.inl rfl) rfl (fun r_11 m_11 _ => ?_)
  refine ok_if_eq 43 17 dX12_book_14 (by decide) rfl (fun _ => ?_) (fun _ => ?_)
  · refine ok_iconst 44 (-1) dX12_book_43 rfl rfl ?_
    exact ok_iret dX12_book_44 rfl
  · refine ok_iload_n 18 2 dX12_book_17 rfl rfl rfl ?_
    refine ok_iconst 19 0 dX12_book_18 rfl rfl ?_
    refine ok_iconst 20 3 dX12_book_19 rfl rfl ?_
    refine ok_callSi (np := 3) (M' := m_X12_isIn) (As := [.int a2, .int 0, .int 3]) (st := []) 23 dX12_book_20 rfl rfl km_X12_isIn ks_X12_isIn ml_EncoresModel_56 (by decide) rfl rfl (Nat.le_of_ble_eq_true rfl) (c_X12_isIn N (d + 0) a2 0 3 m_11) ⟨Nat.le_refl _, Nat.le_refl _⟩ (Or.inl rfl) rfl (fun r_20 m_20 _ => ?_)
    refine ok_if_eq 43 26 dX12_book_23 (by decide) rfl (fun _ => ?_) (fun _ => ?_)
    · refine ok_iconst 44 (-1) dX12_book_43 rfl rfl ?_
      exact ok_iret dX12_book_44 rfl
    · refine ok_aload_n 27 0 dX12_book_26 rfl rfl rfl ?_
      refine ok_getR 30 dX12_book_27 rfl rfl F_EncoresModel_7 sg_123 rfl (Nat.le_of_ble_eq_true rfl) rfl rfl ?_
      refine ok_sipush 33 223 dX12_book_30 rfl rfl ?_
      refine ok_iconst 34 4 dX12_book_33 rfl rfl ?_
      refine ok_iload_n 35 1 dX12_book_34 rfl rfl rfl ?_
      refine ok_imul 36 dX12_book_35 rfl ?_
      refine ok_iadd 37 dX12_book_36 rfl ?_
      refine ok_iload_n 38 2 dX12_book_37 rfl rfl rfl ?_
      refine ok_iadd 39 dX12_book_38 rfl ?_
      refine ok_iald 40 dX12_book_39 rfl sg_124 ?_
      refine ok_goto 44 dX12_book_40 (by decide) ?_
      exact ok_iret dX12_book_44 rfl

theorem c_X12_book (N d : Nat) (a1 : Int32) (a2 : Int32)  (m : Mem) : CM (d + 1) m_X12_book SG SG [.ref 123, .int a1, .int a2] m (f_X12_book N a1 a2 m) :=
  CM.ofOk km_X12_book ⟨Nat.le_refl _, Nat.le_refl _⟩ (by simp [Value.category]) (Nat.le_of_ble_eq_true rfl) (ok_X12_book N d a1 a2 m)

def f_X12_lays_L2 (N : Nat)    (X : Int32 → Mem → Ans) (s1_2 : Int32) (m : Mem) : Ans :=
if (37 : Int32) ≤ s1_2 then (bnd (mset m 123 26 0) fun m_28 =>
some (0, m_28))
else (chk (inb s1_2 1707) <|
chk (inb s1_2 37) <|
bnd (mset m 127 s1_2.toNatClampNeg (m 124 s1_2.toNatClampNeg)) fun m_19 =>
X (s1_2 + 1) m_19)

def f_X12_lays (N : Nat)  (m : Mem) : Ans :=
it1 (f_X12_lays_L2 N ) N 0 m

set_option maxRecDepth 100000 in
set_option maxHeartbeats 4000000 in
theorem ok_X12_lays_L2 (N d : Nat)     : ∀ (n : Nat) (s1_2 : Int32) (m : Mem), Ok none SG (d + 0) m_X12_lays 2 [some (.ref 123), some (.int s1_2)] [] SG m (it1 (f_X12_lays_L2 N) n s1_2 m) :=
  ok_it1 (fun s1_2 => [some (.ref 123), some (.int s1_2)]) (fun X hX s1_2 m => by
    try unfold f_X12_lays_L2
    refine ok_iload_n 3 1 dX12_lays_2 rfl rfl rfl ?_
    refine ok_bipush 5 37 dX12_lays_3 rfl rfl ?_
    refine ok_icmp_ge 26 8 dX12_lays_5 (by decide) rfl (fun _ => ?_) (fun _ => ?_)
    · refine ok_aload_n 27 0 dX12_lays_26 rfl rfl rfl ?_
      refine ok_iconst 28 0 dX12_lays_27 rfl rfl ?_
      refine ok_putZc 31 dX12_lays_28 rfl rfl F_EncoresModel_303 sg_123 rfl (Nat.le_of_ble_eq_true rfl) rfl rfl pZ_12_26 rfl ?_
      refine ok_bndM (fun m_28 => ?_)
      exact ok_vret dX12_lays_31 rfl
    · refine ok_aload_n 9 0 dX12_lays_8 rfl rfl rfl ?_
      refine ok_getR 12 dX12_lays_9 rfl rfl F_EncoresModel_19 sg_123 rfl (Nat.le_of_ble_eq_true rfl) rfl rfl ?_
      refine ok_iload_n 13 1 dX12_lays_12 rfl rfl rfl ?_
      refine ok_aload_n 14 0 dX12_lays_13 rfl rfl rfl ?_
      refine ok_getR 17 dX12_lays_14 rfl rfl F_EncoresModel_7 sg_123 rfl (Nat.le_of_ble_eq_true rfl) rfl rfl ?_
      refine ok_iload_n 18 1 dX12_lays_17 rfl rfl rfl ?_
      refine ok_iald 19 dX12_lays_18 rfl sg_124 ?_
      refine ok_iast 20 dX12_lays_19 rfl sg_127 ?_
      refine ok_bndM (fun m_19 => ?_)
      refine ok_iinc 23 1 1 [some (.ref 123), some (.int (s1_2 + 1))] dX12_lays_20 rfl rfl rfl (by decide) rfl ?_
      refine ok_goto 2 dX12_lays_23 (by decide) ?_
      exact ok_less [some (.ref 123), some (.int (s1_2 + 1))] (And.intro rfl (And.intro rfl (trivial))) (hX (s1_2 + 1) m_19))

set_option maxRecDepth 100000 in
set_option maxHeartbeats 4000000 in
theorem ok_X12_lays (N d : Nat)   (m : Mem) : Ok none SG (d + 0) m_X12_lays 0 [some (.ref 123), none] [] SG m (f_X12_lays N m) := by
  unfold f_X12_lays
  refine ok_iconst 1 0 dX12_lays_0 rfl rfl ?_
  refine ok_istore_n 2 1 [some (.ref 123), some (.int 0)] dX12_lays_1 rfl rfl (by decide) rfl ?_
  refine ok_less [some (.ref 123), some (.int 0)] (And.intro rfl (And.intro rfl (trivial))) ?_
  exact ok_X12_lays_L2 N d     N 0 m

theorem c_X12_lays (N d : Nat)   (m : Mem) : CM (d + 0) m_X12_lays SG SG [.ref 123] m (f_X12_lays N m) :=
  CM.ofOk km_X12_lays ⟨Nat.le_refl _, Nat.le_refl _⟩ (by simp [Value.category]) (Nat.le_of_ble_eq_true rfl) (ok_X12_lays N d  m)

def f_X12_putsBack_L2 (N : Nat)    (X : Int32 → Mem → Ans) (s1_2 : Int32) (m : Mem) : Ans :=
if (37 : Int32) ≤ s1_2 then (some (0, m))
else (chk (inb s1_2 37) <|
chk (inb s1_2 1707) <|
bnd (mset m 124 s1_2.toNatClampNeg (m 127 s1_2.toNatClampNeg)) fun m_19 =>
X (s1_2 + 1) m_19)

def f_X12_putsBack (N : Nat)  (m : Mem) : Ans :=
it1 (f_X12_putsBack_L2 N ) N 0 m

set_option maxRecDepth 100000 in
set_option maxHeartbeats 4000000 in
theorem ok_X12_putsBack_L2 (N d : Nat)     : ∀ (n : Nat) (s1_2 : Int32) (m : Mem), Ok none SG (d + 0) m_X12_putsBack 2 [some (.ref 123), some (.int s1_2)] [] SG m (it1 (f_X12_putsBack_L2 N) n s1_2 m) :=
  ok_it1 (fun s1_2 => [some (.ref 123), some (.int s1_2)]) (fun X hX s1_2 m => by
    try unfold f_X12_putsBack_L2
    refine ok_iload_n 3 1 dX12_putsBack_2 rfl rfl rfl ?_
    refine ok_bipush 5 37 dX12_putsBack_3 rfl rfl ?_
    refine ok_icmp_ge 26 8 dX12_putsBack_5 (by decide) rfl (fun _ => ?_) (fun _ => ?_)
    · exact ok_vret dX12_putsBack_26 rfl
    · refine ok_aload_n 9 0 dX12_putsBack_8 rfl rfl rfl ?_
      refine ok_getR 12 dX12_putsBack_9 rfl rfl F_EncoresModel_7 sg_123 rfl (Nat.le_of_ble_eq_true rfl) rfl rfl ?_
      refine ok_iload_n 13 1 dX12_putsBack_12 rfl rfl rfl ?_
      refine ok_aload_n 14 0 dX12_putsBack_13 rfl rfl rfl ?_
      refine ok_getR 17 dX12_putsBack_14 rfl rfl F_EncoresModel_19 sg_123 rfl (Nat.le_of_ble_eq_true rfl) rfl rfl ?_
      refine ok_iload_n 18 1 dX12_putsBack_17 rfl rfl rfl ?_
      refine ok_iald 19 dX12_putsBack_18 rfl sg_127 ?_
      refine ok_iast 20 dX12_putsBack_19 rfl sg_124 ?_
      refine ok_bndM (fun m_19 => ?_)
      refine ok_iinc 23 1 1 [some (.ref 123), some (.int (s1_2 + 1))] dX12_putsBack_20 rfl rfl rfl (by decide) rfl ?_
      refine ok_goto 2 dX12_putsBack_23 (by decide) ?_
      exact ok_less [some (.ref 123), some (.int (s1_2 + 1))] (And.intro rfl (And.intro rfl (trivial))) (hX (s1_2 + 1) m_19))

set_option maxRecDepth 100000 in
set_option maxHeartbeats 4000000 in
theorem ok_X12_putsBack (N d : Nat)   (m : Mem) : Ok none SG (d + 0) m_X12_putsBack 0 [some (.ref 123), none] [] SG m (f_X12_putsBack N m) := by
  unfold f_X12_putsBack
  refine ok_iconst 1 0 dX12_putsBack_0 rfl rfl ?_
  refine ok_istore_n 2 1 [some (.ref 123), some (.int 0)] dX12_putsBack_1 rfl rfl (by decide) rfl ?_
  refine ok_less [some (.ref 123), some (.int 0)] (And.intro rfl (And.intro rfl (trivial))) ?_
  exact ok_X12_putsBack_L2 N d     N 0 m

theorem c_X12_putsBack (N d : Nat)   (m : Mem) : CM (d + 0) m_X12_putsBack SG SG [.ref 123] m (f_X12_putsBack N m) :=
  CM.ofOk km_X12_putsBack ⟨Nat.le_refl _, Nat.le_refl _⟩ (by simp [Value.category]) (Nat.le_of_ble_eq_true rfl) (ok_X12_putsBack N d  m)

def f_X12_goes_J24 (N : Nat) (a1 : Int32)    (m : Mem) : Ans :=
bd (f_X12_lays N m) fun _ m_25 =>
bd (f_X12_anEvening N m_25) fun r_29 m_29 =>
if a1 = 0 then (bnd (m_29 124 0) fun a2_85 =>
bd (f_X12_putsBack N m_29) fun _ m_87 =>
some (a2_85, m_87))
else (if a1 = (1 : Int32) then (bnd (m_29 124 2) fun a2_85 =>
bd (f_X12_putsBack N m_29) fun _ m_87 =>
some (a2_85, m_87))
else (chk (inb (((29 : Int32) + a1) - (10 : Int32)) 1707) <|
chk (inb (((29 : Int32) + a1) - (10 : Int32)) 37) <|
bnd ((m_29 124 (((29 : Int32) + a1) - (10 : Int32)).toNatClampNeg) - (m_29 127 (((29 : Int32) + a1) - (10 : Int32)).toNatClampNeg)) fun a2_85 =>
bd (f_X12_putsBack N m_29) fun _ m_87 =>
some (a2_85, m_87)))

def f_X12_goes (N : Nat) (a1 : Int32) (m : Mem) : Ans :=
bd (f_X12_isIn N a1 0 1 m) fun r_3 m_3 =>
if r_3 = 0 then (bd (f_X12_isDeed N (a1 - (10 : Int32)) m_3) fun r_14 m_14 =>
if r_14 = 0 then (some ((-100000), m_14))
else (f_X12_goes_J24 N a1 m_14))
else (f_X12_goes_J24 N a1 m_3)

set_option maxRecDepth 100000 in
set_option maxHeartbeats 4000000 in
theorem ok_X12_goes_J24 (N d : Nat) (a1 : Int32)     (m : Mem) : Ok none SG (d + 9) m_X12_goes 24 [some (.ref 123), some (.int a1), none] [] SG m (f_X12_goes_J24 N a1 m) := by
  unfold f_X12_goes_J24
  refine ok_aload_n 25 0 dX12_goes_24 rfl rfl rfl ?_
  refine ok_callVv (np := 0) (M' := m_X12_lays) (As := []) (st := []) 28 dX12_goes_25 rfl rfl km_X12_lays ki_X12_lays kv_X12_lays ml_EncoresModel_377 (by decide) sg_123 rfl (Nat.le_of_ble_eq_true rfl) rfl rfl rfl (Nat.le_of_ble_eq_true rfl) (c_X12_lays N (d + 8) m) ⟨Nat.le_refl _, Nat.le_refl _⟩ (Or.inl rfl) rfl (fun _ m_25 _ => ?_)
  refine ok_aload_n 29 0 dX12_goes_28 rfl rfl rfl ?_
  refine ok_callVi (np := 0) (M' := m_X12_anEvening) (As := []) (st := []) 32 dX12_goes_29 rfl rfl km_X12_anEvening ki_X12_anEvening kv_X12_anEvening ml_EncoresModel_373 (by decide) sg_123 rfl (Nat.le_of_ble_eq_true rfl) rfl rfl rfl (Nat.le_of_ble_eq_true rfl) (c_X12_anEvening N (d + 0) m_25) ⟨Nat.le_refl _, Nat.le_refl _⟩ (Or.inl rfl) rfl (fun r_29 m_29 _ => ?_)
  refine ok_pop 33 dX12_goes_32 rfl rfl ?_
  refine ok_iload_n 34 1 dX12_goes_33 rfl rfl rfl ?_
  refine ok_if_ne 46 37 dX12_goes_34 (by decide) rfl (fun _ => ?_) (fun _ => ?_)
  · refine ok_iload_n 47 1 dX12_goes_46 rfl rfl rfl ?_
    refine ok_iconst 48 1 dX12_goes_47 rfl rfl ?_
    refine ok_icmp_ne 60 51 dX12_goes_48 (by decide) rfl (fun _ => ?_) (fun _ => ?_)
    · refine ok_aload_n 61 0 dX12_goes_60 rfl rfl rfl ?_
      refine ok_getR 64 dX12_goes_61 rfl rfl F_EncoresModel_7 sg_123 rfl (Nat.le_of_ble_eq_true rfl) rfl rfl ?_
      refine ok_bipush 66 29 dX12_goes_64 rfl rfl ?_
      refine ok_iload_n 67 1 dX12_goes_66 rfl rfl rfl ?_
      refine ok_iadd 68 dX12_goes_67 rfl ?_
      refine ok_bipush 70 10 dX12_goes_68 rfl rfl ?_
      refine ok_isub 71 dX12_goes_70 rfl ?_
      refine ok_iald 72 dX12_goes_71 rfl sg_124 ?_
      refine ok_aload_n 73 0 dX12_goes_72 rfl rfl rfl ?_
      refine ok_getR 76 dX12_goes_73 rfl rfl F_EncoresModel_19 sg_123 rfl (Nat.le_of_ble_eq_true rfl) rfl rfl ?_
      refine ok_bipush 78 29 dX12_goes_76 rfl rfl ?_
      refine ok_iload_n 79 1 dX12_goes_78 rfl rfl rfl ?_
      refine ok_iadd 80 dX12_goes_79 rfl ?_
      refine ok_bipush 82 10 dX12_goes_80 rfl rfl ?_
      refine ok_isub 83 dX12_goes_82 rfl ?_
      refine ok_iald 84 dX12_goes_83 rfl sg_127 ?_
      refine ok_isub 85 dX12_goes_84 rfl ?_
      refine ok_bndI (fun a2_85 => ?_)
      refine ok_istore_n 86 2 [some (.ref 123), some (.int a1), some (.int a2_85)] dX12_goes_85 rfl rfl (by decide) rfl ?_
      refine ok_aload_n 87 0 dX12_goes_86 rfl rfl rfl ?_
      refine ok_callVv (np := 0) (M' := m_X12_putsBack) (As := []) (st := []) 90 dX12_goes_87 rfl rfl km_X12_putsBack ki_X12_putsBack kv_X12_putsBack ml_EncoresModel_380 (by decide) sg_123 rfl (Nat.le_of_ble_eq_true rfl) rfl rfl rfl (Nat.le_of_ble_eq_true rfl) (c_X12_putsBack N (d + 8) m_29) ⟨Nat.le_refl _, Nat.le_refl _⟩ (Or.inl rfl) rfl (fun _ m_87 _ => ?_)
      refine ok_iload_n 91 2 dX12_goes_90 rfl rfl rfl ?_
      exact ok_iret dX12_goes_91 rfl
    · refine ok_aload_n 52 0 dX12_goes_51 rfl rfl rfl ?_
      refine ok_getR 55 dX12_goes_52 rfl rfl F_EncoresModel_7 sg_123 rfl (Nat.le_of_ble_eq_true rfl) rfl rfl ?_
      refine ok_iconst 56 2 dX12_goes_55 rfl rfl ?_
      refine ok_ialdc 57 2 dX12_goes_56 rfl sg_124 (by decide) (by decide) ?_
      refine ok_goto 85 dX12_goes_57 (by decide) ?_
      refine ok_bndI (fun a2_85 => ?_)
      refine ok_istore_n 86 2 [some (.ref 123), some (.int a1), some (.int a2_85)] dX12_goes_85 rfl rfl (by decide) rfl ?_
      refine ok_aload_n 87 0 dX12_goes_86 rfl rfl rfl ?_
      refine ok_callVv (np := 0) (M' := m_X12_putsBack) (As := []) (st := []) 90 dX12_goes_87 rfl rfl km_X12_putsBack ki_X12_putsBack kv_X12_putsBack ml_EncoresModel_380 (by decide) sg_123 rfl (Nat.le_of_ble_eq_true rfl) rfl rfl rfl (Nat.le_of_ble_eq_true rfl) (c_X12_putsBack N (d + 8) m_29) ⟨Nat.le_refl _, Nat.le_refl _⟩ (Or.inl rfl) rfl (fun _ m_87 _ => ?_)
      refine ok_iload_n 91 2 dX12_goes_90 rfl rfl rfl ?_
      exact ok_iret dX12_goes_91 rfl
  · refine ok_aload_n 38 0 dX12_goes_37 rfl rfl rfl ?_
    refine ok_getR 41 dX12_goes_38 rfl rfl F_EncoresModel_7 sg_123 rfl (Nat.le_of_ble_eq_true rfl) rfl rfl ?_
    refine ok_iconst 42 0 dX12_goes_41 rfl rfl ?_
    refine ok_ialdc 43 0 dX12_goes_42 rfl sg_124 (by decide) (by decide) ?_
    refine ok_goto 85 dX12_goes_43 (by decide) ?_
    refine ok_bndI (fun a2_85 => ?_)
    refine ok_istore_n 86 2 [some (.ref 123), some (.int a1), some (.int a2_85)] dX12_goes_85 rfl rfl (by decide) rfl ?_
    refine ok_aload_n 87 0 dX12_goes_86 rfl rfl rfl ?_
    refine ok_callVv (np := 0) (M' := m_X12_putsBack) (As := []) (st := []) 90 dX12_goes_87 rfl rfl km_X12_putsBack ki_X12_putsBack kv_X12_putsBack ml_EncoresModel_380 (by decide) sg_123 rfl (Nat.le_of_ble_eq_true rfl) rfl rfl rfl (Nat.le_of_ble_eq_true rfl) (c_X12_putsBack N (d + 8) m_29) ⟨Nat.le_refl _, Nat.le_refl _⟩ (Or.inl rfl) rfl (fun _ m_87 _ => ?_)
    refine ok_iload_n 91 2 dX12_goes_90 rfl rfl rfl ?_
    exact ok_iret dX12_goes_91 rfl

set_option maxRecDepth 100000 in
set_option maxHeartbeats 4000000 in
theorem ok_X12_goes (N d : Nat) (a1 : Int32)  (m : Mem) : Ok none SG (d + 9) m_X12_goes 0 [some (.ref 123), some (.int a1), none] [] SG m (f_X12_goes N a1 m) := by
  unfold f_X12_goes
  refine ok_iload_n 1 1 dX12_goes_0 rfl rfl rfl ?_
  refine ok_iconst 2 0 dX12_goes_1 rfl rfl ?_
  refine ok_iconst 3 1 dX12_goes_2 rfl rfl ?_
  refine ok_callSi (np := 3) (M' := m_X12_isIn) (As := [.int a1, .int 0, .int 1]) (st := []) 6 dX12_goes_3 rfl rfl km_X12_isIn ks_X12_isIn ml_EncoresModel_56 (by decide) rfl rfl (Nat.le_of_ble_eq_true rfl) (c_X12_isIn N (d + 8) a1 0 1 m) ⟨Nat.le_refl _, Nat.le_refl _⟩ (Or.inl rfl) rfl (fun r_3 m_3 _ => ?_)
  refine ok_if_ne 24 9 dX12_goes_6 (by decide) rfl (fun _ => ?_) (fun _ => ?_)
  · exact ok_less [some (.ref 123), some (.int a1), none] (And.intro rfl (And.intro rfl (trivial))) (ok_X12_goes_J24 N d a1   m_3)
  · refine ok_aload_n 10 0 dX12_goes_9 rfl rfl rfl ?_
    refine ok_iload_n 11 1 dX12_goes_10 rfl rfl rfl ?_
    refine ok_bipush 13 10 dX12_goes_11 rfl rfl ?_
    refine ok_isub 14 dX12_goes_13 rfl ?_
    refine ok_callVi (np := 1) (M' := m_X12_isDeed) (As := [.int (a1 - (10 : Int32))]) (st := []) 17 dX12_goes_14 rfl rfl km_X12_isDeed ki_X12_isDeed kv_X12_isDeed ml_EncoresModel_72 (by decide) sg_123 rfl (Nat.le_of_ble_eq_true rfl) rfl rfl rfl (Nat.le_of_ble_eq_true rfl) (c_X12_isDeed N (d + 7) (a1 - (10 : Int32)) m_3) ⟨Nat.le_refl _, Nat.le_refl _⟩ (Or.inl rfl) rfl (fun r_14 m_14 _ => ?_)
    refine ok_if_ne 24 20 dX12_goes_17 (by decide) rfl (fun _ => ?_) (fun _ => ?_)
    · exact ok_less [some (.ref 123), some (.int a1), none] (And.intro rfl (And.intro rfl (trivial))) (ok_X12_goes_J24 N d a1   m_14)
    · refine ok_ldcw 23 (-100000) dX12_goes_20 rfl rfl cn_EncoresModel_376 ?_
      exact ok_iret dX12_goes_23 rfl

theorem c_X12_goes (N d : Nat) (a1 : Int32)  (m : Mem) : CM (d + 9) m_X12_goes SG SG [.ref 123, .int a1] m (f_X12_goes N a1 m) :=
  CM.ofOk km_X12_goes ⟨Nat.le_refl _, Nat.le_refl _⟩ (by simp [Value.category]) (Nat.le_of_ble_eq_true rfl) (ok_X12_goes N d a1 m)

def f_X12_settles (N : Nat) (a1 : Int32) (a2 : Int32) (m : Mem) : Ans :=
bd (f_X12_isDeed N a1 m) fun r_2 m_2 =>
if r_2 = 0 then (some ((-1), m_2))
else (bd (f_X12_isIn N a2 0 2 m_2) fun r_11 m_11 =>
if r_11 = 0 then (some ((-1), m_11))
else (bd (f_X12_lays N m_11) fun _ m_20 =>
bd (f_X12_begins0 N a1 m_20) fun _ m_25 =>
bd (f_X12_claps N a1 m_25) fun _ m_30 =>
bd (f_X12_putsBack N m_30) fun _ m_34 =>
if a2 = 0 then (some (m_34 123 28, m_34))
else (if a2 = (1 : Int32) then (some (m_34 123 29, m_34))
else (some (m_34 123 30, m_34)))))

set_option maxRecDepth 100000 in
set_option maxHeartbeats 4000000 in
theorem ok_X12_settles (N d : Nat) (a1 : Int32) (a2 : Int32)  (m : Mem) : Ok none SG (d + 7) m_X12_settles 0 [some (.ref 123), some (.int a1), some (.int a2)] [] SG m (f_X12_settles N a1 a2 m) := by
  unfold f_X12_settles
  refine ok_aload_n 1 0 dX12_settles_0 rfl rfl rfl ?_
  refine ok_iload_n 2 1 dX12_settles_1 rfl rfl rfl ?_
  refine ok_callVi (np := 1) (M' := m_X12_isDeed) (As := [.int a1]) (st := []) 5 dX12_settles_2 rfl rfl km_X12_isDeed ki_X12_isDeed kv_X12_isDeed ml_EncoresModel_72 (by decide) sg_123 rfl (Nat.le_of_ble_eq_true rfl) rfl rfl rfl (Nat.le_of_ble_eq_true rfl) (c_X12_isDeed N (d + 5) a1 m) ⟨Nat.le_refl _, Nat.le_refl _⟩ (Or.inl rfl) rfl (fun r_2 m_2 _ => ?_)
  refine ok_if_eq 17 8 dX12_settles_5 (by decide) rfl (fun _ => ?_) (fun _ => ?_)
  · refine ok_iconst 18 (-1) dX12_settles_17 rfl rfl ?_
    exact ok_iret dX12_settles_18 rfl
  · refine ok_iload_n 9 2 dX12_settles_8 rfl rfl rfl ?_
    refine ok_iconst 10 0 dX12_settles_9 rfl rfl ?_
    refine ok_iconst 11 2 dX12_settles_10 rfl rfl ?_
    refine ok_callSi (np := 3) (M' := m_X12_isIn) (As := [.int a2, .int 0, .int 2]) (st := []) 14 dX12_settles_11 rfl rfl km_X12_isIn ks_X12_isIn ml_EncoresModel_56 (by decide) rfl rfl (Nat.le_of_ble_eq_true rfl) (c_X12_isIn N (d + 6) a2 0 2 m_2) ⟨Nat.le_refl _, Nat.le_refl _⟩ (Or.inl rfl) rfl (fun r_11 m_11 _ => ?_)
    refine ok_if_ne 19 17 dX12_settles_14 (by decide) rfl (fun _ => ?_) (fun _ => ?_)
    · refine ok_aload_n 20 0 dX12_settles_19 rfl rfl rfl ?_
      refine ok_callVv (np := 0) (M' := m_X12_lays) (As := []) (st := []) 23 dX12_settles_20 rfl rfl km_X12_lays ki_X12_lays kv_X12_lays ml_EncoresModel_377 (by decide) sg_123 rfl (Nat.le_of_ble_eq_true rfl) rfl rfl rfl (Nat.le_of_ble_eq_true rfl) (c_X12_lays N (d + 6) m_11) ⟨Nat.le_refl _, Nat.le_refl _⟩ (Or.inl rfl) rfl (fun _ m_20 _ => ?_)
      refine ok_aload_n 24 0 dX12_settles_23 rfl rfl rfl ?_
      refine ok_iload_n 25 1 dX12_settles_24 rfl rfl rfl ?_
      refine ok_callVv (np := 1) (M' := m_X12_begins0) (As := [.int a1]) (st := []) 28 dX12_settles_25 rfl rfl km_X12_begins0 ki_X12_begins0 kv_X12_begins0 ml_EncoresModel_361 (by decide) sg_123 rfl (Nat.le_of_ble_eq_true rfl) rfl rfl rfl (Nat.le_of_ble_eq_true rfl) (c_X12_begins0 N (d + 1) a1 m_20) ⟨Nat.le_refl _, Nat.le_refl _⟩ (Or.inl rfl) rfl (fun _ m_25 _ => ?_)
      refine ok_aload_n 29 0 dX12_settles_28 rfl rfl rfl ?_
      refine ok_iload_n 30 1 dX12_settles_29 rfl rfl rfl ?_
      refine ok_callVv (np := 1) (M' := m_X12_claps) (As := [.int a1]) (st := []) 33 dX12_settles_30 rfl rfl km_X12_claps ki_X12_claps kv_X12_claps ml_EncoresModel_364 (by decide) sg_123 rfl (Nat.le_of_ble_eq_true rfl) rfl rfl rfl (Nat.le_of_ble_eq_true rfl) (c_X12_claps N (d + 0) a1 m_25) ⟨Nat.le_refl _, Nat.le_refl _⟩ (Or.inl rfl) rfl (fun _ m_30 _ => ?_)
      refine ok_aload_n 34 0 dX12_settles_33 rfl rfl rfl ?_
      refine ok_callVv (np := 0) (M' := m_X12_putsBack) (As := []) (st := []) 37 dX12_settles_34 rfl rfl km_X12_putsBack ki_X12_putsBack kv_X12_putsBack ml_EncoresModel_380 (by decide) sg_123 rfl (Nat.le_of_ble_eq_true rfl) rfl rfl rfl (Nat.le_of_ble_eq_true rfl) (c_X12_putsBack N (d + 6) m_30) ⟨Nat.le_refl _, Nat.le_refl _⟩ (Or.inl rfl) rfl (fun _ m_34 _ => ?_)
      refine ok_iload_n 38 2 dX12_settles_37 rfl rfl rfl ?_
      refine ok_if_ne 48 41 dX12_settles_38 (by decide) rfl (fun _ => ?_) (fun _ => ?_)
      · refine ok_iload_n 49 2 dX12_settles_48 rfl rfl rfl ?_
        refine ok_iconst 50 1 dX12_settles_49 rfl rfl ?_
        refine ok_icmp_ne 60 53 dX12_settles_50 (by decide) rfl (fun _ => ?_) (fun _ => ?_)
        · refine ok_aload_n 61 0 dX12_settles_60 rfl rfl rfl ?_
          refine ok_getI 64 dX12_settles_61 rfl rfl F_EncoresModel_347 sg_123 rfl (Nat.le_of_ble_eq_true rfl) rfl ?_
          exact ok_iret dX12_settles_64 rfl
        · refine ok_aload_n 54 0 dX12_settles_53 rfl rfl rfl ?_
          refine ok_getI 57 dX12_settles_54 rfl rfl F_EncoresModel_331 sg_123 rfl (Nat.le_of_ble_eq_true rfl) rfl ?_
          refine ok_goto 64 dX12_settles_57 (by decide) ?_
          exact ok_iret dX12_settles_64 rfl
      · refine ok_aload_n 42 0 dX12_settles_41 rfl rfl rfl ?_
        refine ok_getI 45 dX12_settles_42 rfl rfl F_EncoresModel_316 sg_123 rfl (Nat.le_of_ble_eq_true rfl) rfl ?_
        refine ok_goto 64 dX12_settles_45 (by decide) ?_
        exact ok_iret dX12_settles_64 rfl
    · refine ok_iconst 18 (-1) dX12_settles_17 rfl rfl ?_
      exact ok_iret dX12_settles_18 rfl

theorem c_X12_settles (N d : Nat) (a1 : Int32) (a2 : Int32)  (m : Mem) : CM (d + 7) m_X12_settles SG SG [.ref 123, .int a1, .int a2] m (f_X12_settles N a1 a2 m) :=
  CM.ofOk km_X12_settles ⟨Nat.le_refl _, Nat.le_refl _⟩ (by simp [Value.category]) (Nat.le_of_ble_eq_true rfl) (ok_X12_settles N d a1 a2 m)

def f_X12_doneWithout (N : Nat) (a1 : Int32) (a2 : Int32) (m : Mem) : Ans :=
bd (f_X12_lays N m) fun _ m_1 =>
bnd (mset m_1 124 7 ((m_1 124 7) &&& (a2 ^^^ (-1 : Int32)))) fun m_16 =>
bd (f_X12_does N a1 m_16) fun r_19 m_19 =>
bd (f_X12_putsBack N m_19) fun _ m_24 =>
some (r_19, m_24)

set_option maxRecDepth 100000 in
set_option maxHeartbeats 4000000 in
theorem ok_X12_doneWithout (N d : Nat) (a1 : Int32) (a2 : Int32)  (m : Mem) : Ok none SG (d + 8) m_X12_doneWithout 0 [some (.ref 123), some (.int a1), some (.int a2), none] [] SG m (f_X12_doneWithout N a1 a2 m) := by
  unfold f_X12_doneWithout
  refine ok_aload_n 1 0 dX12_doneWithout_0 rfl rfl rfl ?_
  refine ok_callVv (np := 0) (M' := m_X12_lays) (As := []) (st := []) 4 dX12_doneWithout_1 rfl rfl km_X12_lays ki_X12_lays kv_X12_lays ml_EncoresModel_377 (by decide) sg_123 rfl (Nat.le_of_ble_eq_true rfl) rfl rfl rfl (Nat.le_of_ble_eq_true rfl) (c_X12_lays N (d + 7) m) ⟨Nat.le_refl _, Nat.le_refl _⟩ (Or.inl rfl) rfl (fun _ m_1 _ => ?_)
  refine ok_aload_n 5 0 dX12_doneWithout_4 rfl rfl rfl ?_
  refine ok_getR 8 dX12_doneWithout_5 rfl rfl F_EncoresModel_7 sg_123 rfl (Nat.le_of_ble_eq_true rfl) rfl rfl ?_
  refine ok_bipush 10 7 dX12_doneWithout_8 rfl rfl ?_
  refine ok_dup2 11 dX12_doneWithout_10 rfl rfl rfl ?_
  refine ok_ialdc 12 7 dX12_doneWithout_11 rfl sg_124 (by decide) (by decide) ?_
  refine ok_iload_n 13 2 dX12_doneWithout_12 rfl rfl rfl ?_
  refine ok_iconst 14 (-1) dX12_doneWithout_13 rfl rfl ?_
  refine ok_ixor 15 dX12_doneWithout_14 rfl ?_
  refine ok_iand 16 dX12_doneWithout_15 rfl ?_
  refine ok_iastc 17 7 dX12_doneWithout_16 rfl sg_124 (by decide) (by decide) ?_
  refine ok_bndM (fun m_16 => ?_)
  refine ok_aload_n 18 0 dX12_doneWithout_17 rfl rfl rfl ?_
  refine ok_iload_n 19 1 dX12_doneWithout_18 rfl rfl rfl ?_
  refine ok_callVi (np := 1) (M' := m_X12_does) (As := [.int a1]) (st := []) 22 dX12_doneWithout_19 rfl rfl km_X12_does ki_X12_does kv_X12_does ml_EncoresModel_370 (by decide) sg_123 rfl (Nat.le_of_ble_eq_true rfl) rfl rfl rfl (Nat.le_of_ble_eq_true rfl) (c_X12_does N (d + 0) a1 m_16) ⟨Nat.le_refl _, Nat.le_refl _⟩ (Or.inl rfl) rfl (fun r_19 m_19 _ => ?_)
  refine ok_istore_n 23 3 [some (.ref 123), some (.int a1), some (.int a2), some (.int r_19)] dX12_doneWithout_22 rfl rfl (by decide) rfl ?_
  refine ok_aload_n 24 0 dX12_doneWithout_23 rfl rfl rfl ?_
  refine ok_callVv (np := 0) (M' := m_X12_putsBack) (As := []) (st := []) 27 dX12_doneWithout_24 rfl rfl km_X12_putsBack ki_X12_putsBack kv_X12_putsBack ml_EncoresModel_380 (by decide) sg_123 rfl (Nat.le_of_ble_eq_true rfl) rfl rfl rfl (Nat.le_of_ble_eq_true rfl) (c_X12_putsBack N (d + 7) m_19) ⟨Nat.le_refl _, Nat.le_refl _⟩ (Or.inl rfl) rfl (fun _ m_24 _ => ?_)
  refine ok_iload_n 28 3 dX12_doneWithout_27 rfl rfl rfl ?_
  exact ok_iret dX12_doneWithout_28 rfl

theorem c_X12_doneWithout (N d : Nat) (a1 : Int32) (a2 : Int32)  (m : Mem) : CM (d + 8) m_X12_doneWithout SG SG [.ref 123, .int a1, .int a2] m (f_X12_doneWithout N a1 a2 m) :=
  CM.ofOk km_X12_doneWithout ⟨Nat.le_refl _, Nat.le_refl _⟩ (by simp [Value.category]) (Nat.le_of_ble_eq_true rfl) (ok_X12_doneWithout N d a1 a2 m)

def f_X12_makes_L34 (N : Nat) (a1 : Int32) (a2 : Int32) (a3 : Int32)  (K101 : Int32 → Mem → Ans) (X : Int32 → Int32 → Mem → Ans) (s4_34 : Int32) (s5_34 : Int32) (m : Mem) : Ans :=
if (m 124 7) < s5_34 then (K101 s4_34 m)
else (if (s5_34 &&& ((m 124 7) ^^^ (-1 : Int32))) = 0 then (if s4_34 = (-1 : Int32) then (bd (f_X12_doneWithout N a1 s5_34 m) fun r_84 m_84 =>
if r_84 = a2 then (X s5_34 (s5_34 + 1) m_84)
else (X s4_34 (s5_34 + 1) m_84))
else (bd (f_X12_count N s5_34 m) fun r_69 m_69 =>
bd (f_X12_count N s4_34 m_69) fun r_74 m_74 =>
if r_74 ≤ r_69 then (X s4_34 (s5_34 + 1) m_74)
else (bd (f_X12_doneWithout N a1 s5_34 m_74) fun r_84 m_84 =>
if r_84 = a2 then (X s5_34 (s5_34 + 1) m_84)
else (X s4_34 (s5_34 + 1) m_84))))
else (X s4_34 (s5_34 + 1) m))

def f_X12_makes (N : Nat) (a1 : Int32) (a2 : Int32) (a3 : Int32) (m : Mem) : Ans :=
bd (f_X12_isDeed N a1 m) fun r_2 m_2 =>
if r_2 = 0 then (some ((-1), m_2))
else (bd (f_X12_isIn N a2 1 5 m_2) fun r_11 m_11 =>
if r_11 = 0 then (some ((-1), m_11))
else (bd (f_X12_isIn N a3 0 1 m_11) fun r_20 m_20 =>
if r_20 = 0 then (some ((-1), m_20))
else (it2 (f_X12_makes_L34 N a1 a2 a3 (fun k4_101 mk101 => if k4_101 = (-1 : Int32) then (some (k4_101, mk101))
else (if a3 = (1 : Int32) then (some (k4_101, mk101))
else (bd (f_X12_count N k4_101 mk101) fun r_119 m_119 =>
some (r_119, m_119))))) N (-1) 0 m_20)))

set_option maxRecDepth 100000 in
set_option maxHeartbeats 4000000 in
theorem ok_X12_makes_L34 (N d : Nat) (a1 : Int32) (a2 : Int32) (a3 : Int32)   (K101 : Int32 → Mem → Ans) (hK101 : ∀ (k4 : Int32) (m : Mem), Ok none SG (d + 9) m_X12_makes 101 [none, none, none, some (.int a3), some (.int k4), none] [] SG m (K101 k4 m)) : ∀ (n : Nat) (s4_34 : Int32) (s5_34 : Int32) (m : Mem), Ok none SG (d + 9) m_X12_makes 34 [some (.ref 123), some (.int a1), some (.int a2), some (.int a3), some (.int s4_34), some (.int s5_34)] [] SG m (it2 (f_X12_makes_L34 N a1 a2 a3 K101) n s4_34 s5_34 m) :=
  ok_it2 (fun s4_34 s5_34 => [some (.ref 123), some (.int a1), some (.int a2), some (.int a3), some (.int s4_34), some (.int s5_34)]) (fun X hX s4_34 s5_34 m => by
    try unfold f_X12_makes_L34
    refine ok_iload 36 5 dX12_makes_34 rfl rfl ?_
    refine ok_aload_n 37 0 dX12_makes_36 rfl rfl rfl ?_
    refine ok_getR 40 dX12_makes_37 rfl rfl F_EncoresModel_7 sg_123 rfl (Nat.le_of_ble_eq_true rfl) rfl rfl ?_
    refine ok_bipush 42 7 dX12_makes_40 rfl rfl ?_
    refine ok_ialdc 43 7 dX12_makes_42 rfl sg_124 (by decide) (by decide) ?_
    refine ok_icmp_gt 101 46 dX12_makes_43 (by decide) rfl (fun _ => ?_) (fun _ => ?_)
    · exact ok_less [none, none, none, some (.int a3), some (.int s4_34), none] (And.intro rfl (And.intro rfl (trivial))) (hK101 s4_34 m)
    · refine ok_iload 48 5 dX12_makes_46 rfl rfl ?_
      refine ok_aload_n 49 0 dX12_makes_48 rfl rfl rfl ?_
      refine ok_getR 52 dX12_makes_49 rfl rfl F_EncoresModel_7 sg_123 rfl (Nat.le_of_ble_eq_true rfl) rfl rfl ?_
      refine ok_bipush 54 7 dX12_makes_52 rfl rfl ?_
      refine ok_ialdc 55 7 dX12_makes_54 rfl sg_124 (by decide) (by decide) ?_
      refine ok_iconst 56 (-1) dX12_makes_55 rfl rfl ?_
      refine ok_ixor 57 dX12_makes_56 rfl ?_
      refine ok_iand 58 dX12_makes_57 rfl ?_
      refine ok_if_ne 95 61 dX12_makes_58 (by decide) rfl (fun _ => ?_) (fun _ => ?_)
      · refine ok_iinc 98 5 1 [some (.ref 123), some (.int a1), some (.int a2), some (.int a3), some (.int s4_34), some (.int (s5_34 + 1))] dX12_makes_95 rfl rfl rfl (by decide) rfl ?_
        refine ok_goto 34 dX12_makes_98 (by decide) ?_
        exact ok_less [some (.ref 123), some (.int a1), some (.int a2), some (.int a3), some (.int s4_34), some (.int (s5_34 + 1))] (And.intro rfl (And.intro rfl (And.intro rfl (And.intro rfl (And.intro rfl (And.intro rfl (trivial))))))) (hX s4_34 (s5_34 + 1) m)
      · refine ok_iload 63 4 dX12_makes_61 rfl rfl ?_
        refine ok_iconst 64 (-1) dX12_makes_63 rfl rfl ?_
        refine ok_icmp_eq 80 67 dX12_makes_64 (by decide) rfl (fun _ => ?_) (fun _ => ?_)
        · refine ok_aload_n 81 0 dX12_makes_80 rfl rfl rfl ?_
          refine ok_iload_n 82 1 dX12_makes_81 rfl rfl rfl ?_
          refine ok_iload 84 5 dX12_makes_82 rfl rfl ?_
          refine ok_callVi (np := 2) (M' := m_X12_doneWithout) (As := [.int a1, .int s5_34]) (st := []) 87 dX12_makes_84 rfl rfl km_X12_doneWithout ki_X12_doneWithout kv_X12_doneWithout ml_EncoresModel_383 (by decide) sg_123 rfl (Nat.le_of_ble_eq_true rfl) rfl rfl rfl (Nat.le_of_ble_eq_true rfl) (c_X12_doneWithout N (d + 0) a1 s5_34 m) ⟨Nat.le_refl _, Nat.le_refl _⟩ (Or.inl rfl) rfl (fun r_84 m_84 _ => ?_)
          refine ok_iload_n 88 2 dX12_makes_87 rfl rfl rfl ?_
          refine ok_icmp_ne 95 91 dX12_makes_88 (by decide) rfl (fun _ => ?_) (fun _ => ?_)
          · refine ok_iinc 98 5 1 [some (.ref 123), some (.int a1), some (.int a2), some (.int a3), some (.int s4_34), some (.int (s5_34 + 1))] dX12_makes_95 rfl rfl rfl (by decide) rfl ?_
            refine ok_goto 34 dX12_makes_98 (by decide) ?_
            exact ok_less [some (.ref 123), some (.int a1), some (.int a2), some (.int a3), some (.int s4_34), some (.int (s5_34 + 1))] (And.intro rfl (And.intro rfl (And.intro rfl (And.intro rfl (And.intro rfl (And.intro rfl (trivial))))))) (hX s4_34 (s5_34 + 1) m_84)
          · refine ok_iload 93 5 dX12_makes_91 rfl rfl ?_
            refine ok_istore 95 4 [some (.ref 123), some (.int a1), some (.int a2), some (.int a3), some (.int s5_34), some (.int s5_34)] dX12_makes_93 rfl (by decide) rfl ?_
            refine ok_iinc 98 5 1 [some (.ref 123), some (.int a1), some (.int a2), some (.int a3), some (.int s5_34), some (.int (s5_34 + 1))] dX12_makes_95 rfl rfl rfl (by decide) rfl ?_
            refine ok_goto 34 dX12_makes_98 (by decide) ?_
            exact ok_less [some (.ref 123), some (.int a1), some (.int a2), some (.int a3), some (.int s5_34), some (.int (s5_34 + 1))] (And.intro rfl (And.intro rfl (And.intro rfl (And.intro rfl (And.intro rfl (And.intro rfl (trivial))))))) (hX s5_34 (s5_34 + 1) m_84)
        · refine ok_iload 69 5 dX12_makes_67 rfl rfl ?_
          refine ok_callSi (np := 1) (M' := m_X12_count) (As := [.int s5_34]) (st := []) 72 dX12_makes_69 rfl rfl km_X12_count ks_X12_count ml_EncoresModel_319 (by decide) rfl rfl (Nat.le_of_ble_eq_true rfl) (c_X12_count N (d + 8) s5_34 m) ⟨Nat.le_refl _, Nat.le_refl _⟩ (Or.inl rfl) rfl (fun r_69 m_69 _ => ?_)
          refine ok_iload 74 4 dX12_makes_72 rfl rfl ?_
          refine ok_callSi (np := 1) (M' := m_X12_count) (As := [.int s4_34]) (st := [.int r_69]) 77 dX12_makes_74 rfl rfl km_X12_count ks_X12_count ml_EncoresModel_319 (by decide) rfl rfl (Nat.le_of_ble_eq_true rfl) (c_X12_count N (d + 8) s4_34 m_69) ⟨Nat.le_refl _, Nat.le_refl _⟩ (Or.inl rfl) rfl (fun r_74 m_74 _ => ?_)
          refine ok_icmp_ge 95 80 dX12_makes_77 (by decide) rfl (fun _ => ?_) (fun _ => ?_)
          · refine ok_iinc 98 5 1 [some (.ref 123), some (.int a1), some (.int a2), some (.int a3), some (.int s4_34), some (.int (s5_34 + 1))] dX12_makes_95 rfl rfl rfl (by decide) rfl ?_
            refine ok_goto 34 dX12_makes_98 (by decide) ?_
            exact ok_less [some (.ref 123), some (.int a1), some (.int a2), some (.int a3), some (.int s4_34), some (.int (s5_34 + 1))] (And.intro rfl (And.intro rfl (And.intro rfl (And.intro rfl (And.intro rfl (And.intro rfl (trivial))))))) (hX s4_34 (s5_34 + 1) m_74)
          · refine ok_aload_n 81 0 dX12_makes_80 rfl rfl rfl ?_
            refine ok_iload_n 82 1 dX12_makes_81 rfl rfl rfl ?_
            refine ok_iload 84 5 dX12_makes_82 rfl rfl ?_
            refine ok_callVi (np := 2) (M' := m_X12_doneWithout) (As := [.int a1, .int s5_34]) (st := []) 87 dX12_makes_84 rfl rfl km_X12_doneWithout ki_X12_doneWithout kv_X12_doneWithout ml_EncoresModel_383 (by decide) sg_123 rfl (Nat.le_of_ble_eq_true rfl) rfl rfl rfl (Nat.le_of_ble_eq_true rfl) (c_X12_doneWithout N (d + 0) a1 s5_34 m_74) ⟨Nat.le_refl _, Nat.le_refl _⟩ (Or.inl rfl) rfl (fun r_84 m_84 _ => ?_)
            refine ok_iload_n 88 2 dX12_makes_87 rfl rfl rfl ?_
            refine ok_icmp_ne 95 91 dX12_makes_88 (by decide) rfl (fun _ => ?_) (fun _ => ?_)
            · refine ok_iinc 98 5 1 [some (.ref 123), some (.int a1), some (.int a2), some (.int a3), some (.int s4_34), some (.int (s5_34 + 1))] dX12_makes_95 rfl rfl rfl (by decide) rfl ?_
              refine ok_goto 34 dX12_makes_98 (by decide) ?_
              exact ok_less [some (.ref 123), some (.int a1), some (.int a2), some (.int a3), some (.int s4_34), some (.int (s5_34 + 1))] (And.intro rfl (And.intro rfl (And.intro rfl (And.intro rfl (And.intro rfl (And.intro rfl (trivial))))))) (hX s4_34 (s5_34 + 1) m_84)
            · refine ok_iload 93 5 dX12_makes_91 rfl rfl ?_
              refine ok_istore 95 4 [some (.ref 123), some (.int a1), some (.int a2), some (.int a3), some (.int s5_34), some (.int s5_34)] dX12_makes_93 rfl (by decide) rfl ?_
              refine ok_iinc 98 5 1 [some (.ref 123), some (.int a1), some (.int a2), some (.int a3), some (.int s5_34), some (.int (s5_34 + 1))] dX12_makes_95 rfl rfl rfl (by decide) rfl ?_
              refine ok_goto 34 dX12_makes_98 (by decide) ?_
              exact ok_less [some (.ref 123), some (.int a1), some (.int a2), some (.int a3), some (.int s5_34), some (.int (s5_34 + 1))] (And.intro rfl (And.intro rfl (And.intro rfl (And.intro rfl (And.intro rfl (And.intro rfl (trivial))))))) (hX s5_34 (s5_34 + 1) m_84))

set_option maxRecDepth 100000 in
set_option maxHeartbeats 4000000 in
theorem ok_X12_makes (N d : Nat) (a1 : Int32) (a2 : Int32) (a3 : Int32)  (m : Mem) : Ok none SG (d + 9) m_X12_makes 0 [some (.ref 123), some (.int a1), some (.int a2), some (.int a3), none, none] [] SG m (f_X12_makes N a1 a2 a3 m) := by
  unfold f_X12_makes
  refine ok_aload_n 1 0 dX12_makes_0 rfl rfl rfl ?_
  refine ok_iload_n 2 1 dX12_makes_1 rfl rfl rfl ?_
  refine ok_callVi (np := 1) (M' := m_X12_isDeed) (As := [.int a1]) (st := []) 5 dX12_makes_2 rfl rfl km_X12_isDeed ki_X12_isDeed kv_X12_isDeed ml_EncoresModel_72 (by decide) sg_123 rfl (Nat.le_of_ble_eq_true rfl) rfl rfl rfl (Nat.le_of_ble_eq_true rfl) (c_X12_isDeed N (d + 7) a1 m) ⟨Nat.le_refl _, Nat.le_refl _⟩ (Or.inl rfl) rfl (fun r_2 m_2 _ => ?_)
  refine ok_if_eq 26 8 dX12_makes_5 (by decide) rfl (fun _ => ?_) (fun _ => ?_)
  · refine ok_iconst 27 (-1) dX12_makes_26 rfl rfl ?_
    exact ok_iret dX12_makes_27 rfl
  · refine ok_iload_n 9 2 dX12_makes_8 rfl rfl rfl ?_
    refine ok_iconst 10 1 dX12_makes_9 rfl rfl ?_
    refine ok_iconst 11 5 dX12_makes_10 rfl rfl ?_
    refine ok_callSi (np := 3) (M' := m_X12_isIn) (As := [.int a2, .int 1, .int 5]) (st := []) 14 dX12_makes_11 rfl rfl km_X12_isIn ks_X12_isIn ml_EncoresModel_56 (by decide) rfl rfl (Nat.le_of_ble_eq_true rfl) (c_X12_isIn N (d + 8) a2 1 5 m_2) ⟨Nat.le_refl _, Nat.le_refl _⟩ (Or.inl rfl) rfl (fun r_11 m_11 _ => ?_)
    refine ok_if_eq 26 17 dX12_makes_14 (by decide) rfl (fun _ => ?_) (fun _ => ?_)
    · refine ok_iconst 27 (-1) dX12_makes_26 rfl rfl ?_
      exact ok_iret dX12_makes_27 rfl
    · refine ok_iload_n 18 3 dX12_makes_17 rfl rfl rfl ?_
      refine ok_iconst 19 0 dX12_makes_18 rfl rfl ?_
      refine ok_iconst 20 1 dX12_makes_19 rfl rfl ?_
      refine ok_callSi (np := 3) (M' := m_X12_isIn) (As := [.int a3, .int 0, .int 1]) (st := []) 23 dX12_makes_20 rfl rfl km_X12_isIn ks_X12_isIn ml_EncoresModel_56 (by decide) rfl rfl (Nat.le_of_ble_eq_true rfl) (c_X12_isIn N (d + 8) a3 0 1 m_11) ⟨Nat.le_refl _, Nat.le_refl _⟩ (Or.inl rfl) rfl (fun r_20 m_20 _ => ?_)
      refine ok_if_ne 28 26 dX12_makes_23 (by decide) rfl (fun _ => ?_) (fun _ => ?_)
      · refine ok_iconst 29 (-1) dX12_makes_28 rfl rfl ?_
        refine ok_istore 31 4 [some (.ref 123), some (.int a1), some (.int a2), some (.int a3), some (.int (-1)), none] dX12_makes_29 rfl (by decide) rfl ?_
        refine ok_iconst 32 0 dX12_makes_31 rfl rfl ?_
        refine ok_istore 34 5 [some (.ref 123), some (.int a1), some (.int a2), some (.int a3), some (.int (-1)), some (.int 0)] dX12_makes_32 rfl (by decide) rfl ?_
        refine ok_less [some (.ref 123), some (.int a1), some (.int a2), some (.int a3), some (.int (-1)), some (.int 0)] (And.intro rfl (And.intro rfl (And.intro rfl (And.intro rfl (And.intro rfl (And.intro rfl (trivial))))))) ?_
        exact ok_X12_makes_L34 N d a1 a2 a3  _ (fun k4_101 mk101 => by
            refine ok_iload 103 4 dX12_makes_101 rfl rfl ?_
            refine ok_iconst 104 (-1) dX12_makes_103 rfl rfl ?_
            refine ok_icmp_eq 112 107 dX12_makes_104 (by decide) rfl (fun _ => ?_) (fun _ => ?_)
            · refine ok_iload 114 4 dX12_makes_112 rfl rfl ?_
              refine ok_goto 122 dX12_makes_114 (by decide) ?_
              exact ok_iret dX12_makes_122 rfl
            · refine ok_iload_n 108 3 dX12_makes_107 rfl rfl rfl ?_
              refine ok_iconst 109 1 dX12_makes_108 rfl rfl ?_
              refine ok_icmp_ne 117 112 dX12_makes_109 (by decide) rfl (fun _ => ?_) (fun _ => ?_)
              · refine ok_iload 119 4 dX12_makes_117 rfl rfl ?_
                refine ok_callSi (np := 1) (M' := m_X12_count) (As := [.int k4_101]) (st := []) 122 dX12_makes_119 rfl rfl km_X12_count ks_X12_count ml_EncoresModel_319 (by decide) rfl rfl (Nat.le_of_ble_eq_true rfl) (c_X12_count N (d + 8) k4_101 mk101) ⟨Nat.le_refl _, Nat.le_refl _⟩ (Or.inl rfl) rfl (fun r_119 m_119 _ => ?_)
                exact ok_iret dX12_makes_122 rfl
              · refine ok_iload 114 4 dX12_makes_112 rfl rfl ?_
                refine ok_goto 122 dX12_makes_114 (by decide) ?_
                exact ok_iret dX12_makes_122 rfl) N (-1) 0 m_20
      · refine ok_iconst 27 (-1) dX12_makes_26 rfl rfl ?_
        exact ok_iret dX12_makes_27 rfl

theorem c_X12_makes (N d : Nat) (a1 : Int32) (a2 : Int32) (a3 : Int32)  (m : Mem) : CM (d + 9) m_X12_makes SG SG [.ref 123, .int a1, .int a2, .int a3] m (f_X12_makes N a1 a2 a3 m) :=
  CM.ofOk km_X12_makes ⟨Nat.le_refl _, Nat.le_refl _⟩ (by simp [Value.category]) (Nat.le_of_ble_eq_true rfl) (ok_X12_makes N d a1 a2 a3 m)

def f_X12_doneWithGloves (N : Nat) (a1 : Int32) (a2 : Int32) (m : Mem) : Ans :=
bd (f_X12_lays N m) fun _ m_1 =>
bnd (mset m_1 124 8 ((m_1 124 8) ||| a2)) fun m_14 =>
bd (f_X12_does N a1 m_14) fun r_17 m_17 =>
bd (f_X12_putsBack N m_17) fun _ m_22 =>
some (r_17, m_22)

set_option maxRecDepth 100000 in
set_option maxHeartbeats 4000000 in
theorem ok_X12_doneWithGloves (N d : Nat) (a1 : Int32) (a2 : Int32)  (m : Mem) : Ok none SG (d + 8) m_X12_doneWithGloves 0 [some (.ref 123), some (.int a1), some (.int a2), none] [] SG m (f_X12_doneWithGloves N a1 a2 m) := by
  unfold f_X12_doneWithGloves
  refine ok_aload_n 1 0 dX12_doneWithGloves_0 rfl rfl rfl ?_
  refine ok_callVv (np := 0) (M' := m_X12_lays) (As := []) (st := []) 4 dX12_doneWithGloves_1 rfl rfl km_X12_lays ki_X12_lays kv_X12_lays ml_EncoresModel_377 (by decide) sg_123 rfl (Nat.le_of_ble_eq_true rfl) rfl rfl rfl (Nat.le_of_ble_eq_true rfl) (c_X12_lays N (d + 7) m) ⟨Nat.le_refl _, Nat.le_refl _⟩ (Or.inl rfl) rfl (fun _ m_1 _ => ?_)
  refine ok_aload_n 5 0 dX12_doneWithGloves_4 rfl rfl rfl ?_
  refine ok_getR 8 dX12_doneWithGloves_5 rfl rfl F_EncoresModel_7 sg_123 rfl (Nat.le_of_ble_eq_true rfl) rfl rfl ?_
  refine ok_bipush 10 8 dX12_doneWithGloves_8 rfl rfl ?_
  refine ok_dup2 11 dX12_doneWithGloves_10 rfl rfl rfl ?_
  refine ok_ialdc 12 8 dX12_doneWithGloves_11 rfl sg_124 (by decide) (by decide) ?_
  refine ok_iload_n 13 2 dX12_doneWithGloves_12 rfl rfl rfl ?_
  refine ok_ior 14 dX12_doneWithGloves_13 rfl ?_
  refine ok_iastc 15 8 dX12_doneWithGloves_14 rfl sg_124 (by decide) (by decide) ?_
  refine ok_bndM (fun m_14 => ?_)
  refine ok_aload_n 16 0 dX12_doneWithGloves_15 rfl rfl rfl ?_
  refine ok_iload_n 17 1 dX12_doneWithGloves_16 rfl rfl rfl ?_
  refine ok_callVi (np := 1) (M' := m_X12_does) (As := [.int a1]) (st := []) 20 dX12_doneWithGloves_17 rfl rfl km_X12_does ki_X12_does kv_X12_does ml_EncoresModel_370 (by decide) sg_123 rfl (Nat.le_of_ble_eq_true rfl) rfl rfl rfl (Nat.le_of_ble_eq_true rfl) (c_X12_does N (d + 0) a1 m_14) ⟨Nat.le_refl _, Nat.le_refl _⟩ (Or.inl rfl) rfl (fun r_17 m_17 _ => ?_)
  refine ok_istore_n 21 3 [some (.ref 123), some (.int a1), some (.int a2), some (.int r_17)] dX12_doneWithGloves_20 rfl rfl (by decide) rfl ?_
  refine ok_aload_n 22 0 dX12_doneWithGloves_21 rfl rfl rfl ?_
  refine ok_callVv (np := 0) (M' := m_X12_putsBack) (As := []) (st := []) 25 dX12_doneWithGloves_22 rfl rfl km_X12_putsBack ki_X12_putsBack kv_X12_putsBack ml_EncoresModel_380 (by decide) sg_123 rfl (Nat.le_of_ble_eq_true rfl) rfl rfl rfl (Nat.le_of_ble_eq_true rfl) (c_X12_putsBack N (d + 7) m_17) ⟨Nat.le_refl _, Nat.le_refl _⟩ (Or.inl rfl) rfl (fun _ m_22 _ => ?_)
  refine ok_iload_n 26 3 dX12_doneWithGloves_25 rfl rfl rfl ?_
  exact ok_iret dX12_doneWithGloves_26 rfl

theorem c_X12_doneWithGloves (N d : Nat) (a1 : Int32) (a2 : Int32)  (m : Mem) : CM (d + 8) m_X12_doneWithGloves SG SG [.ref 123, .int a1, .int a2] m (f_X12_doneWithGloves N a1 a2 m) :=
  CM.ofOk km_X12_doneWithGloves ⟨Nat.le_refl _, Nat.le_refl _⟩ (by simp [Value.category]) (Nat.le_of_ble_eq_true rfl) (ok_X12_doneWithGloves N d a1 a2 m)

def f_X12_brakes_L43 (N : Nat) (a1 : Int32) (a2 : Int32) (a3_36 : Int32) (K98 : Int32 → Mem → Ans) (X : Int32 → Int32 → Mem → Ans) (s4_43 : Int32) (s5_43 : Int32) (m : Mem) : Ans :=
if a3_36 < s5_43 then (K98 s4_43 m)
else (if (s5_43 &&& (a3_36 ^^^ (-1 : Int32))) = 0 then (if s4_43 = (-1 : Int32) then (bd (f_X12_doneWithGloves N a1 s5_43 m) fun r_81 m_81 =>
if r_81 = (1 : Int32) then (X s5_43 (s5_43 + 1) m_81)
else (X s4_43 (s5_43 + 1) m_81))
else (bd (f_X12_count N s5_43 m) fun r_66 m_66 =>
bd (f_X12_count N s4_43 m_66) fun r_71 m_71 =>
if r_71 ≤ r_66 then (X s4_43 (s5_43 + 1) m_71)
else (bd (f_X12_doneWithGloves N a1 s5_43 m_71) fun r_81 m_81 =>
if r_81 = (1 : Int32) then (X s5_43 (s5_43 + 1) m_81)
else (X s4_43 (s5_43 + 1) m_81))))
else (X s4_43 (s5_43 + 1) m))

def f_X12_brakes (N : Nat) (a1 : Int32) (a2 : Int32) (m : Mem) : Ans :=
bd (f_X12_isDeed N a1 m) fun r_2 m_2 =>
if r_2 = 0 then (some ((-1), m_2))
else (bd (f_X12_isIn N a2 0 1 m_2) fun r_11 m_11 =>
if r_11 = 0 then (some ((-1), m_11))
else (bnd ((m_11 124 7) &&& ((m_11 124 8) ^^^ (-1 : Int32))) fun a3_36 =>
it2 (f_X12_brakes_L43 N a1 a2 a3_36 (fun k4_98 mk98 => if k4_98 = (-1 : Int32) then (some (k4_98, mk98))
else (if a2 = (1 : Int32) then (some (k4_98, mk98))
else (bd (f_X12_count N k4_98 mk98) fun r_116 m_116 =>
some (r_116, m_116))))) N (-1) 0 m_11))

set_option maxRecDepth 100000 in
set_option maxHeartbeats 4000000 in
theorem ok_X12_brakes_L43 (N d : Nat) (a1 : Int32) (a2 : Int32)  (a3_36 : Int32) (K98 : Int32 → Mem → Ans) (hK98 : ∀ (k4 : Int32) (m : Mem), Ok none SG (d + 9) m_X12_brakes 98 [none, none, some (.int a2), none, some (.int k4), none] [] SG m (K98 k4 m)) : ∀ (n : Nat) (s4_43 : Int32) (s5_43 : Int32) (m : Mem), Ok none SG (d + 9) m_X12_brakes 43 [some (.ref 123), some (.int a1), some (.int a2), some (.int a3_36), some (.int s4_43), some (.int s5_43)] [] SG m (it2 (f_X12_brakes_L43 N a1 a2 a3_36 K98) n s4_43 s5_43 m) :=
  ok_it2 (fun s4_43 s5_43 => [some (.ref 123), some (.int a1), some (.int a2), some (.int a3_36), some (.int s4_43), some (.int s5_43)]) (fun X hX s4_43 s5_43 m => by
    try unfold f_X12_brakes_L43
    refine ok_iload 45 5 dX12_brakes_43 rfl rfl ?_
    refine ok_iload_n 46 3 dX12_brakes_45 rfl rfl rfl ?_
    refine ok_icmp_gt 98 49 dX12_brakes_46 (by decide) rfl (fun _ => ?_) (fun _ => ?_)
    · exact ok_less [none, none, some (.int a2), none, some (.int s4_43), none] (And.intro rfl (And.intro rfl (trivial))) (hK98 s4_43 m)
    · refine ok_iload 51 5 dX12_brakes_49 rfl rfl ?_
      refine ok_iload_n 52 3 dX12_brakes_51 rfl rfl rfl ?_
      refine ok_iconst 53 (-1) dX12_brakes_52 rfl rfl ?_
      refine ok_ixor 54 dX12_brakes_53 rfl ?_
      refine ok_iand 55 dX12_brakes_54 rfl ?_
      refine ok_if_ne 92 58 dX12_brakes_55 (by decide) rfl (fun _ => ?_) (fun _ => ?_)
      · refine ok_iinc 95 5 1 [some (.ref 123), some (.int a1), some (.int a2), some (.int a3_36), some (.int s4_43), some (.int (s5_43 + 1))] dX12_brakes_92 rfl rfl rfl (by decide) rfl ?_
        refine ok_goto 43 dX12_brakes_95 (by decide) ?_
        exact ok_less [some (.ref 123), some (.int a1), some (.int a2), some (.int a3_36), some (.int s4_43), some (.int (s5_43 + 1))] (And.intro rfl (And.intro rfl (And.intro rfl (And.intro rfl (And.intro rfl (And.intro rfl (trivial))))))) (hX s4_43 (s5_43 + 1) m)
      · refine ok_iload 60 4 dX12_brakes_58 rfl rfl ?_
        refine ok_iconst 61 (-1) dX12_brakes_60 rfl rfl ?_
        refine ok_icmp_eq 77 64 dX12_brakes_61 (by decide) rfl (fun _ => ?_) (fun _ => ?_)
        · refine ok_aload_n 78 0 dX12_brakes_77 rfl rfl rfl ?_
          refine ok_iload_n 79 1 dX12_brakes_78 rfl rfl rfl ?_
          refine ok_iload 81 5 dX12_brakes_79 rfl rfl ?_
          refine ok_callVi (np := 2) (M' := m_X12_doneWithGloves) (As := [.int a1, .int s5_43]) (st := []) 84 dX12_brakes_81 rfl rfl km_X12_doneWithGloves ki_X12_doneWithGloves kv_X12_doneWithGloves ml_EncoresModel_386 (by decide) sg_123 rfl (Nat.le_of_ble_eq_true rfl) rfl rfl rfl (Nat.le_of_ble_eq_true rfl) (c_X12_doneWithGloves N (d + 0) a1 s5_43 m) ⟨Nat.le_refl _, Nat.le_refl _⟩ (Or.inl rfl) rfl (fun r_81 m_81 _ => ?_)
          refine ok_iconst 85 1 dX12_brakes_84 rfl rfl ?_
          refine ok_icmp_ne 92 88 dX12_brakes_85 (by decide) rfl (fun _ => ?_) (fun _ => ?_)
          · refine ok_iinc 95 5 1 [some (.ref 123), some (.int a1), some (.int a2), some (.int a3_36), some (.int s4_43), some (.int (s5_43 + 1))] dX12_brakes_92 rfl rfl rfl (by decide) rfl ?_
            refine ok_goto 43 dX12_brakes_95 (by decide) ?_
            exact ok_less [some (.ref 123), some (.int a1), some (.int a2), some (.int a3_36), some (.int s4_43), some (.int (s5_43 + 1))] (And.intro rfl (And.intro rfl (And.intro rfl (And.intro rfl (And.intro rfl (And.intro rfl (trivial))))))) (hX s4_43 (s5_43 + 1) m_81)
          · refine ok_iload 90 5 dX12_brakes_88 rfl rfl ?_
            refine ok_istore 92 4 [some (.ref 123), some (.int a1), some (.int a2), some (.int a3_36), some (.int s5_43), some (.int s5_43)] dX12_brakes_90 rfl (by decide) rfl ?_
            refine ok_iinc 95 5 1 [some (.ref 123), some (.int a1), some (.int a2), some (.int a3_36), some (.int s5_43), some (.int (s5_43 + 1))] dX12_brakes_92 rfl rfl rfl (by decide) rfl ?_
            refine ok_goto 43 dX12_brakes_95 (by decide) ?_
            exact ok_less [some (.ref 123), some (.int a1), some (.int a2), some (.int a3_36), some (.int s5_43), some (.int (s5_43 + 1))] (And.intro rfl (And.intro rfl (And.intro rfl (And.intro rfl (And.intro rfl (And.intro rfl (trivial))))))) (hX s5_43 (s5_43 + 1) m_81)
        · refine ok_iload 66 5 dX12_brakes_64 rfl rfl ?_
          refine ok_callSi (np := 1) (M' := m_X12_count) (As := [.int s5_43]) (st := []) 69 dX12_brakes_66 rfl rfl km_X12_count ks_X12_count ml_EncoresModel_319 (by decide) rfl rfl (Nat.le_of_ble_eq_true rfl) (c_X12_count N (d + 8) s5_43 m) ⟨Nat.le_refl _, Nat.le_refl _⟩ (Or.inl rfl) rfl (fun r_66 m_66 _ => ?_)
          refine ok_iload 71 4 dX12_brakes_69 rfl rfl ?_
          refine ok_callSi (np := 1) (M' := m_X12_count) (As := [.int s4_43]) (st := [.int r_66]) 74 dX12_brakes_71 rfl rfl km_X12_count ks_X12_count ml_EncoresModel_319 (by decide) rfl rfl (Nat.le_of_ble_eq_true rfl) (c_X12_count N (d + 8) s4_43 m_66) ⟨Nat.le_refl _, Nat.le_refl _⟩ (Or.inl rfl) rfl (fun r_71 m_71 _ => ?_)
          refine ok_icmp_ge 92 77 dX12_brakes_74 (by decide) rfl (fun _ => ?_) (fun _ => ?_)
          · refine ok_iinc 95 5 1 [some (.ref 123), some (.int a1), some (.int a2), some (.int a3_36), some (.int s4_43), some (.int (s5_43 + 1))] dX12_brakes_92 rfl rfl rfl (by decide) rfl ?_
            refine ok_goto 43 dX12_brakes_95 (by decide) ?_
            exact ok_less [some (.ref 123), some (.int a1), some (.int a2), some (.int a3_36), some (.int s4_43), some (.int (s5_43 + 1))] (And.intro rfl (And.intro rfl (And.intro rfl (And.intro rfl (And.intro rfl (And.intro rfl (trivial))))))) (hX s4_43 (s5_43 + 1) m_71)
          · refine ok_aload_n 78 0 dX12_brakes_77 rfl rfl rfl ?_
            refine ok_iload_n 79 1 dX12_brakes_78 rfl rfl rfl ?_
            refine ok_iload 81 5 dX12_brakes_79 rfl rfl ?_
            refine ok_callVi (np := 2) (M' := m_X12_doneWithGloves) (As := [.int a1, .int s5_43]) (st := []) 84 dX12_brakes_81 rfl rfl km_X12_doneWithGloves ki_X12_doneWithGloves kv_X12_doneWithGloves ml_EncoresModel_386 (by decide) sg_123 rfl (Nat.le_of_ble_eq_true rfl) rfl rfl rfl (Nat.le_of_ble_eq_true rfl) (c_X12_doneWithGloves N (d + 0) a1 s5_43 m_71) ⟨Nat.le_refl _, Nat.le_refl _⟩ (Or.inl rfl) rfl (fun r_81 m_81 _ => ?_)
            refine ok_iconst 85 1 dX12_brakes_84 rfl rfl ?_
            refine ok_icmp_ne 92 88 dX12_brakes_85 (by decide) rfl (fun _ => ?_) (fun _ => ?_)
            · refine ok_iinc 95 5 1 [some (.ref 123), some (.int a1), some (.int a2), some (.int a3_36), some (.int s4_43), some (.int (s5_43 + 1))] dX12_brakes_92 rfl rfl rfl (by decide) rfl ?_
              refine ok_goto 43 dX12_brakes_95 (by decide) ?_
              exact ok_less [some (.ref 123), some (.int a1), some (.int a2), some (.int a3_36), some (.int s4_43), some (.int (s5_43 + 1))] (And.intro rfl (And.intro rfl (And.intro rfl (And.intro rfl (And.intro rfl (And.intro rfl (trivial))))))) (hX s4_43 (s5_43 + 1) m_81)
            · refine ok_iload 90 5 dX12_brakes_88 rfl rfl ?_
              refine ok_istore 92 4 [some (.ref 123), some (.int a1), some (.int a2), some (.int a3_36), some (.int s5_43), some (.int s5_43)] dX12_brakes_90 rfl (by decide) rfl ?_
              refine ok_iinc 95 5 1 [some (.ref 123), some (.int a1), some (.int a2), some (.int a3_36), some (.int s5_43), some (.int (s5_43 + 1))] dX12_brakes_92 rfl rfl rfl (by decide) rfl ?_
              refine ok_goto 43 dX12_brakes_95 (by decide) ?_
              exact ok_less [some (.ref 123), some (.int a1), some (.int a2), some (.int a3_36), some (.int s5_43), some (.int (s5_43 + 1))] (And.intro rfl (And.intro rfl (And.intro rfl (And.intro rfl (And.intro rfl (And.intro rfl (trivial))))))) (hX s5_43 (s5_43 + 1) m_81))

set_option maxRecDepth 100000 in
set_option maxHeartbeats 4000000 in
theorem ok_X12_brakes (N d : Nat) (a1 : Int32) (a2 : Int32)  (m : Mem) : Ok none SG (d + 9) m_X12_brakes 0 [some (.ref 123), some (.int a1), some (.int a2), none, none, none] [] SG m (f_X12_brakes N a1 a2 m) := by
  unfold f_X12_brakes
  refine ok_aload_n 1 0 dX12_brakes_0 rfl rfl rfl ?_
  refine ok_iload_n 2 1 dX12_brakes_1 rfl rfl rfl ?_
  refine ok_callVi (np := 1) (M' := m_X12_isDeed) (As := [.int a1]) (st := []) 5 dX12_brakes_2 rfl rfl km_X12_isDeed ki_X12_isDeed kv_X12_isDeed ml_EncoresModel_72 (by decide) sg_123 rfl (Nat.le_of_ble_eq_true rfl) rfl rfl rfl (Nat.le_of_ble_eq_true rfl) (c_X12_isDeed N (d + 7) a1 m) ⟨Nat.le_refl _, Nat.le_refl _⟩ (Or.inl rfl) rfl (fun r_2 m_2 _ => ?_)
  refine ok_if_eq 17 8 dX12_brakes_5 (by decide) rfl (fun _ => ?_) (fun _ => ?_)
  · refine ok_iconst 18 (-1) dX12_brakes_17 rfl rfl ?_
    exact ok_iret dX12_brakes_18 rfl
  · refine ok_iload_n 9 2 dX12_brakes_8 rfl rfl rfl ?_
    refine ok_iconst 10 0 dX12_brakes_9 rfl rfl ?_
    refine ok_iconst 11 1 dX12_brakes_10 rfl rfl ?_
    refine ok_callSi (np := 3) (M' := m_X12_isIn) (As := [.int a2, .int 0, .int 1]) (st := []) 14 dX12_brakes_11 rfl rfl km_X12_isIn ks_X12_isIn ml_EncoresModel_56 (by decide) rfl rfl (Nat.le_of_ble_eq_true rfl) (c_X12_isIn N (d + 8) a2 0 1 m_2) ⟨Nat.le_refl _, Nat.le_refl _⟩ (Or.inl rfl) rfl (fun r_11 m_11 _ => ?_)
    refine ok_if_ne 19 17 dX12_brakes_14 (by decide) rfl (fun _ => ?_) (fun _ => ?_)
    · refine ok_aload_n 20 0 dX12_brakes_19 rfl rfl rfl ?_
      refine ok_getR 23 dX12_brakes_20 rfl rfl F_EncoresModel_7 sg_123 rfl (Nat.le_of_ble_eq_true rfl) rfl rfl ?_
      refine ok_bipush 25 7 dX12_brakes_23 rfl rfl ?_
      refine ok_ialdc 26 7 dX12_brakes_25 rfl sg_124 (by decide) (by decide) ?_
      refine ok_aload_n 27 0 dX12_brakes_26 rfl rfl rfl ?_
      refine ok_getR 30 dX12_brakes_27 rfl rfl F_EncoresModel_7 sg_123 rfl (Nat.le_of_ble_eq_true rfl) rfl rfl ?_
      refine ok_bipush 32 8 dX12_brakes_30 rfl rfl ?_
      refine ok_ialdc 33 8 dX12_brakes_32 rfl sg_124 (by decide) (by decide) ?_
      refine ok_iconst 34 (-1) dX12_brakes_33 rfl rfl ?_
      refine ok_ixor 35 dX12_brakes_34 rfl ?_
      refine ok_iand 36 dX12_brakes_35 rfl ?_
      refine ok_bndI (fun a3_36 => ?_)
      refine ok_istore_n 37 3 [some (.ref 123), some (.int a1), some (.int a2), some (.int a3_36), none, none] dX12_brakes_36 rfl rfl (by decide) rfl ?_
      refine ok_iconst 38 (-1) dX12_brakes_37 rfl rfl ?_
      refine ok_istore 40 4 [some (.ref 123), some (.int a1), some (.int a2), some (.int a3_36), some (.int (-1)), none] dX12_brakes_38 rfl (by decide) rfl ?_
      refine ok_iconst 41 0 dX12_brakes_40 rfl rfl ?_
      refine ok_istore 43 5 [some (.ref 123), some (.int a1), some (.int a2), some (.int a3_36), some (.int (-1)), some (.int 0)] dX12_brakes_41 rfl (by decide) rfl ?_
      refine ok_less [some (.ref 123), some (.int a1), some (.int a2), some (.int a3_36), some (.int (-1)), some (.int 0)] (And.intro rfl (And.intro rfl (And.intro rfl (And.intro rfl (And.intro rfl (And.intro rfl (trivial))))))) ?_
      exact ok_X12_brakes_L43 N d a1 a2 a3_36 _ (fun k4_98 mk98 => by
          refine ok_iload 100 4 dX12_brakes_98 rfl rfl ?_
          refine ok_iconst 101 (-1) dX12_brakes_100 rfl rfl ?_
          refine ok_icmp_eq 109 104 dX12_brakes_101 (by decide) rfl (fun _ => ?_) (fun _ => ?_)
          · refine ok_iload 111 4 dX12_brakes_109 rfl rfl ?_
            refine ok_goto 119 dX12_brakes_111 (by decide) ?_
            exact ok_iret dX12_brakes_119 rfl
          · refine ok_iload_n 105 2 dX12_brakes_104 rfl rfl rfl ?_
            refine ok_iconst 106 1 dX12_brakes_105 rfl rfl ?_
            refine ok_icmp_ne 114 109 dX12_brakes_106 (by decide) rfl (fun _ => ?_) (fun _ => ?_)
            · refine ok_iload 116 4 dX12_brakes_114 rfl rfl ?_
              refine ok_callSi (np := 1) (M' := m_X12_count) (As := [.int k4_98]) (st := []) 119 dX12_brakes_116 rfl rfl km_X12_count ks_X12_count ml_EncoresModel_319 (by decide) rfl rfl (Nat.le_of_ble_eq_true rfl) (c_X12_count N (d + 8) k4_98 mk98) ⟨Nat.le_refl _, Nat.le_refl _⟩ (Or.inl rfl) rfl (fun r_116 m_116 _ => ?_)
              exact ok_iret dX12_brakes_119 rfl
            · refine ok_iload 111 4 dX12_brakes_109 rfl rfl ?_
              refine ok_goto 119 dX12_brakes_111 (by decide) ?_
              exact ok_iret dX12_brakes_119 rfl) N (-1) 0 m_11
    · refine ok_iconst 18 (-1) dX12_brakes_17 rfl rfl ?_
      exact ok_iret dX12_brakes_18 rfl

theorem c_X12_brakes (N d : Nat) (a1 : Int32) (a2 : Int32)  (m : Mem) : CM (d + 9) m_X12_brakes SG SG [.ref 123, .int a1, .int a2] m (f_X12_brakes N a1 a2 m) :=
  CM.ofOk km_X12_brakes ⟨Nat.le_refl _, Nat.le_refl _⟩ (by simp [Value.category]) (Nat.le_of_ble_eq_true rfl) (ok_X12_brakes N d a1 a2 m)

