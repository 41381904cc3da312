def f_X12_eager_L24 (N : Nat) (a1 : Int32) (a2 : Int32)  (K86 : Int32 → Mem → Ans) (X : Int32 → Int32 → Mem → Ans) (s3_24 : Int32) (s4_24 : Int32) (m : Mem) : Ans :=
if (m 124 37) ≤ s4_24 then (K86 s3_24 m)
else (bd (f_X12_isThere N s4_24 m) fun r_39 m_39 =>
if r_39 = 0 then (X s3_24 (s4_24 + 1) m_39)
else (bd (f_X12_isGloved N s4_24 m_39) fun r_48 m_48 =>
if r_48 = 0 then (if s3_24 = (-1 : Int32) then (X s4_24 (s4_24 + 1) m_48)
else (bd (f_X12_clapOf N s4_24 a1 0 m_48) fun r_64 m_64 =>
bd (f_X12_clapOf N s3_24 a1 0 m_64) fun r_71 m_71 =>
if r_64 ≤ r_71 then (X s3_24 (s4_24 + 1) m_71)
else (X s4_24 (s4_24 + 1) m_71)))
else (X s3_24 (s4_24 + 1) m_48)))

def f_X12_eager (N : Nat) (a1 : Int32) (a2 : Int32) (m : Mem) : Ans :=
bd (f_X12_isDeed N a1 m) fun r_2 m_2 =>
if r_2 = 0 then (some ((-1), m_2))
else (bd (f_X12_isIn N a2 0 1 m_2) fun r_11 m_11 =>
if r_11 = 0 then (some ((-1), m_11))
else (it2 (f_X12_eager_L24 N a1 a2 (fun k3_86 mk86 => if k3_86 = (-1 : Int32) then (some (k3_86, mk86))
else (if a2 = 0 then (some (k3_86, mk86))
else (bd (f_X12_clapOf N k3_86 a1 0 mk86) fun r_103 m_103 =>
some (r_103, m_103))))) N (-1) 0 m_11))

set_option maxRecDepth 100000 in
set_option maxHeartbeats 4000000 in
theorem ok_X12_eager_L24 (N d : Nat) (a1 : Int32) (a2 : Int32)   (K86 : Int32 → Mem → Ans) (hK86 : ∀ (k3 : Int32) (m : Mem), Ok none SG (d + 5) m_X12_eager 86 [some (.ref 123), some (.int a1), some (.int a2), some (.int k3), none] [] SG m (K86 k3 m)) : ∀ (n : Nat) (s3_24 : Int32) (s4_24 : Int32) (m : Mem), Ok none SG (d + 5) m_X12_eager 24 [some (.ref 123), some (.int a1), some (.int a2), some (.int s3_24), some (.int s4_24)] [] SG m (it2 (f_X12_eager_L24 N a1 a2 K86) n s3_24 s4_24 m) :=
  ok_it2 (fun s3_24 s4_24 => [some (.ref 123), some (.int a1), some (.int a2), some (.int s3_24), some (.int s4_24)]) (fun X hX s3_24 s4_24 m => by
    try unfold f_X12_eager_L24
    refine ok_iload 26 4 dX12_eager_24 rfl rfl ?_
    refine ok_aload_n 27 0 dX12_eager_26 rfl rfl rfl ?_
    refine ok_getR 30 dX12_eager_27 rfl rfl F_EncoresModel_7 sg_123 rfl (Nat.le_of_ble_eq_true rfl) rfl rfl ?_
    refine ok_bipush 32 37 dX12_eager_30 rfl rfl ?_
    refine ok_ialdc 33 37 dX12_eager_32 rfl sg_124 (by decide) (by decide) ?_
    refine ok_icmp_ge 86 36 dX12_eager_33 (by decide) rfl (fun _ => ?_) (fun _ => ?_)
    · exact ok_less [some (.ref 123), some (.int a1), some (.int a2), some (.int s3_24), none] (And.intro rfl (And.intro rfl (And.intro rfl (And.intro rfl (trivial))))) (hK86 s3_24 m)
    · refine ok_aload_n 37 0 dX12_eager_36 rfl rfl rfl ?_
      refine ok_iload 39 4 dX12_eager_37 rfl rfl ?_
      refine ok_callVi (np := 1) (M' := m_X12_isThere) (As := [.int s4_24]) (st := []) 42 dX12_eager_39 rfl rfl km_X12_isThere ki_X12_isThere kv_X12_isThere ml_EncoresModel_310 (by decide) sg_123 rfl (Nat.le_of_ble_eq_true rfl) rfl rfl rfl (Nat.le_of_ble_eq_true rfl) (c_X12_isThere N (d + 4) s4_24 m) ⟨Nat.le_refl _, Nat.le_refl _⟩ (Or.inl rfl) rfl (fun r_39 m_39 _ => ?_)
      refine ok_if_eq 80 45 dX12_eager_42 (by decide) rfl (fun _ => ?_) (fun _ => ?_)
      · refine ok_iinc 83 4 1 [some (.ref 123), some (.int a1), some (.int a2), some (.int s3_24), some (.int (s4_24 + 1))] dX12_eager_80 rfl rfl rfl (by decide) rfl ?_
        refine ok_goto 24 dX12_eager_83 (by decide) ?_
        exact ok_less [some (.ref 123), some (.int a1), some (.int a2), some (.int s3_24), some (.int (s4_24 + 1))] (And.intro rfl (And.intro rfl (And.intro rfl (And.intro rfl (And.intro rfl (trivial)))))) (hX s3_24 (s4_24 + 1) m_39)
      · refine ok_aload_n 46 0 dX12_eager_45 rfl rfl rfl ?_
        refine ok_iload 48 4 dX12_eager_46 rfl rfl ?_
        refine ok_callVi (np := 1) (M' := m_X12_isGloved) (As := [.int s4_24]) (st := []) 51 dX12_eager_48 rfl rfl km_X12_isGloved ki_X12_isGloved kv_X12_isGloved ml_EncoresModel_313 (by decide) sg_123 rfl (Nat.le_of_ble_eq_true rfl) rfl rfl rfl (Nat.le_of_ble_eq_true rfl) (c_X12_isGloved N (d + 4) s4_24 m_39) ⟨Nat.le_refl _, Nat.le_refl _⟩ (Or.inl rfl) rfl (fun r_48 m_48 _ => ?_)
        refine ok_if_ne 80 54 dX12_eager_51 (by decide) rfl (fun _ => ?_) (fun _ => ?_)
        · refine ok_iinc 83 4 1 [some (.ref 123), some (.int a1), some (.int a2), some (.int s3_24), some (.int (s4_24 + 1))] dX12_eager_80 rfl rfl rfl (by decide) rfl ?_
          refine ok_goto 24 dX12_eager_83 (by decide) ?_
          exact ok_less [some (.ref 123), some (.int a1), some (.int a2), some (.int s3_24), some (.int (s4_24 + 1))] (And.intro rfl (And.intro rfl (And.intro rfl (And.intro rfl (And.intro rfl (trivial)))))) (hX s3_24 (s4_24 + 1) m_48)
        · refine ok_iload_n 55 3 dX12_eager_54 rfl rfl rfl ?_
          refine ok_iconst 56 (-1) dX12_eager_55 rfl rfl ?_
          refine ok_icmp_eq 77 59 dX12_eager_56 (by decide) rfl (fun _ => ?_) (fun _ => ?_)
          · refine ok_iload 79 4 dX12_eager_77 rfl rfl ?_
            refine ok_istore_n 80 3 [some (.ref 123), some (.int a1), some (.int a2), some (.int s4_24), some (.int s4_24)] dX12_eager_79 rfl rfl (by decide) rfl ?_
            refine ok_iinc 83 4 1 [some (.ref 123), some (.int a1), some (.int a2), some (.int s4_24), some (.int (s4_24 + 1))] dX12_eager_80 rfl rfl rfl (by decide) rfl ?_
            refine ok_goto 24 dX12_eager_83 (by decide) ?_
            exact ok_less [some (.ref 123), some (.int a1), some (.int a2), some (.int s4_24), some (.int (s4_24 + 1))] (And.intro rfl (And.intro rfl (And.intro rfl (And.intro rfl (And.intro rfl (trivial)))))) (hX s4_24 (s4_24 + 1) m_48)
          · refine ok_aload_n 60 0 dX12_eager_59 rfl rfl rfl ?_
            refine ok_iload 62 4 dX12_eager_60 rfl rfl ?_
            refine ok_iload_n 63 1 dX12_eager_62 rfl rfl rfl ?_
            refine ok_iconst 64 0 dX12_eager_63 rfl rfl ?_
            refine ok_callVi (np := 3) (M' := m_X12_clapOf) (As := [.int s4_24, .int a1, .int 0]) (st := []) 67 dX12_eager_64 rfl rfl km_X12_clapOf ki_X12_clapOf kv_X12_clapOf ml_EncoresModel_322 (by decide) sg_123 rfl (Nat.le_of_ble_eq_true rfl) rfl rfl rfl (Nat.le_of_ble_eq_true rfl) (c_X12_clapOf N (d + 0) s4_24 a1 0 m_48) ⟨Nat.le_refl _, Nat.le_refl _⟩ (Or.inl rfl) rfl (fun r_64 m_64 _ => ?_)
            refine ok_aload_n 68 0 dX12_eager_67 rfl rfl rfl ?_
            refine ok_iload_n 69 3 dX12_eager_68 rfl rfl rfl ?_
            refine ok_iload_n 70 1 dX12_eager_69 rfl rfl rfl ?_
            refine ok_iconst 71 0 dX12_eager_70 rfl rfl ?_
            refine ok_callVi (np := 3) (M' := m_X12_clapOf) (As := [.int s3_24, .int a1, .int 0]) (st := [.int r_64]) 74 dX12_eager_71 rfl rfl km_X12_clapOf ki_X12_clapOf kv_X12_clapOf ml_EncoresModel_322 (by decide) sg_123 rfl (Nat.le_of_ble_eq_true rfl) rfl rfl rfl (Nat.le_of_ble_eq_true rfl) (c_X12_clapOf N (d + 0) s3_24 a1 0 m_64) ⟨Nat.le_refl _, Nat.le_refl _⟩ (Or.inl rfl) rfl (fun r_71 m_71 _ => ?_)
            refine ok_icmp_le 80 77 dX12_eager_74 (by decide) rfl (fun _ => ?_) (fun _ => ?_)
            · refine ok_iinc 83 4 1 [some (.ref 123), some (.int a1), some (.int a2), some (.int s3_24), some (.int (s4_24 + 1))] dX12_eager_80 rfl rfl rfl (by decide) rfl ?_
              refine ok_goto 24 dX12_eager_83 (by decide) ?_
              exact ok_less [some (.ref 123), some (.int a1), some (.int a2), some (.int s3_24), some (.int (s4_24 + 1))] (And.intro rfl (And.intro rfl (And.intro rfl (And.intro rfl (And.intro rfl (trivial)))))) (hX s3_24 (s4_24 + 1) m_71)
            · refine ok_iload 79 4 dX12_eager_77 rfl rfl ?_
              refine ok_istore_n 80 3 [some (.ref 123), some (.int a1), some (.int a2), some (.int s4_24), some (.int s4_24)] dX12_eager_79 rfl rfl (by decide) rfl ?_
              refine ok_iinc 83 4 1 [some (.ref 123), some (.int a1), some (.int a2), some (.int s4_24), some (.int (s4_24 + 1))] dX12_eager_80 rfl rfl rfl (by decide) rfl ?_
              refine ok_goto 24 dX12_eager_83 (by decide) ?_
              exact ok_less [some (.ref 123), some (.int a1), some (.int a2), some (.int s4_24), some (.int (s4_24 + 1))] (And.intro rfl (And.intro rfl (And.intro rfl (And.intro rfl (And.intro rfl (trivial)))))) (hX s4_24 (s4_24 + 1) m_71))

set_option maxRecDepth 100000 in
set_option maxHeartbeats 4000000 in
theorem ok_X12_eager (N d : Nat) (a1 : Int32) (a2 : Int32)  (m : Mem) : Ok none SG (d + 5) m_X12_eager 0 [some (.ref 123), some (.int a1), some (.int a2), none, none] [] SG m (f_X12_eager N a1 a2 m) := by
  unfold f_X12_eager
  refine ok_aload_n 1 0 dX12_eager_0 rfl rfl rfl ?_
  refine ok_iload_n 2 1 dX12_eager_1 rfl rfl rfl ?_
  refine ok_callVi (np := 1) (M' := m_X12_isDeed) (As := [.int a1]) (st := []) 5 dX12_eager_2 rfl rfl km_X12_isDeed ki_X12_isDeed kv_X12_isDeed ml_EncoresModel_72 (by decide) sg_123 rfl (Nat.le_of_ble_eq_true rfl) rfl rfl rfl (Nat.le_of_ble_eq_true rfl) (c_X12_isDeed N (d + 3) a1 m) ⟨Nat.le_refl _, Nat.le_refl _⟩ (Or.inl rfl) rfl (fun r_2 m_2 _ => ?_)
  refine ok_if_eq 17 8 dX12_eager_5 (by decide) rfl (fun _ => ?_) (fun _ => ?_)
  · refine ok_iconst 18 (-1) dX12_eager_17 rfl rfl ?_
    exact ok_iret dX12_eager_18 rfl
  · refine ok_iload_n 9 2 dX12_eager_8 rfl rfl rfl ?_
    refine ok_iconst 10 0 dX12_eager_9 rfl rfl ?_
    refine ok_iconst 11 1 dX12_eager_10 rfl rfl ?_
    refine ok_callSi (np := 3) (M' := m_X12_isIn) (As := [.int a2, .int 0, .int 1]) (st := []) 14 dX12_eager_11 rfl rfl km_X12_isIn ks_X12_isIn ml_EncoresModel_56 (by decide) rfl rfl (Nat.le_of_ble_eq_true rfl) (c_X12_isIn N (d + 4) a2 0 1 m_2) ⟨Nat.le_refl _, Nat.le_refl _⟩ (Or.inl rfl) rfl (fun r_11 m_11 _ => ?_)
    refine ok_if_ne 19 17 dX12_eager_14 (by decide) rfl (fun _ => ?_) (fun _ => ?_)
    · refine ok_iconst 20 (-1) dX12_eager_19 rfl rfl ?_
      refine ok_istore_n 21 3 [some (.ref 123), some (.int a1), some (.int a2), some (.int (-1)), none] dX12_eager_20 rfl rfl (by decide) rfl ?_
      refine ok_iconst 22 0 dX12_eager_21 rfl rfl ?_
      refine ok_istore 24 4 [some (.ref 123), some (.int a1), some (.int a2), some (.int (-1)), some (.int 0)] dX12_eager_22 rfl (by decide) rfl ?_
      refine ok_less [some (.ref 123), some (.int a1), some (.int a2), some (.int (-1)), some (.int 0)] (And.intro rfl (And.intro rfl (And.intro rfl (And.intro rfl (And.intro rfl (trivial)))))) ?_
      exact ok_X12_eager_L24 N d a1 a2  _ (fun k3_86 mk86 => by
          refine ok_iload_n 87 3 dX12_eager_86 rfl rfl rfl ?_
          refine ok_iconst 88 (-1) dX12_eager_87 rfl rfl ?_
          refine ok_icmp_eq 95 91 dX12_eager_88 (by decide) rfl (fun _ => ?_) (fun _ => ?_)
          · refine ok_iload_n 96 3 dX12_eager_95 rfl rfl rfl ?_
            refine ok_goto 106 dX12_eager_96 (by decide) ?_
            exact ok_iret dX12_eager_106 rfl
          · refine ok_iload_n 92 2 dX12_eager_91 rfl rfl rfl ?_
            refine ok_if_ne 99 95 dX12_eager_92 (by decide) rfl (fun _ => ?_) (fun _ => ?_)
            · refine ok_aload_n 100 0 dX12_eager_99 rfl rfl rfl ?_
              refine ok_iload_n 101 3 dX12_eager_100 rfl rfl rfl ?_
              refine ok_iload_n 102 1 dX12_eager_101 rfl rfl rfl ?_
              refine ok_iconst 103 0 dX12_eager_102 rfl rfl ?_
              refine ok_callVi (np := 3) (M' := m_X12_clapOf) (As := [.int k3_86, .int a1, .int 0]) (st := []) 106 dX12_eager_103 rfl rfl km_X12_clapOf ki_X12_clapOf kv_X12_clapOf ml_EncoresModel_322 (by decide) sg_123 rfl (Nat.le_of_ble_eq_true rfl) rfl rfl rfl (Nat.le_of_ble_eq_true rfl) (c_X12_clapOf N (d + 0) k3_86 a1 0 mk86) ⟨Nat.le_refl _, Nat.le_refl _⟩ (Or.inl rfl) rfl (fun r_103 m_103 _ => ?_)
              exact ok_iret dX12_eager_106 rfl
            · refine ok_iload_n 96 3 dX12_eager_95 rfl rfl rfl ?_
              refine ok_goto 106 dX12_eager_96 (by decide) ?_
              exact ok_iret dX12_eager_106 rfl) N (-1) 0 m_11
    · refine ok_iconst 18 (-1) dX12_eager_17 rfl rfl ?_
      exact ok_iret dX12_eager_18 rfl

theorem c_X12_eager (N d : Nat) (a1 : Int32) (a2 : Int32)  (m : Mem) : CM (d + 5) m_X12_eager SG SG [.ref 123, .int a1, .int a2] m (f_X12_eager N a1 a2 m) :=
  CM.ofOk km_X12_eager ⟨Nat.le_refl _, Nat.le_refl _⟩ (by simp [Value.category]) (Nat.le_of_ble_eq_true rfl) (ok_X12_eager N d a1 a2 m)

def f_X12_price_L34 (N : Nat) (a1 : Int32) (a2 : Int32) (a3_27 : Int32)  (X : Int32 → Int32 → Mem → Ans) (s4_34 : Int32) (s5_34 : Int32) (m : Mem) : Ans :=
if (99 : Int32) < s5_34 then (chk (inb ((9 : Int32) + a1) 1707) <|
bnd (mset m 124 ((9 : Int32) + a1).toNatClampNeg a3_27) fun m_96 =>
some (s4_34, m_96))
else (if s4_34 = (-1 : Int32) then (chk (inb ((9 : Int32) + a1) 1707) <|
bnd (mset m 124 ((9 : Int32) + a1).toNatClampNeg s5_34) fun m_57 =>
bd (f_X12_clapOf N a1 a2 0 m_57) fun r_62 m_62 =>
if r_62 ≤ (500 : Int32) then (X (-1) (s5_34 + 1) m_62)
else (bnd (s5_34 - a3_27) fun a4_79 =>
X a4_79 (s5_34 + 1) m_62))
else (chk (inb ((9 : Int32) + a1) 1707) <|
bnd (mset m 124 ((9 : Int32) + a1).toNatClampNeg a3_27) fun m_96 =>
some (s4_34, m_96)))

def f_X12_price (N : Nat) (a1 : Int32) (a2 : Int32) (m : Mem) : Ans :=
bd (f_X12_isHearer N a1 m) fun r_2 m_2 =>
if r_2 = 0 then (some ((-1), m_2))
else (bd (f_X12_isDeed N a2 m_2) fun r_10 m_10 =>
if r_10 = 0 then (some ((-1), m_10))
else (chk (inb ((9 : Int32) + a1) 1707) <|
bnd (m_10 124 ((9 : Int32) + a1).toNatClampNeg) fun a3_27 =>
it2 (f_X12_price_L34 N a1 a2 a3_27 ) N (-1) a3_27 m_10))

set_option maxRecDepth 100000 in
set_option maxHeartbeats 4000000 in
theorem ok_X12_price_L34 (N d : Nat) (a1 : Int32) (a2 : Int32)  (a3_27 : Int32)  : ∀ (n : Nat) (s4_34 : Int32) (s5_34 : Int32) (m : Mem), Ok none SG (d + 5) m_X12_price 34 [some (.ref 123), some (.int a1), some (.int a2), some (.int a3_27), some (.int s4_34), some (.int s5_34)] [] SG m (it2 (f_X12_price_L34 N a1 a2 a3_27) n s4_34 s5_34 m) :=
  ok_it2 (fun s4_34 s5_34 => [some (.ref 123), some (.int a1), some (.int a2), some (.int a3_27), some (.int s4_34), some (.int s5_34)]) (fun X hX s4_34 s5_34 m => by
    try unfold f_X12_price_L34
    refine ok_iload 36 5 dX12_price_34 rfl rfl ?_
    refine ok_bipush 38 99 dX12_price_36 rfl rfl ?_
    refine ok_icmp_gt 87 41 dX12_price_38 (by decide) rfl (fun _ => ?_) (fun _ => ?_)
    · refine ok_aload_n 88 0 dX12_price_87 rfl rfl rfl ?_
      refine ok_getR 91 dX12_price_88 rfl rfl F_EncoresModel_7 sg_123 rfl (Nat.le_of_ble_eq_true rfl) rfl rfl ?_
      refine ok_bipush 93 9 dX12_price_91 rfl rfl ?_
      refine ok_iload_n 94 1 dX12_price_93 rfl rfl rfl ?_
      refine ok_iadd 95 dX12_price_94 rfl ?_
      refine ok_iload_n 96 3 dX12_price_95 rfl rfl rfl ?_
      refine ok_iast 97 dX12_price_96 rfl sg_124 ?_
      refine ok_bndM (fun m_96 => ?_)
      refine ok_iload 99 4 dX12_price_97 rfl rfl ?_
      exact ok_iret dX12_price_99 rfl
    · refine ok_iload 43 4 dX12_price_41 rfl rfl ?_
      refine ok_iconst 44 (-1) dX12_price_43 rfl rfl ?_
      refine ok_icmp_ne 87 47 dX12_price_44 (by decide) rfl (fun _ => ?_) (fun _ => ?_)
      · refine ok_aload_n 88 0 dX12_price_87 rfl rfl rfl ?_
        refine ok_getR 91 dX12_price_88 rfl rfl F_EncoresModel_7 sg_123 rfl (Nat.le_of_ble_eq_true rfl) rfl rfl ?_
        refine ok_bipush 93 9 dX12_price_91 rfl rfl ?_
        refine ok_iload_n 94 1 dX12_price_93 rfl rfl rfl ?_
        refine ok_iadd 95 dX12_price_94 rfl ?_
        refine ok_iload_n 96 3 dX12_price_95 rfl rfl rfl ?_
        refine ok_iast 97 dX12_price_96 rfl sg_124 ?_
        refine ok_bndM (fun m_96 => ?_)
        refine ok_iload 99 4 dX12_price_97 rfl rfl ?_
        exact ok_iret dX12_price_99 rfl
      · refine ok_aload_n 48 0 dX12_price_47 rfl rfl rfl ?_
        refine ok_getR 51 dX12_price_48 rfl rfl F_EncoresModel_7 sg_123 rfl (Nat.le_of_ble_eq_true rfl) rfl rfl ?_
        refine ok_bipush 53 9 dX12_price_51 rfl rfl ?_
        refine ok_iload_n 54 1 dX12_price_53 rfl rfl rfl ?_
        refine ok_iadd 55 dX12_price_54 rfl ?_
        refine ok_iload 57 5 dX12_price_55 rfl rfl ?_
        refine ok_iast 58 dX12_price_57 rfl sg_124 ?_
        refine ok_bndM (fun m_57 => ?_)
        refine ok_aload_n 59 0 dX12_price_58 rfl rfl rfl ?_
        refine ok_iload_n 60 1 dX12_price_59 rfl rfl rfl ?_
        refine ok_iload_n 61 2 dX12_price_60 rfl rfl rfl ?_
        refine ok_iconst 62 0 dX12_price_61 rfl rfl ?_
        refine ok_callVi (np := 3) (M' := m_X12_clapOf) (As := [.int a1, .int a2, .int 0]) (st := []) 65 dX12_price_62 rfl rfl km_X12_clapOf ki_X12_clapOf kv_X12_clapOf ml_EncoresModel_322 (by decide) sg_123 rfl (Nat.le_of_ble_eq_true rfl) rfl rfl rfl (Nat.le_of_ble_eq_true rfl) (c_X12_clapOf N (d + 0) a1 a2 0 m_57) ⟨Nat.le_refl _, Nat.le_refl _⟩ (Or.inl rfl) rfl (fun r_62 m_62 _ => ?_)
        refine ok_sipush 68 500 dX12_price_65 rfl rfl ?_
        refine ok_icmp_le 78 71 dX12_price_68 (by decide) rfl (fun _ => ?_) (fun _ => ?_)
        · refine ok_iconst 79 (-1) dX12_price_78 rfl rfl ?_
          refine ok_istore 81 4 [some (.ref 123), some (.int a1), some (.int a2), some (.int a3_27), some (.int (-1)), some (.int s5_34)] dX12_price_79 rfl (by decide) rfl ?_
          refine ok_iinc 84 5 1 [some (.ref 123), some (.int a1), some (.int a2), some (.int a3_27), some (.int (-1)), some (.int (s5_34 + 1))] dX12_price_81 rfl rfl rfl (by decide) rfl ?_
          refine ok_goto 34 dX12_price_84 (by decide) ?_
          exact ok_less [some (.ref 123), some (.int a1), some (.int a2), some (.int a3_27), some (.int (-1)), some (.int (s5_34 + 1))] (And.intro rfl (And.intro rfl (And.intro rfl (And.intro rfl (And.intro rfl (And.intro rfl (trivial))))))) (hX (-1) (s5_34 + 1) m_62)
        · refine ok_iload 73 5 dX12_price_71 rfl rfl ?_
          refine ok_iload_n 74 3 dX12_price_73 rfl rfl rfl ?_
          refine ok_isub 75 dX12_price_74 rfl ?_
          refine ok_goto 79 dX12_price_75 (by decide) ?_
          refine ok_bndI (fun a4_79 => ?_)
          refine ok_istore 81 4 [some (.ref 123), some (.int a1), some (.int a2), some (.int a3_27), some (.int a4_79), some (.int s5_34)] dX12_price_79 rfl (by decide) rfl ?_
          refine ok_iinc 84 5 1 [some (.ref 123), some (.int a1), some (.int a2), some (.int a3_27), some (.int a4_79), some (.int (s5_34 + 1))] dX12_price_81 rfl rfl rfl (by decide) rfl ?_
          refine ok_goto 34 dX12_price_84 (by decide) ?_
          exact ok_less [some (.ref 123), some (.int a1), some (.int a2), some (.int a3_27), some (.int a4_79), some (.int (s5_34 + 1))] (And.intro rfl (And.intro rfl (And.intro rfl (And.intro rfl (And.intro rfl (And.intro rfl (trivial))))))) (hX a4_79 (s5_34 + 1) m_62))

set_option maxRecDepth 100000 in
set_option maxHeartbeats 4000000 in
theorem ok_X12_price (N d : Nat) (a1 : Int32) (a2 : Int32)  (m : Mem) : Ok none SG (d + 5) m_X12_price 0 [some (.ref 123), some (.int a1), some (.int a2), none, none, none] [] SG m (f_X12_price N a1 a2 m) := by
  unfold f_X12_price
  refine ok_aload_n 1 0 dX12_price_0 rfl rfl rfl ?_
  refine ok_iload_n 2 1 dX12_price_1 rfl rfl rfl ?_
  refine ok_callVi (np := 1) (M' := m_X12_isHearer) (As := [.int a1]) (st := []) 5 dX12_price_2 rfl rfl km_X12_isHearer ki_X12_isHearer kv_X12_isHearer ml_EncoresModel_68 (by decide) sg_123 rfl (Nat.le_of_ble_eq_true rfl) rfl rfl rfl (Nat.le_of_ble_eq_true rfl) (c_X12_isHearer N (d + 3) a1 m) ⟨Nat.le_refl _, Nat.le_refl _⟩ (Or.inl rfl) rfl (fun r_2 m_2 _ => ?_)
  refine ok_if_eq 16 8 dX12_price_5 (by decide) rfl (fun _ => ?_) (fun _ => ?_)
  · refine ok_iconst 17 (-1) dX12_price_16 rfl rfl ?_
    exact ok_iret dX12_price_17 rfl
  · refine ok_aload_n 9 0 dX12_price_8 rfl rfl rfl ?_
    refine ok_iload_n 10 2 dX12_price_9 rfl rfl rfl ?_
    refine ok_callVi (np := 1) (M' := m_X12_isDeed) (As := [.int a2]) (st := []) 13 dX12_price_10 rfl rfl km_X12_isDeed ki_X12_isDeed kv_X12_isDeed ml_EncoresModel_72 (by decide) sg_123 rfl (Nat.le_of_ble_eq_true rfl) rfl rfl rfl (Nat.le_of_ble_eq_true rfl) (c_X12_isDeed N (d + 3) a2 m_2) ⟨Nat.le_refl _, Nat.le_refl _⟩ (Or.inl rfl) rfl (fun r_10 m_10 _ => ?_)
    refine ok_if_ne 18 16 dX12_price_13 (by decide) rfl (fun _ => ?_) (fun _ => ?_)
    · refine ok_aload_n 19 0 dX12_price_18 rfl rfl rfl ?_
      refine ok_getR 22 dX12_price_19 rfl rfl F_EncoresModel_7 sg_123 rfl (Nat.le_of_ble_eq_true rfl) rfl rfl ?_
      refine ok_bipush 24 9 dX12_price_22 rfl rfl ?_
      refine ok_iload_n 25 1 dX12_price_24 rfl rfl rfl ?_
      refine ok_iadd 26 dX12_price_25 rfl ?_
      refine ok_iald 27 dX12_price_26 rfl sg_124 ?_
      refine ok_bndI (fun a3_27 => ?_)
      refine ok_istore_n 28 3 [some (.ref 123), some (.int a1), some (.int a2), some (.int a3_27), none, none] dX12_price_27 rfl rfl (by decide) rfl ?_
      refine ok_iconst 29 (-1) dX12_price_28 rfl rfl ?_
      refine ok_istore 31 4 [some (.ref 123), some (.int a1), some (.int a2), some (.int a3_27), some (.int (-1)), none] dX12_price_29 rfl (by decide) rfl ?_
      refine ok_iload_n 32 3 dX12_price_31 rfl rfl rfl ?_
      refine ok_istore 34 5 [some (.ref 123), some (.int a1), some (.int a2), some (.int a3_27), some (.int (-1)), some (.int a3_27)] dX12_price_32 rfl (by decide) rfl ?_
      refine ok_less [some (.ref 123), some (.int a1), some (.int a2), some (.int a3_27), some (.int (-1)), some (.int a3_27)] (And.intro rfl (And.intro rfl (And.intro rfl (And.intro rfl (And.intro rfl (And.intro rfl (trivial))))))) ?_
      exact ok_X12_price_L34 N d a1 a2 a3_27   N (-1) a3_27 m_10
    · refine ok_iconst 17 (-1) dX12_price_16 rfl rfl ?_
      exact ok_iret dX12_price_17 rfl

theorem c_X12_price (N d : Nat) (a1 : Int32) (a2 : Int32)  (m : Mem) : CM (d + 5) m_X12_price SG SG [.ref 123, .int a1, .int a2] m (f_X12_price N a1 a2 m) :=
  CM.ofOk km_X12_price ⟨Nat.le_refl _, Nat.le_refl _⟩ (by simp [Value.category]) (Nat.le_of_ble_eq_true rfl) (ok_X12_price N d a1 a2 m)

def f_X12_gain_L22 (N : Nat) (a1 : Int32) (r_13 : Int32)  (X : Int32 → Int32 → Mem → Ans) (s3_22 : Int32) (s4_22 : Int32) (m : Mem) : Ans :=
if (m 124 37) ≤ s4_22 then (some (s3_22, m))
else (if ((r_13 >>> (s4_22 &&& 31)) &&& (1 : Int32)) = (1 : Int32) then (chk (inb ((185 : Int32) + s4_22) 1707) <|
bd (f_X12_count N ((m 124 ((185 : Int32) + s4_22).toNatClampNeg) &&& (r_13 ^^^ (-1 : Int32))) m) fun r_60 m_60 =>
bnd (s3_22 + r_60) fun a3_68 =>
X a3_68 (s4_22 + 1) m_60)
else (bnd (s3_22 + (0 : Int32)) fun a3_68 =>
X a3_68 (s4_22 + 1) m))

def f_X12_gain (N : Nat) (a1 : Int32) (m : Mem) : Ans :=
bd (f_X12_isDeed N a1 m) fun r_2 m_2 =>
if r_2 = 0 then (some ((-1), m_2))
else (bd (f_X12_settles N a1 0 m_2) fun r_13 m_13 =>
it2 (f_X12_gain_L22 N a1 r_13 ) N 0 0 m_13)

set_option maxRecDepth 100000 in
set_option maxHeartbeats 4000000 in
theorem ok_X12_gain_L22 (N d : Nat) (a1 : Int32)  (r_13 : Int32)  : ∀ (n : Nat) (s3_22 : Int32) (s4_22 : Int32) (m : Mem), Ok none SG (d + 8) m_X12_gain 22 [some (.ref 123), none, some (.int r_13), some (.int s3_22), some (.int s4_22)] [] SG m (it2 (f_X12_gain_L22 N a1 r_13) n s3_22 s4_22 m) :=
  ok_it2 (fun s3_22 s4_22 => [some (.ref 123), none, some (.int r_13), some (.int s3_22), some (.int s4_22)]) (fun X hX s3_22 s4_22 m => by
    try unfold f_X12_gain_L22
    refine ok_iload 24 4 dX12_gain_22 rfl rfl ?_
    refine ok_aload_n 25 0 dX12_gain_24 rfl rfl rfl ?_
    refine ok_getR 28 dX12_gain_25 rfl rfl F_EncoresModel_7 sg_123 rfl (Nat.le_of_ble_eq_true rfl) rfl rfl ?_
    refine ok_bipush 30 37 dX12_gain_28 rfl rfl ?_
    refine ok_ialdc 31 37 dX12_gain_30 rfl sg_124 (by decide) (by decide) ?_
    refine ok_icmp_ge 75 34 dX12_gain_31 (by decide) rfl (fun _ => ?_) (fun _ => ?_)
    · refine ok_iload_n 76 3 dX12_gain_75 rfl rfl rfl ?_
      exact ok_iret dX12_gain_76 rfl
    · refine ok_iload_n 35 3 dX12_gain_34 rfl rfl rfl ?_
      refine ok_iload_n 36 2 dX12_gain_35 rfl rfl rfl ?_
      refine ok_iload 38 4 dX12_gain_36 rfl rfl ?_
      refine ok_ishr 39 dX12_gain_38 rfl ?_
      refine ok_iconst 40 1 dX12_gain_39 rfl rfl ?_
      refine ok_iand 41 dX12_gain_40 rfl ?_
      refine ok_iconst 42 1 dX12_gain_41 rfl rfl ?_
      refine ok_icmp_ne 66 45 dX12_gain_42 (by decide) rfl (fun _ => ?_) (fun _ => ?_)
      · refine ok_iconst 67 0 dX12_gain_66 rfl rfl ?_
        refine ok_iadd 68 dX12_gain_67 rfl ?_
        refine ok_bndI (fun a3_68 => ?_)
        refine ok_istore_n 69 3 [some (.ref 123), none, some (.int r_13), some (.int a3_68), some (.int s4_22)] dX12_gain_68 rfl rfl (by decide) rfl ?_
        refine ok_iinc 72 4 1 [some (.ref 123), none, some (.int r_13), some (.int a3_68), some (.int (s4_22 + 1))] dX12_gain_69 rfl rfl rfl (by decide) rfl ?_
        refine ok_goto 22 dX12_gain_72 (by decide) ?_
        exact ok_less [some (.ref 123), none, some (.int r_13), some (.int a3_68), some (.int (s4_22 + 1))] (And.intro rfl (And.intro rfl (And.intro rfl (And.intro rfl (trivial))))) (hX a3_68 (s4_22 + 1) m)
      · refine ok_aload_n 46 0 dX12_gain_45 rfl rfl rfl ?_
        refine ok_getR 49 dX12_gain_46 rfl rfl F_EncoresModel_7 sg_123 rfl (Nat.le_of_ble_eq_true rfl) rfl rfl ?_
        refine ok_sipush 52 185 dX12_gain_49 rfl rfl ?_
        refine ok_iload 54 4 dX12_gain_52 rfl rfl ?_
        refine ok_iadd 55 dX12_gain_54 rfl ?_
        refine ok_iald 56 dX12_gain_55 rfl sg_124 ?_
        refine ok_iload_n 57 2 dX12_gain_56 rfl rfl rfl ?_
        refine ok_iconst 58 (-1) dX12_gain_57 rfl rfl ?_
        refine ok_ixor 59 dX12_gain_58 rfl ?_
        refine ok_iand 60 dX12_gain_59 rfl ?_
        refine ok_callSi (np := 1) (M' := m_X12_count) (As := [.int ((m 124 ((185 : Int32) + s4_22).toNatClampNeg) &&& (r_13 ^^^ (-1 : Int32)))]) (st := [.int s3_22]) 63 dX12_gain_60 rfl rfl km_X12_count ks_X12_count ml_EncoresModel_319 (by decide) rfl rfl (Nat.le_of_ble_eq_true rfl) (c_X12_count N (d + 7) ((m 124 ((185 : Int32) + s4_22).toNatClampNeg) &&& (r_13 ^^^ (-1 : Int32))) m) ⟨Nat.le_refl _, Nat.le_refl _⟩ (Or.inl rfl) rfl (fun r_60 m_60 _ => ?_)
        refine ok_goto 67 dX12_gain_63 (by decide) ?_
        refine ok_iadd 68 dX12_gain_67 rfl ?_
        refine ok_bndI (fun a3_68 => ?_)
        refine ok_istore_n 69 3 [some (.ref 123), none, some (.int r_13), some (.int a3_68), some (.int s4_22)] dX12_gain_68 rfl rfl (by decide) rfl ?_
        refine ok_iinc 72 4 1 [some (.ref 123), none, some (.int r_13), some (.int a3_68), some (.int (s4_22 + 1))] dX12_gain_69 rfl rfl rfl (by decide) rfl ?_
        refine ok_goto 22 dX12_gain_72 (by decide) ?_
        exact ok_less [some (.ref 123), none, some (.int r_13), some (.int a3_68), some (.int (s4_22 + 1))] (And.intro rfl (And.intro rfl (And.intro rfl (And.intro rfl (trivial))))) (hX a3_68 (s4_22 + 1) m_60))

set_option maxRecDepth 100000 in
set_option maxHeartbeats 4000000 in
theorem ok_X12_gain (N d : Nat) (a1 : Int32)  (m : Mem) : Ok none SG (d + 8) m_X12_gain 0 [some (.ref 123), some (.int a1), none, none, none] [] SG m (f_X12_gain N a1 m) := by
  unfold f_X12_gain
  refine ok_aload_n 1 0 dX12_gain_0 rfl rfl rfl ?_
  refine ok_iload_n 2 1 dX12_gain_1 rfl rfl rfl ?_
  refine ok_callVi (np := 1) (M' := m_X12_isDeed) (As := [.int a1]) (st := []) 5 dX12_gain_2 rfl rfl km_X12_isDeed ki_X12_isDeed kv_X12_isDeed ml_EncoresModel_72 (by decide) sg_123 rfl (Nat.le_of_ble_eq_true rfl) rfl rfl rfl (Nat.le_of_ble_eq_true rfl) (c_X12_isDeed N (d + 6) a1 m) ⟨Nat.le_refl _, Nat.le_refl _⟩ (Or.inl rfl) rfl (fun r_2 m_2 _ => ?_)
  refine ok_if_ne 10 8 dX12_gain_5 (by decide) rfl (fun _ => ?_) (fun _ => ?_)
  · refine ok_aload_n 11 0 dX12_gain_10 rfl rfl rfl ?_
    refine ok_iload_n 12 1 dX12_gain_11 rfl rfl rfl ?_
    refine ok_iconst 13 0 dX12_gain_12 rfl rfl ?_
    refine ok_callVi (np := 2) (M' := m_X12_settles) (As := [.int a1, .int 0]) (st := []) 16 dX12_gain_13 rfl rfl km_X12_settles ki_X12_settles kv_X12_settles ml_EncoresModel_389 (by decide) sg_123 rfl (Nat.le_of_ble_eq_true rfl) rfl rfl rfl (Nat.le_of_ble_eq_true rfl) (c_X12_settles N (d + 0) a1 0 m_2) ⟨Nat.le_refl _, Nat.le_refl _⟩ (Or.inl rfl) rfl (fun r_13 m_13 _ => ?_)
    refine ok_istore_n 17 2 [some (.ref 123), some (.int a1), some (.int r_13), none, none] dX12_gain_16 rfl rfl (by decide) rfl ?_
    refine ok_iconst 18 0 dX12_gain_17 rfl rfl ?_
    refine ok_istore_n 19 3 [some (.ref 123), some (.int a1), some (.int r_13), some (.int 0), none] dX12_gain_18 rfl rfl (by decide) rfl ?_
    refine ok_iconst 20 0 dX12_gain_19 rfl rfl ?_
    refine ok_istore 22 4 [some (.ref 123), some (.int a1), some (.int r_13), some (.int 0), some (.int 0)] dX12_gain_20 rfl (by decide) rfl ?_
    refine ok_less [some (.ref 123), none, some (.int r_13), some (.int 0), some (.int 0)] (And.intro rfl (And.intro rfl (And.intro rfl (And.intro rfl (trivial))))) ?_
    exact ok_X12_gain_L22 N d a1 r_13   N 0 0 m_13
  · refine ok_iconst 9 (-1) dX12_gain_8 rfl rfl ?_
    exact ok_iret dX12_gain_9 rfl

theorem c_X12_gain (N d : Nat) (a1 : Int32)  (m : Mem) : CM (d + 8) m_X12_gain SG SG [.ref 123, .int a1] m (f_X12_gain N a1 m) :=
  CM.ofOk km_X12_gain ⟨Nat.le_refl _, Nat.le_refl _⟩ (by simp [Value.category]) (Nat.le_of_ble_eq_true rfl) (ok_X12_gain N d a1 m)

def f_X12_tires_L16 (N : Nat) (a1 : Int32)   (X : Int32 → Mem → Ans) (s2_16 : Int32) (m : Mem) : Ans :=
if (99 : Int32) < s2_16 then (bd (f_X12_putsBack N m) fun _ m_48 =>
if s2_16 ≤ (99 : Int32) then (some (s2_16, m_48))
else (some ((-1), m_48)))
else (chk (inb ((21 : Int32) + a1) 1707) <|
if (99 : Int32) ≤ (m 124 ((21 : Int32) + a1).toNatClampNeg) then (bd (f_X12_putsBack N m) fun _ m_48 =>
if s2_16 ≤ (99 : Int32) then (some (s2_16, m_48))
else (some ((-1), m_48)))
else (bd (f_X12_begins0 N a1 m) fun _ m_38 =>
X (s2_16 + 1) m_38))

def f_X12_tires (N : Nat) (a1 : Int32) (m : Mem) : Ans :=
bd (f_X12_isDeed N a1 m) fun r_2 m_2 =>
if r_2 = 0 then (some ((-1), m_2))
else (bd (f_X12_lays N m_2) fun _ m_11 =>
it1 (f_X12_tires_L16 N a1 ) N 0 m_11)

set_option maxRecDepth 100000 in
set_option maxHeartbeats 4000000 in
theorem ok_X12_tires_L16 (N d : Nat) (a1 : Int32)    : ∀ (n : Nat) (s2_16 : Int32) (m : Mem), Ok none SG (d + 6) m_X12_tires 16 [some (.ref 123), some (.int a1), some (.int s2_16)] [] SG m (it1 (f_X12_tires_L16 N a1) n s2_16 m) :=
  ok_it1 (fun s2_16 => [some (.ref 123), some (.int a1), some (.int s2_16)]) (fun X hX s2_16 m => by
    try unfold f_X12_tires_L16
    refine ok_iload_n 17 2 dX12_tires_16 rfl rfl rfl ?_
    refine ok_bipush 19 99 dX12_tires_17 rfl rfl ?_
    refine ok_icmp_gt 47 22 dX12_tires_19 (by decide) rfl (fun _ => ?_) (fun _ => ?_)
    · refine ok_aload_n 48 0 dX12_tires_47 rfl rfl rfl ?_
      refine ok_callVv (np := 0) (M' := m_X12_putsBack) (As := []) (st := []) 51 dX12_tires_48 rfl rfl km_X12_putsBack ki_X12_putsBack kv_X12_putsBack ml_EncoresModel_380 (by decide) sg_123 rfl (Nat.le_of_ble_eq_true rfl) rfl rfl rfl (Nat.le_of_ble_eq_true rfl) (c_X12_putsBack N (d + 5) m) ⟨Nat.le_refl _, Nat.le_refl _⟩ (Or.inl rfl) rfl (fun _ m_48 _ => ?_)
      refine ok_iload_n 52 2 dX12_tires_51 rfl rfl rfl ?_
      refine ok_bipush 54 99 dX12_tires_52 rfl rfl ?_
      refine ok_icmp_le 61 57 dX12_tires_54 (by decide) rfl (fun _ => ?_) (fun _ => ?_)
      · refine ok_iload_n 62 2 dX12_tires_61 rfl rfl rfl ?_
        exact ok_iret dX12_tires_62 rfl
      · refine ok_iconst 58 (-1) dX12_tires_57 rfl rfl ?_
        refine ok_goto 62 dX12_tires_58 (by decide) ?_
        exact ok_iret dX12_tires_62 rfl
    · refine ok_aload_n 23 0 dX12_tires_22 rfl rfl rfl ?_
      refine ok_getR 26 dX12_tires_23 rfl rfl F_EncoresModel_7 sg_123 rfl (Nat.le_of_ble_eq_true rfl) rfl rfl ?_
      refine ok_bipush 28 21 dX12_tires_26 rfl rfl ?_
      refine ok_iload_n 29 1 dX12_tires_28 rfl rfl rfl ?_
      refine ok_iadd 30 dX12_tires_29 rfl ?_
      refine ok_iald 31 dX12_tires_30 rfl sg_124 ?_
      refine ok_bipush 33 99 dX12_tires_31 rfl rfl ?_
      refine ok_icmp_ge 47 36 dX12_tires_33 (by decide) rfl (fun _ => ?_) (fun _ => ?_)
      · refine ok_aload_n 48 0 dX12_tires_47 rfl rfl rfl ?_
        refine ok_callVv (np := 0) (M' := m_X12_putsBack) (As := []) (st := []) 51 dX12_tires_48 rfl rfl km_X12_putsBack ki_X12_putsBack kv_X12_putsBack ml_EncoresModel_380 (by decide) sg_123 rfl (Nat.le_of_ble_eq_true rfl) rfl rfl rfl (Nat.le_of_ble_eq_true rfl) (c_X12_putsBack N (d + 5) m) ⟨Nat.le_refl _, Nat.le_refl _⟩ (Or.inl rfl) rfl (fun _ m_48 _ => ?_)
        refine ok_iload_n 52 2 dX12_tires_51 rfl rfl rfl ?_
        refine ok_bipush 54 99 dX12_tires_52 rfl rfl ?_
        refine ok_icmp_le 61 57 dX12_tires_54 (by decide) rfl (fun _ => ?_) (fun _ => ?_)
        · refine ok_iload_n 62 2 dX12_tires_61 rfl rfl rfl ?_
          exact ok_iret dX12_tires_62 rfl
        · refine ok_iconst 58 (-1) dX12_tires_57 rfl rfl ?_
          refine ok_goto 62 dX12_tires_58 (by decide) ?_
          exact ok_iret dX12_tires_62 rfl
      · refine ok_aload_n 37 0 dX12_tires_36 rfl rfl rfl ?_
        refine ok_iload_n 38 1 dX12_tires_37 rfl rfl rfl ?_
        refine ok_callVv (np := 1) (M' := m_X12_begins0) (As := [.int a1]) (st := []) 41 dX12_tires_38 rfl rfl km_X12_begins0 ki_X12_begins0 kv_X12_begins0 ml_EncoresModel_361 (by decide) sg_123 rfl (Nat.le_of_ble_eq_true rfl) rfl rfl rfl (Nat.le_of_ble_eq_true rfl) (c_X12_begins0 N (d + 0) a1 m) ⟨Nat.le_refl _, Nat.le_refl _⟩ (Or.inl rfl) rfl (fun _ m_38 _ => ?_)
        refine ok_iinc 44 2 1 [some (.ref 123), some (.int a1), some (.int (s2_16 + 1))] dX12_tires_41 rfl rfl rfl (by decide) rfl ?_
        refine ok_goto 16 dX12_tires_44 (by decide) ?_
        exact ok_less [some (.ref 123), some (.int a1), some (.int (s2_16 + 1))] (And.intro rfl (And.intro rfl (And.intro rfl (trivial)))) (hX (s2_16 + 1) m_38))

set_option maxRecDepth 100000 in
set_option maxHeartbeats 4000000 in
theorem ok_X12_tires (N d : Nat) (a1 : Int32)  (m : Mem) : Ok none SG (d + 6) m_X12_tires 0 [some (.ref 123), some (.int a1), none] [] SG m (f_X12_tires N a1 m) := by
  unfold f_X12_tires
  refine ok_aload_n 1 0 dX12_tires_0 rfl rfl rfl ?_
  refine ok_iload_n 2 1 dX12_tires_1 rfl rfl rfl ?_
  refine ok_callVi (np := 1) (M' := m_X12_isDeed) (As := [.int a1]) (st := []) 5 dX12_tires_2 rfl rfl km_X12_isDeed ki_X12_isDeed kv_X12_isDeed ml_EncoresModel_72 (by decide) sg_123 rfl (Nat.le_of_ble_eq_true rfl) rfl rfl rfl (Nat.le_of_ble_eq_true rfl) (c_X12_isDeed N (d + 4) a1 m) ⟨Nat.le_refl _, Nat.le_refl _⟩ (Or.inl rfl) rfl (fun r_2 m_2 _ => ?_)
  refine ok_if_ne 10 8 dX12_tires_5 (by decide) rfl (fun _ => ?_) (fun _ => ?_)
  · refine ok_aload_n 11 0 dX12_tires_10 rfl rfl rfl ?_
    refine ok_callVv (np := 0) (M' := m_X12_lays) (As := []) (st := []) 14 dX12_tires_11 rfl rfl km_X12_lays ki_X12_lays kv_X12_lays ml_EncoresModel_377 (by decide) sg_123 rfl (Nat.le_of_ble_eq_true rfl) rfl rfl rfl (Nat.le_of_ble_eq_true rfl) (c_X12_lays N (d + 5) m_2) ⟨Nat.le_refl _, Nat.le_refl _⟩ (Or.inl rfl) rfl (fun _ m_11 _ => ?_)
    refine ok_iconst 15 0 dX12_tires_14 rfl rfl ?_
    refine ok_istore_n 16 2 [some (.ref 123), some (.int a1), some (.int 0)] dX12_tires_15 rfl rfl (by decide) rfl ?_
    refine ok_less [some (.ref 123), some (.int a1), some (.int 0)] (And.intro rfl (And.intro rfl (And.intro rfl (trivial)))) ?_
    exact ok_X12_tires_L16 N d a1    N 0 m_11
  · refine ok_iconst 9 (-1) dX12_tires_8 rfl rfl ?_
    exact ok_iret dX12_tires_9 rfl

theorem c_X12_tires (N d : Nat) (a1 : Int32)  (m : Mem) : CM (d + 6) m_X12_tires SG SG [.ref 123, .int a1] m (f_X12_tires N a1 m) :=
  CM.ofOk km_X12_tires ⟨Nat.le_refl _, Nat.le_refl _⟩ (by simp [Value.category]) (Nat.le_of_ble_eq_true rfl) (ok_X12_tires N d a1 m)

def f_X12_longOf_L4 (N : Nat) (a1 : Int32)   (X : Int32 → Int32 → Mem → Ans) (s2_4 : Int32) (s3_4 : Int32) (m : Mem) : Ans :=
if (m 124 38) ≤ s3_4 then (some (s2_4, m))
else (if ((a1 >>> (s3_4 &&& 31)) &&& (1 : Int32)) = (1 : Int32) then (chk (inb ((89 : Int32) + s3_4) 1707) <|
bnd (s2_4 + (m 124 ((89 : Int32) + s3_4).toNatClampNeg)) fun a2_39 =>
X a2_39 (s3_4 + 1) m)
else (bnd (s2_4 + (0 : Int32)) fun a2_39 =>
X a2_39 (s3_4 + 1) m))

def f_X12_longOf (N : Nat) (a1 : Int32) (m : Mem) : Ans :=
it2 (f_X12_longOf_L4 N a1 ) N 0 0 m

set_option maxRecDepth 100000 in
set_option maxHeartbeats 4000000 in
theorem ok_X12_longOf_L4 (N d : Nat) (a1 : Int32)    : ∀ (n : Nat) (s2_4 : Int32) (s3_4 : Int32) (m : Mem), Ok none SG (d + 0) m_X12_longOf 4 [some (.ref 123), some (.int a1), some (.int s2_4), some (.int s3_4)] [] SG m (it2 (f_X12_longOf_L4 N a1) n s2_4 s3_4 m) :=
  ok_it2 (fun s2_4 s3_4 => [some (.ref 123), some (.int a1), some (.int s2_4), some (.int s3_4)]) (fun X hX s2_4 s3_4 m => by
    try unfold f_X12_longOf_L4
    refine ok_iload_n 5 3 dX12_longOf_4 rfl rfl rfl ?_
    refine ok_aload_n 6 0 dX12_longOf_5 rfl rfl rfl ?_
    refine ok_getR 9 dX12_longOf_6 rfl rfl F_EncoresModel_7 sg_123 rfl (Nat.le_of_ble_eq_true rfl) rfl rfl ?_
    refine ok_bipush 11 38 dX12_longOf_9 rfl rfl ?_
    refine ok_ialdc 12 38 dX12_longOf_11 rfl sg_124 (by decide) (by decide) ?_
    refine ok_icmp_ge 46 15 dX12_longOf_12 (by decide) rfl (fun _ => ?_) (fun _ => ?_)
    · refine ok_iload_n 47 2 dX12_longOf_46 rfl rfl rfl ?_
      exact ok_iret dX12_longOf_47 rfl
    · refine ok_iload_n 16 2 dX12_longOf_15 rfl rfl rfl ?_
      refine ok_iload_n 17 1 dX12_longOf_16 rfl rfl rfl ?_
      refine ok_iload_n 18 3 dX12_longOf_17 rfl rfl rfl ?_
      refine ok_ishr 19 dX12_longOf_18 rfl ?_
      refine ok_iconst 20 1 dX12_longOf_19 rfl rfl ?_
      refine ok_iand 21 dX12_longOf_20 rfl ?_
      refine ok_iconst 22 1 dX12_longOf_21 rfl rfl ?_
      refine ok_icmp_ne 37 25 dX12_longOf_22 (by decide) rfl (fun _ => ?_) (fun _ => ?_)
      · refine ok_iconst 38 0 dX12_longOf_37 rfl rfl ?_
        refine ok_iadd 39 dX12_longOf_38 rfl ?_
        refine ok_bndI (fun a2_39 => ?_)
        refine ok_istore_n 40 2 [some (.ref 123), some (.int a1), some (.int a2_39), some (.int s3_4)] dX12_longOf_39 rfl rfl (by decide) rfl ?_
        refine ok_iinc 43 3 1 [some (.ref 123), some (.int a1), some (.int a2_39), some (.int (s3_4 + 1))] dX12_longOf_40 rfl rfl rfl (by decide) rfl ?_
        refine ok_goto 4 dX12_longOf_43 (by decide) ?_
        exact ok_less [some (.ref 123), some (.int a1), some (.int a2_39), some (.int (s3_4 + 1))] (And.intro rfl (And.intro rfl (And.intro rfl (And.intro rfl (trivial))))) (hX a2_39 (s3_4 + 1) m)
      · refine ok_aload_n 26 0 dX12_longOf_25 rfl rfl rfl ?_
        refine ok_getR 29 dX12_longOf_26 rfl rfl F_EncoresModel_7 sg_123 rfl (Nat.le_of_ble_eq_true rfl) rfl rfl ?_
        refine ok_bipush 31 89 dX12_longOf_29 rfl rfl ?_
        refine ok_iload_n 32 3 dX12_longOf_31 rfl rfl rfl ?_
        refine ok_iadd 33 dX12_longOf_32 rfl ?_
        refine ok_iald 34 dX12_longOf_33 rfl sg_124 ?_
        refine ok_goto 38 dX12_longOf_34 (by decide) ?_
        refine ok_iadd 39 dX12_longOf_38 rfl ?_
        refine ok_bndI (fun a2_39 => ?_)
        refine ok_istore_n 40 2 [some (.ref 123), some (.int a1), some (.int a2_39), some (.int s3_4)] dX12_longOf_39 rfl rfl (by decide) rfl ?_
        refine ok_iinc 43 3 1 [some (.ref 123), some (.int a1), some (.int a2_39), some (.int (s3_4 + 1))] dX12_longOf_40 rfl rfl rfl (by decide) rfl ?_
        refine ok_goto 4 dX12_longOf_43 (by decide) ?_
        exact ok_less [some (.ref 123), some (.int a1), some (.int a2_39), some (.int (s3_4 + 1))] (And.intro rfl (And.intro rfl (And.intro rfl (And.intro rfl (trivial))))) (hX a2_39 (s3_4 + 1) m))

set_option maxRecDepth 100000 in
set_option maxHeartbeats 4000000 in
theorem ok_X12_longOf (N d : Nat) (a1 : Int32)  (m : Mem) : Ok none SG (d + 0) m_X12_longOf 0 [some (.ref 123), some (.int a1), none, none] [] SG m (f_X12_longOf N a1 m) := by
  unfold f_X12_longOf
  refine ok_iconst 1 0 dX12_longOf_0 rfl rfl ?_
  refine ok_istore_n 2 2 [some (.ref 123), some (.int a1), some (.int 0), none] dX12_longOf_1 rfl rfl (by decide) rfl ?_
  refine ok_iconst 3 0 dX12_longOf_2 rfl rfl ?_
  refine ok_istore_n 4 3 [some (.ref 123), some (.int a1), some (.int 0), some (.int 0)] dX12_longOf_3 rfl rfl (by decide) rfl ?_
  refine ok_less [some (.ref 123), some (.int a1), some (.int 0), some (.int 0)] (And.intro rfl (And.intro rfl (And.intro rfl (And.intro rfl (trivial))))) ?_
  exact ok_X12_longOf_L4 N d a1    N 0 0 m

theorem c_X12_longOf (N d : Nat) (a1 : Int32)  (m : Mem) : CM (d + 0) m_X12_longOf SG SG [.ref 123, .int a1] m (f_X12_longOf N a1 m) :=
  CM.ofOk km_X12_longOf ⟨Nat.le_refl _, Nat.le_refl _⟩ (by simp [Value.category]) (Nat.le_of_ble_eq_true rfl) (ok_X12_longOf N d a1 m)

def f_X12_worthOf_L4 (N : Nat) (a1 : Int32)   (X : Int32 → Int32 → Mem → Ans) (s2_4 : Int32) (s3_4 : Int32) (m : Mem) : Ans :=
if (m 124 38) ≤ s3_4 then (some (s2_4, m))
else (if ((a1 >>> (s3_4 &&& 31)) &&& (1 : Int32)) = (1 : Int32) then (chk (inb ((81 : Int32) + s3_4) 1707) <|
bnd (s2_4 + (m 124 ((81 : Int32) + s3_4).toNatClampNeg)) fun a2_39 =>
X a2_39 (s3_4 + 1) m)
else (bnd (s2_4 + (0 : Int32)) fun a2_39 =>
X a2_39 (s3_4 + 1) m))

def f_X12_worthOf (N : Nat) (a1 : Int32) (m : Mem) : Ans :=
it2 (f_X12_worthOf_L4 N a1 ) N 0 0 m

set_option maxRecDepth 100000 in
set_option maxHeartbeats 4000000 in
theorem ok_X12_worthOf_L4 (N d : Nat) (a1 : Int32)    : ∀ (n : Nat) (s2_4 : Int32) (s3_4 : Int32) (m : Mem), Ok none SG (d + 0) m_X12_worthOf 4 [some (.ref 123), some (.int a1), some (.int s2_4), some (.int s3_4)] [] SG m (it2 (f_X12_worthOf_L4 N a1) n s2_4 s3_4 m) :=
  ok_it2 (fun s2_4 s3_4 => [some (.ref 123), some (.int a1), some (.int s2_4), some (.int s3_4)]) (fun X hX s2_4 s3_4 m => by
    try unfold f_X12_worthOf_L4
    refine ok_iload_n 5 3 dX12_worthOf_4 rfl rfl rfl ?_
    refine ok_aload_n 6 0 dX12_worthOf_5 rfl rfl rfl ?_
    refine ok_getR 9 dX12_worthOf_6 rfl rfl F_EncoresModel_7 sg_123 rfl (Nat.le_of_ble_eq_true rfl) rfl rfl ?_
    refine ok_bipush 11 38 dX12_worthOf_9 rfl rfl ?_
    refine ok_ialdc 12 38 dX12_worthOf_11 rfl sg_124 (by decide) (by decide) ?_
    refine ok_icmp_ge 46 15 dX12_worthOf_12 (by decide) rfl (fun _ => ?_) (fun _ => ?_)
    · refine ok_iload_n 47 2 dX12_worthOf_46 rfl rfl rfl ?_
      exact ok_iret dX12_worthOf_47 rfl
    · refine ok_iload_n 16 2 dX12_worthOf_15 rfl rfl rfl ?_
      refine ok_iload_n 17 1 dX12_worthOf_16 rfl rfl rfl ?_
      refine ok_iload_n 18 3 dX12_worthOf_17 rfl rfl rfl ?_
      refine ok_ishr 19 dX12_worthOf_18 rfl ?_
      refine ok_iconst 20 1 dX12_worthOf_19 rfl rfl ?_
      refine ok_iand 21 dX12_worthOf_20 rfl ?_
      refine ok_iconst 22 1 dX12_worthOf_21 rfl rfl ?_
      refine ok_icmp_ne 37 25 dX12_worthOf_22 (by decide) rfl (fun _ => ?_) (fun _ => ?_)
      · refine ok_iconst 38 0 dX12_worthOf_37 rfl rfl ?_
        refine ok_iadd 39 dX12_worthOf_38 rfl ?_
        refine ok_bndI (fun a2_39 => ?_)
        refine ok_istore_n 40 2 [some (.ref 123), some (.int a1), some (.int a2_39), some (.int s3_4)] dX12_worthOf_39 rfl rfl (by decide) rfl ?_
        refine ok_iinc 43 3 1 [some (.ref 123), some (.int a1), some (.int a2_39), some (.int (s3_4 + 1))] dX12_worthOf_40 rfl rfl rfl (by decide) rfl ?_
        refine ok_goto 4 dX12_worthOf_43 (by decide) ?_
        exact ok_less [some (.ref 123), some (.int a1), some (.int a2_39), some (.int (s3_4 + 1))] (And.intro rfl (And.intro rfl (And.intro rfl (And.intro rfl (trivial))))) (hX a2_39 (s3_4 + 1) m)
      · refine ok_aload_n 26 0 dX12_worthOf_25 rfl rfl rfl ?_
        refine ok_getR 29 dX12_worthOf_26 rfl rfl F_EncoresModel_7 sg_123 rfl (Nat.le_of_ble_eq_true rfl) rfl rfl ?_
        refine ok_bipush 31 81 dX12_worthOf_29 rfl rfl ?_
        refine ok_iload_n 32 3 dX12_worthOf_31 rfl rfl rfl ?_
        refine ok_iadd 33 dX12_worthOf_32 rfl ?_
        refine ok_iald 34 dX12_worthOf_33 rfl sg_124 ?_
        refine ok_goto 38 dX12_worthOf_34 (by decide) ?_
        refine ok_iadd 39 dX12_worthOf_38 rfl ?_
        refine ok_bndI (fun a2_39 => ?_)
        refine ok_istore_n 40 2 [some (.ref 123), some (.int a1), some (.int a2_39), some (.int s3_4)] dX12_worthOf_39 rfl rfl (by decide) rfl ?_
        refine ok_iinc 43 3 1 [some (.ref 123), some (.int a1), some (.int a2_39), some (.int (s3_4 + 1))] dX12_worthOf_40 rfl rfl rfl (by decide) rfl ?_
        refine ok_goto 4 dX12_worthOf_43 (by decide) ?_
        exact ok_less [some (.ref 123), some (.int a1), some (.int a2_39), some (.int (s3_4 + 1))] (And.intro rfl (And.intro rfl (And.intro rfl (And.intro rfl (trivial))))) (hX a2_39 (s3_4 + 1) m))

set_option maxRecDepth 100000 in
set_option maxHeartbeats 4000000 in
theorem ok_X12_worthOf (N d : Nat) (a1 : Int32)  (m : Mem) : Ok none SG (d + 0) m_X12_worthOf 0 [some (.ref 123), some (.int a1), none, none] [] SG m (f_X12_worthOf N a1 m) := by
  unfold f_X12_worthOf
  refine ok_iconst 1 0 dX12_worthOf_0 rfl rfl ?_
  refine ok_istore_n 2 2 [some (.ref 123), some (.int a1), some (.int 0), none] dX12_worthOf_1 rfl rfl (by decide) rfl ?_
  refine ok_iconst 3 0 dX12_worthOf_2 rfl rfl ?_
  refine ok_istore_n 4 3 [some (.ref 123), some (.int a1), some (.int 0), some (.int 0)] dX12_worthOf_3 rfl rfl (by decide) rfl ?_
  refine ok_less [some (.ref 123), some (.int a1), some (.int 0), some (.int 0)] (And.intro rfl (And.intro rfl (And.intro rfl (And.intro rfl (trivial))))) ?_
  exact ok_X12_worthOf_L4 N d a1    N 0 0 m

theorem c_X12_worthOf (N d : Nat) (a1 : Int32)  (m : Mem) : CM (d + 0) m_X12_worthOf SG SG [.ref 123, .int a1] m (f_X12_worthOf N a1 m) :=
  CM.ofOk km_X12_worthOf ⟨Nat.le_refl _, Nat.le_refl _⟩ (by simp [Value.category]) (Nat.le_of_ble_eq_true rfl) (ok_X12_worthOf N d a1 m)

def f_X12_fills_L27 (N : Nat) (a1 : Int32) (a2 : Int32)   (X : Int32 → Int32 → Mem → Ans) (s3_27 : Int32) (s4_27 : Int32) (m : Mem) : Ans :=
if ((1 : Int32) <<< ((m 124 38) &&& 31)) ≤ s4_27 then (if a2 = 0 then (bd (f_X12_worthOf N s3_27 m) fun r_80 m_80 =>
some (r_80, m_80))
else (some (s3_27, m)))
else (bd (f_X12_longOf N s4_27 m) fun r_44 m_44 =>
if a1 < r_44 then (X s3_27 (s4_27 + 1) m_44)
else (bd (f_X12_worthOf N s4_27 m_44) fun r_54 m_54 =>
bd (f_X12_worthOf N s3_27 m_54) fun r_59 m_59 =>
if r_54 ≤ r_59 then (X s3_27 (s4_27 + 1) m_59)
else (X s4_27 (s4_27 + 1) m_59)))

def f_X12_fills (N : Nat) (a1 : Int32) (a2 : Int32) (m : Mem) : Ans :=
bd (f_X12_isIn N a1 1 999 m) fun r_5 m_5 =>
if r_5 = 0 then (some ((-1), m_5))
else (bd (f_X12_isIn N a2 0 1 m_5) fun r_14 m_14 =>
if r_14 = 0 then (some ((-1), m_14))
else (it2 (f_X12_fills_L27 N a1 a2 ) N 0 1 m_14))

set_option maxRecDepth 100000 in
set_option maxHeartbeats 4000000 in
theorem ok_X12_fills_L27 (N d : Nat) (a1 : Int32) (a2 : Int32)    : ∀ (n : Nat) (s3_27 : Int32) (s4_27 : Int32) (m : Mem), Ok none SG (d + 1) m_X12_fills 27 [some (.ref 123), some (.int a1), some (.int a2), some (.int s3_27), some (.int s4_27)] [] SG m (it2 (f_X12_fills_L27 N a1 a2) n s3_27 s4_27 m) :=
  ok_it2 (fun s3_27 s4_27 => [some (.ref 123), some (.int a1), some (.int a2), some (.int s3_27), some (.int s4_27)]) (fun X hX s3_27 s4_27 m => by
    try unfold f_X12_fills_L27
    refine ok_iload 29 4 dX12_fills_27 rfl rfl ?_
    refine ok_iconst 30 1 dX12_fills_29 rfl rfl ?_
    refine ok_aload_n 31 0 dX12_fills_30 rfl rfl rfl ?_
    refine ok_getR 34 dX12_fills_31 rfl rfl F_EncoresModel_7 sg_123 rfl (Nat.le_of_ble_eq_true rfl) rfl rfl ?_
    refine ok_bipush 36 38 dX12_fills_34 rfl rfl ?_
    refine ok_ialdc 37 38 dX12_fills_36 rfl sg_124 (by decide) (by decide) ?_
    refine ok_ishl 38 dX12_fills_37 rfl ?_
    refine ok_icmp_ge 74 41 dX12_fills_38 (by decide) rfl (fun _ => ?_) (fun _ => ?_)
    · refine ok_iload_n 75 2 dX12_fills_74 rfl rfl rfl ?_
      refine ok_if_ne 86 78 dX12_fills_75 (by decide) rfl (fun _ => ?_) (fun _ => ?_)
      · refine ok_iload_n 87 3 dX12_fills_86 rfl rfl rfl ?_
        exact ok_iret dX12_fills_87 rfl
      · refine ok_aload_n 79 0 dX12_fills_78 rfl rfl rfl ?_
        refine ok_iload_n 80 3 dX12_fills_79 rfl rfl rfl ?_
        refine ok_callVi (np := 1) (M' := m_X12_worthOf) (As := [.int s3_27]) (st := []) 83 dX12_fills_80 rfl rfl km_X12_worthOf ki_X12_worthOf kv_X12_worthOf ml_EncoresModel_395 (by decide) sg_123 rfl (Nat.le_of_ble_eq_true rfl) rfl rfl rfl (Nat.le_of_ble_eq_true rfl) (c_X12_worthOf N (d + 0) s3_27 m) ⟨Nat.le_refl _, Nat.le_refl _⟩ (Or.inl rfl) rfl (fun r_80 m_80 _ => ?_)
        refine ok_goto 87 dX12_fills_83 (by decide) ?_
        exact ok_iret dX12_fills_87 rfl
    · refine ok_aload_n 42 0 dX12_fills_41 rfl rfl rfl ?_
      refine ok_iload 44 4 dX12_fills_42 rfl rfl ?_
      refine ok_callVi (np := 1) (M' := m_X12_longOf) (As := [.int s4_27]) (st := []) 47 dX12_fills_44 rfl rfl km_X12_longOf ki_X12_longOf kv_X12_longOf ml_EncoresModel_392 (by decide) sg_123 rfl (Nat.le_of_ble_eq_true rfl) rfl rfl rfl (Nat.le_of_ble_eq_true rfl) (c_X12_longOf N (d + 0) s4_27 m) ⟨Nat.le_refl _, Nat.le_refl _⟩ (Or.inl rfl) rfl (fun r_44 m_44 _ => ?_)
      refine ok_iload_n 48 1 dX12_fills_47 rfl rfl rfl ?_
      refine ok_icmp_gt 68 51 dX12_fills_48 (by decide) rfl (fun _ => ?_) (fun _ => ?_)
      · refine ok_iinc 71 4 1 [some (.ref 123), some (.int a1), some (.int a2), some (.int s3_27), some (.int (s4_27 + 1))] dX12_fills_68 rfl rfl rfl (by decide) rfl ?_
        refine ok_goto 27 dX12_fills_71 (by decide) ?_
        exact ok_less [some (.ref 123), some (.int a1), some (.int a2), some (.int s3_27), some (.int (s4_27 + 1))] (And.intro rfl (And.intro rfl (And.intro rfl (And.intro rfl (And.intro rfl (trivial)))))) (hX s3_27 (s4_27 + 1) m_44)
      · refine ok_aload_n 52 0 dX12_fills_51 rfl rfl rfl ?_
        refine ok_iload 54 4 dX12_fills_52 rfl rfl ?_
        refine ok_callVi (np := 1) (M' := m_X12_worthOf) (As := [.int s4_27]) (st := []) 57 dX12_fills_54 rfl rfl km_X12_worthOf ki_X12_worthOf kv_X12_worthOf ml_EncoresModel_395 (by decide) sg_123 rfl (Nat.le_of_ble_eq_true rfl) rfl rfl rfl (Nat.le_of_ble_eq_true rfl) (c_X12_worthOf N (d + 0) s4_27 m_44) ⟨Nat.le_refl _, Nat.le_refl _⟩ (Or.inl rfl) rfl (fun r_54 m_54 _ => ?_)
        refine ok_aload_n 58 0 dX12_fills_57 rfl rfl rfl ?_
        refine ok_iload_n 59 3 dX12_fills_58 rfl rfl rfl ?_
        refine ok_callVi (np := 1) (M' := m_X12_worthOf) (As := [.int s3_27]) (st := [.int r_54]) 62 dX12_fills_59 rfl rfl km_X12_worthOf ki_X12_worthOf kv_X12_worthOf ml_EncoresModel_395 (by decide) sg_123 rfl (Nat.le_of_ble_eq_true rfl) rfl rfl rfl (Nat.le_of_ble_eq_true rfl) (c_X12_worthOf N (d + 0) s3_27 m_54) ⟨Nat.le_refl _, Nat.le_refl _⟩ (Or.inl rfl) rfl (fun r_59 m_59 _ => ?_)
        refine ok_icmp_le 68 65 dX12_fills_62 (by decide) rfl (fun _ => ?_) (fun _ => ?_)
        · refine ok_iinc 71 4 1 [some (.ref 123), some (.int a1), some (.int a2), some (.int s3_27), some (.int (s4_27 + 1))] dX12_fills_68 rfl rfl rfl (by decide) rfl ?_
          refine ok_goto 27 dX12_fills_71 (by decide) ?_
          exact ok_less [some (.ref 123), some (.int a1), some (.int a2), some (.int s3_27), some (.int (s4_27 + 1))] (And.intro rfl (And.intro rfl (And.intro rfl (And.intro rfl (And.intro rfl (trivial)))))) (hX s3_27 (s4_27 + 1) m_59)
        · refine ok_iload 67 4 dX12_fills_65 rfl rfl ?_
          refine ok_istore_n 68 3 [some (.ref 123), some (.int a1), some (.int a2), some (.int s4_27), some (.int s4_27)] dX12_fills_67 rfl rfl (by decide) rfl ?_
          refine ok_iinc 71 4 1 [some (.ref 123), some (.int a1), some (.int a2), some (.int s4_27), some (.int (s4_27 + 1))] dX12_fills_68 rfl rfl rfl (by decide) rfl ?_
          refine ok_goto 27 dX12_fills_71 (by decide) ?_
          exact ok_less [some (.ref 123), some (.int a1), some (.int a2), some (.int s4_27), some (.int (s4_27 + 1))] (And.intro rfl (And.intro rfl (And.intro rfl (And.intro rfl (And.intro rfl (trivial)))))) (hX s4_27 (s4_27 + 1) m_59))

set_option maxRecDepth 100000 in
set_option maxHeartbeats 4000000 in
theorem ok_X12_fills (N d : Nat) (a1 : Int32) (a2 : Int32)  (m : Mem) : Ok none SG (d + 1) m_X12_fills 0 [some (.ref 123), some (.int a1), some (.int a2), none, none] [] SG m (f_X12_fills N a1 a2 m) := by
  unfold f_X12_fills
  refine ok_iload_n 1 1 dX12_fills_0 rfl rfl rfl ?_
  refine ok_iconst 2 1 dX12_fills_1 rfl rfl ?_
  refine ok_sipush 5 999 dX12_fills_2 rfl rfl ?_
  refine ok_callSi (np := 3) (M' := m_X12_isIn) (As := [.int a1, .int 1, .int 999]) (st := []) 8 dX12_fills_5 rfl rfl km_X12_isIn ks_X12_isIn ml_EncoresModel_56 (by decide) rfl rfl (Nat.le_of_ble_eq_true rfl) (c_X12_isIn N (d + 0) a1 1 999 m) ⟨Nat.le_refl _, Nat.le_refl _⟩ (Or.inl rfl) rfl (fun r_5 m_5 _ => ?_)
  refine ok_if_eq 20 11 dX12_fills_8 (by decide) rfl (fun _ => ?_) (fun _ => ?_)
  · refine ok_iconst 21 (-1) dX12_fills_20 rfl rfl ?_
    exact ok_iret dX12_fills_21 rfl
  · refine ok_iload_n 12 2 dX12_fills_11 rfl rfl rfl ?_
    refine ok_iconst 13 0 dX12_fills_12 rfl rfl ?_
    refine ok_iconst 14 1 dX12_fills_13 rfl rfl ?_
    refine ok_callSi (np := 3) (M' := m_X12_isIn) (As := [.int a2, .int 0, .int 1]) (st := []) 17 dX12_fills_14 rfl rfl km_X12_isIn ks_X12_isIn ml_EncoresModel_56 (by decide) rfl rfl (Nat.le_of_ble_eq_true rfl) (c_X12_isIn N (d + 0) a2 0 1 m_5) ⟨Nat.le_refl _, Nat.le_refl _⟩ (Or.inl rfl) rfl (fun r_14 m_14 _ => ?_)
    refine ok_if_ne 22 20 dX12_fills_17 (by decide) rfl (fun _ => ?_) (fun _ => ?_)
    · refine ok_iconst 23 0 dX12_fills_22 rfl rfl ?_
      refine ok_istore_n 24 3 [some (.ref 123), some (.int a1), some (.int a2), some (.int 0), none] dX12_fills_23 rfl rfl (by decide) rfl ?_
      refine ok_iconst 25 1 dX12_fills_24 rfl rfl ?_
      refine ok_istore 27 4 [some (.ref 123), some (.int a1), some (.int a2), some (.int 0), some (.int 1)] dX12_fills_25 rfl (by decide) rfl ?_
      refine ok_less [some (.ref 123), some (.int a1), some (.int a2), some (.int 0), some (.int 1)] (And.intro rfl (And.intro rfl (And.intro rfl (And.intro rfl (And.intro rfl (trivial)))))) ?_
      exact ok_X12_fills_L27 N d a1 a2    N 0 1 m_14
    · refine ok_iconst 21 (-1) dX12_fills_20 rfl rfl ?_
      exact ok_iret dX12_fills_21 rfl

theorem c_X12_fills (N d : Nat) (a1 : Int32) (a2 : Int32)  (m : Mem) : CM (d + 1) m_X12_fills SG SG [.ref 123, .int a1, .int a2] m (f_X12_fills N a1 a2 m) :=
  CM.ofOk km_X12_fills ⟨Nat.le_refl _, Nat.le_refl _⟩ (by simp [Value.category]) (Nat.le_of_ble_eq_true rfl) (ok_X12_fills N d a1 a2 m)

def f_X12_bargain_L25 (N : Nat) (a1 : Int32)  (K85 : Int32 → Mem → Ans) (X : Int32 → Int32 → Mem → Ans) (s2_25 : Int32) (s3_25 : Int32) (m : Mem) : Ans :=
if (m 124 38) ≤ s3_25 then (K85 s2_25 m)
else (chk (inb ((81 : Int32) + s3_25) 1707) <|
chk (inb ((89 : Int32) + s2_25) 1707) <|
chk (inb ((81 : Int32) + s2_25) 1707) <|
chk (inb ((89 : Int32) + s3_25) 1707) <|
if ((m 124 ((81 : Int32) + s3_25).toNatClampNeg) * (m 124 ((89 : Int32) + s2_25).toNatClampNeg)) ≤ ((m 124 ((81 : Int32) + s2_25).toNatClampNeg) * (m 124 ((89 : Int32) + s3_25).toNatClampNeg)) then (X s2_25 (s3_25 + 1) m)
else (X s3_25 (s3_25 + 1) m))

def f_X12_bargain (N : Nat) (a1 : Int32) (m : Mem) : Ans :=
bd (f_X12_isIn N a1 0 1 m) fun r_3 m_3 =>
if r_3 = 0 then (some ((-1), m_3))
else (if (m_3 124 38) = 0 then (some ((-1), m_3))
else (it2 (f_X12_bargain_L25 N a1 (fun k2_85 mk85 => if a1 = 0 then (some (k2_85, mk85))
else (chk (inb ((81 : Int32) + k2_85) 1707) <|
chk (inb ((89 : Int32) + k2_85) 1707) <|
chk (decide (mk85 124 ((89 : Int32) + k2_85).toNatClampNeg ≠ 0)) <|
some ((((mk85 124 ((81 : Int32) + k2_85).toNatClampNeg) * (60 : Int32)) / (mk85 124 ((89 : Int32) + k2_85).toNatClampNeg)), mk85)))) N 0 1 m_3))

set_option maxRecDepth 100000 in
set_option maxHeartbeats 4000000 in
theorem ok_X12_bargain_L25 (N d : Nat) (a1 : Int32)   (K85 : Int32 → Mem → Ans) (hK85 : ∀ (k2 : Int32) (m : Mem), Ok none SG (d + 1) m_X12_bargain 85 [some (.ref 123), some (.int a1), some (.int k2), none] [] SG m (K85 k2 m)) : ∀ (n : Nat) (s2_25 : Int32) (s3_25 : Int32) (m : Mem), Ok none SG (d + 1) m_X12_bargain 25 [some (.ref 123), some (.int a1), some (.int s2_25), some (.int s3_25)] [] SG m (it2 (f_X12_bargain_L25 N a1 K85) n s2_25 s3_25 m) :=
  ok_it2 (fun s2_25 s3_25 => [some (.ref 123), some (.int a1), some (.int s2_25), some (.int s3_25)]) (fun X hX s2_25 s3_25 m => by
    try unfold f_X12_bargain_L25
    refine ok_iload_n 26 3 dX12_bargain_25 rfl rfl rfl ?_
    refine ok_aload_n 27 0 dX12_bargain_26 rfl rfl rfl ?_
    refine ok_getR 30 dX12_bargain_27 rfl rfl F_EncoresModel_7 sg_123 rfl (Nat.le_of_ble_eq_true rfl) rfl rfl ?_
    refine ok_bipush 32 38 dX12_bargain_30 rfl rfl ?_
    refine ok_ialdc 33 38 dX12_bargain_32 rfl sg_124 (by decide) (by decide) ?_
    refine ok_icmp_ge 85 36 dX12_bargain_33 (by decide) rfl (fun _ => ?_) (fun _ => ?_)
    · exact ok_less [some (.ref 123), some (.int a1), some (.int s2_25), none] (And.intro rfl (And.intro rfl (And.intro rfl (trivial)))) (hK85 s2_25 m)
    · refine ok_aload_n 37 0 dX12_bargain_36 rfl rfl rfl ?_
      refine ok_getR 40 dX12_bargain_37 rfl rfl F_EncoresModel_7 sg_123 rfl (Nat.le_of_ble_eq_true rfl) rfl rfl ?_
      refine ok_bipush 42 81 dX12_bargain_40 rfl rfl ?_
      refine ok_iload_n 43 3 dX12_bargain_42 rfl rfl rfl ?_
      refine ok_iadd 44 dX12_bargain_43 rfl ?_
      refine ok_iald 45 dX12_bargain_44 rfl sg_124 ?_
      refine ok_aload_n 46 0 dX12_bargain_45 rfl rfl rfl ?_
      refine ok_getR 49 dX12_bargain_46 rfl rfl F_EncoresModel_7 sg_123 rfl (Nat.le_of_ble_eq_true rfl) rfl rfl ?_
      refine ok_bipush 51 89 dX12_bargain_49 rfl rfl ?_
      refine ok_iload_n 52 2 dX12_bargain_51 rfl rfl rfl ?_
      refine ok_iadd 53 dX12_bargain_52 rfl ?_
      refine ok_iald 54 dX12_bargain_53 rfl sg_124 ?_
      refine ok_imul 55 dX12_bargain_54 rfl ?_
      refine ok_aload_n 56 0 dX12_bargain_55 rfl rfl rfl ?_
      refine ok_getR 59 dX12_bargain_56 rfl rfl F_EncoresModel_7 sg_123 rfl (Nat.le_of_ble_eq_true rfl) rfl rfl ?_
      refine ok_bipush 61 81 dX12_bargain_59 rfl rfl ?_
      refine ok_iload_n 62 2 dX12_bargain_61 rfl rfl rfl ?_
      refine ok_iadd 63 dX12_bargain_62 rfl ?_
      refine ok_iald 64 dX12_bargain_63 rfl sg_124 ?_
      refine ok_aload_n 65 0 dX12_bargain_64 rfl rfl rfl ?_
      refine ok_getR 68 dX12_bargain_65 rfl rfl F_EncoresModel_7 sg_123 rfl (Nat.le_of_ble_eq_true rfl) rfl rfl ?_
      refine ok_bipush 70 89 dX12_bargain_68 rfl rfl ?_
      refine ok_iload_n 71 3 dX12_bargain_70 rfl rfl rfl ?_
      refine ok_iadd 72 dX12_bargain_71 rfl ?_
      refine ok_iald 73 dX12_bargain_72 rfl sg_124 ?_
      refine ok_imul 74 dX12_bargain_73 rfl ?_
      refine ok_icmp_le 79 77 dX12_bargain_74 (by decide) rfl (fun _ => ?_) (fun _ => ?_)
      · refine ok_iinc 82 3 1 [some (.ref 123), some (.int a1), some (.int s2_25), some (.int (s3_25 + 1))] dX12_bargain_79 rfl rfl rfl (by decide) rfl ?_
        refine ok_goto 25 dX12_bargain_82 (by decide) ?_
        exact ok_less [some (.ref 123), some (.int a1), some (.int s2_25), some (.int (s3_25 + 1))] (And.intro rfl (And.intro rfl (And.intro rfl (And.intro rfl (trivial))))) (hX s2_25 (s3_25 + 1) m)
      · refine ok_iload_n 78 3 dX12_bargain_77 rfl rfl rfl ?_
        refine ok_istore_n 79 2 [some (.ref 123), some (.int a1), some (.int s3_25), some (.int s3_25)] dX12_bargain_78 rfl rfl (by decide) rfl ?_
        refine ok_iinc 82 3 1 [some (.ref 123), some (.int a1), some (.int s3_25), some (.int (s3_25 + 1))] dX12_bargain_79 rfl rfl rfl (by decide) rfl ?_
        refine ok_goto 25 dX12_bargain_82 (by decide) ?_
        exact ok_less [some (.ref 123), some (.int a1), some (.int s3_25), some (.int (s3_25 + 1))] (And.intro rfl (And.intro rfl (And.intro rfl (And.intro rfl (trivial))))) (hX s3_25 (s3_25 + 1) m))

set_option maxRecDepth 100000 in
set_option maxHeartbeats 4000000 in
theorem ok_X12_bargain (N d : Nat) (a1 : Int32)  (m : Mem) : Ok none SG (d + 1) m_X12_bargain 0 [some (.ref 123), some (.int a1), none, none] [] SG m (f_X12_bargain N a1 m) := by
  unfold f_X12_bargain
  refine ok_iload_n 1 1 dX12_bargain_0 rfl rfl rfl ?_
  refine ok_iconst 2 0 dX12_bargain_1 rfl rfl ?_
  refine ok_iconst 3 1 dX12_bargain_2 rfl rfl ?_
  refine ok_callSi (np := 3) (M' := m_X12_isIn) (As := [.int a1, .int 0, .int 1]) (st := []) 6 dX12_bargain_3 rfl rfl km_X12_isIn ks_X12_isIn ml_EncoresModel_56 (by decide) rfl rfl (Nat.le_of_ble_eq_true rfl) (c_X12_isIn N (d + 0) a1 0 1 m) ⟨Nat.le_refl _, Nat.le_refl _⟩ (Or.inl rfl) rfl (fun r_3 m_3 _ => ?_)
  refine ok_if_eq 19 9 dX12_bargain_6 (by decide) rfl (fun _ => ?_) (fun _ => ?_)
  · refine ok_iconst 20 (-1) dX12_bargain_19 rfl rfl ?_
    exact ok_iret dX12_bargain_20 rfl
  · refine ok_aload_n 10 0 dX12_bargain_9 rfl rfl rfl ?_
    refine ok_getR 13 dX12_bargain_10 rfl rfl F_EncoresModel_7 sg_123 rfl (Nat.le_of_ble_eq_true rfl) rfl rfl ?_
    refine ok_bipush 15 38 dX12_bargain_13 rfl rfl ?_
    refine ok_ialdc 16 38 dX12_bargain_15 rfl sg_124 (by decide) (by decide) ?_
    refine ok_if_ne 21 19 dX12_bargain_16 (by decide) rfl (fun _ => ?_) (fun _ => ?_)
    · refine ok_iconst 22 0 dX12_bargain_21 rfl rfl ?_
      refine ok_istore_n 23 2 [some (.ref 123), some (.int a1), some (.int 0), none] dX12_bargain_22 rfl rfl (by decide) rfl ?_
      refine ok_iconst 24 1 dX12_bargain_23 rfl rfl ?_
      refine ok_istore_n 25 3 [some (.ref 123), some (.int a1), some (.int 0), some (.int 1)] dX12_bargain_24 rfl rfl (by decide) rfl ?_
      refine ok_less [some (.ref 123), some (.int a1), some (.int 0), some (.int 1)] (And.intro rfl (And.intro rfl (And.intro rfl (And.intro rfl (trivial))))) ?_
      exact ok_X12_bargain_L25 N d a1  _ (fun k2_85 mk85 => by
          refine ok_iload_n 86 1 dX12_bargain_85 rfl rfl rfl ?_
          refine ok_if_ne 93 89 dX12_bargain_86 (by decide) rfl (fun _ => ?_) (fun _ => ?_)
          · refine ok_aload_n 94 0 dX12_bargain_93 rfl rfl rfl ?_
            refine ok_getR 97 dX12_bargain_94 rfl rfl F_EncoresModel_7 sg_123 rfl (Nat.le_of_ble_eq_true rfl) rfl rfl ?_
            refine ok_bipush 99 81 dX12_bargain_97 rfl rfl ?_
            refine ok_iload_n 100 2 dX12_bargain_99 rfl rfl rfl ?_
            refine ok_iadd 101 dX12_bargain_100 rfl ?_
            refine ok_iald 102 dX12_bargain_101 rfl sg_124 ?_
            refine ok_bipush 104 60 dX12_bargain_102 rfl rfl ?_
            refine ok_imul 105 dX12_bargain_104 rfl ?_
            refine ok_aload_n 106 0 dX12_bargain_105 rfl rfl rfl ?_
            refine ok_getR 109 dX12_bargain_106 rfl rfl F_EncoresModel_7 sg_123 rfl (Nat.le_of_ble_eq_true rfl) rfl rfl ?_
            refine ok_bipush 111 89 dX12_bargain_109 rfl rfl ?_
            refine ok_iload_n 112 2 dX12_bargain_111 rfl rfl rfl ?_
            refine ok_iadd 113 dX12_bargain_112 rfl ?_
            refine ok_iald 114 dX12_bargain_113 rfl sg_124 ?_
            refine ok_idiv 115 dX12_bargain_114 rfl ?_
            exact ok_iret dX12_bargain_115 rfl
          · refine ok_iload_n 90 2 dX12_bargain_89 rfl rfl rfl ?_
            refine ok_goto 115 dX12_bargain_90 (by decide) ?_
            exact ok_iret dX12_bargain_115 rfl) N 0 1 m_3
    · refine ok_iconst 20 (-1) dX12_bargain_19 rfl rfl ?_
      exact ok_iret dX12_bargain_20 rfl

theorem c_X12_bargain (N d : Nat) (a1 : Int32)  (m : Mem) : CM (d + 1) m_X12_bargain SG SG [.ref 123, .int a1] m (f_X12_bargain N a1 m) :=
  CM.ofOk km_X12_bargain ⟨Nat.le_refl _, Nat.le_refl _⟩ (by simp [Value.category]) (Nat.le_of_ble_eq_true rfl) (ok_X12_bargain N d a1 m)

def f_X12_calm_L52 (N : Nat) (a1 : Int32)   (X : Int32 → Int32 → Int32 → Mem → Ans) (s2_52 : Int32) (s3_52 : Int32) (s4_52 : Int32) (m : Mem) : Ans :=
if (m 124 37) ≤ s4_52 then (if a1 = 0 then (some (s2_52, m))
else (some (s3_52, m)))
else (bd (f_X12_isThere N s4_52 m) fun r_67 m_67 =>
if r_67 = 0 then (X s2_52 s3_52 (s4_52 + 1) m_67)
else (chk (inb ((69 : Int32) + s4_52) 1707) <|
bnd (s3_52 + (m_67 124 ((69 : Int32) + s4_52).toNatClampNeg)) fun a3_88 =>
if s2_52 = (-1 : Int32) then (X s4_52 a3_88 (s4_52 + 1) m_67)
else (chk (inb ((69 : Int32) + s4_52) 1707) <|
chk (inb ((69 : Int32) + s2_52) 1707) <|
if (m_67 124 ((69 : Int32) + s4_52).toNatClampNeg) ≤ (m_67 124 ((69 : Int32) + s2_52).toNatClampNeg) then (X s2_52 a3_88 (s4_52 + 1) m_67)
else (X s4_52 a3_88 (s4_52 + 1) m_67))))

def f_X12_calm (N : Nat) (a1 : Int32) (m : Mem) : Ans :=
bd (f_X12_isDeed N (a1 - (10 : Int32)) m) fun r_5 m_5 =>
if r_5 = 0 then (bd (f_X12_isIn N a1 0 1 m_5) fun r_37 m_37 =>
if r_37 = 0 then (some ((-1), m_37))
else (it3 (f_X12_calm_L52 N a1 ) N (-1) 0 0 m_37))
else (bd (f_X12_settles N (a1 - (10 : Int32)) 0 m_5) fun r_24 m_24 =>
bd (f_X12_count N ((m_5 124 7) &&& (r_24 ^^^ (-1 : Int32))) m_24) fun r_30 m_30 =>
some (r_30, m_30))

set_option maxRecDepth 100000 in
set_option maxHeartbeats 4000000 in
theorem ok_X12_calm_L52 (N d : Nat) (a1 : Int32)    : ∀ (n : Nat) (s2_52 : Int32) (s3_52 : Int32) (s4_52 : Int32) (m : Mem), Ok none SG (d + 8) m_X12_calm 52 [some (.ref 123), some (.int a1), some (.int s2_52), some (.int s3_52), some (.int s4_52)] [] SG m (it3 (f_X12_calm_L52 N a1) n s2_52 s3_52 s4_52 m) :=
  ok_it3 (fun s2_52 s3_52 s4_52 => [some (.ref 123), some (.int a1), some (.int s2_52), some (.int s3_52), some (.int s4_52)]) (fun X hX s2_52 s3_52 s4_52 m => by
    try unfold f_X12_calm_L52
    refine ok_iload 54 4 dX12_calm_52 rfl rfl ?_
    refine ok_aload_n 55 0 dX12_calm_54 rfl rfl rfl ?_
    refine ok_getR 58 dX12_calm_55 rfl rfl F_EncoresModel_7 sg_123 rfl (Nat.le_of_ble_eq_true rfl) rfl rfl ?_
    refine ok_bipush 60 37 dX12_calm_58 rfl rfl ?_
    refine ok_ialdc 61 37 dX12_calm_60 rfl sg_124 (by decide) (by decide) ?_
    refine ok_icmp_ge 129 64 dX12_calm_61 (by decide) rfl (fun _ => ?_) (fun _ => ?_)
    · refine ok_iload_n 130 1 dX12_calm_129 rfl rfl rfl ?_
      refine ok_if_ne 137 133 dX12_calm_130 (by decide) rfl (fun _ => ?_) (fun _ => ?_)
      · refine ok_iload_n 138 3 dX12_calm_137 rfl rfl rfl ?_
        exact ok_iret dX12_calm_138 rfl
      · refine ok_iload_n 134 2 dX12_calm_133 rfl rfl rfl ?_
        refine ok_goto 138 dX12_calm_134 (by decide) ?_
        exact ok_iret dX12_calm_138 rfl
    · refine ok_aload_n 65 0 dX12_calm_64 rfl rfl rfl ?_
      refine ok_iload 67 4 dX12_calm_65 rfl rfl ?_
      refine ok_callVi (np := 1) (M' := m_X12_isThere) (As := [.int s4_52]) (st := []) 70 dX12_calm_67 rfl rfl km_X12_isThere ki_X12_isThere kv_X12_isThere ml_EncoresModel_310 (by decide) sg_123 rfl (Nat.le_of_ble_eq_true rfl) rfl rfl rfl (Nat.le_of_ble_eq_true rfl) (c_X12_isThere N (d + 7) s4_52 m) ⟨Nat.le_refl _, Nat.le_refl _⟩ (Or.inl rfl) rfl (fun r_67 m_67 _ => ?_)
      refine ok_if_ne 76 73 dX12_calm_70 (by decide) rfl (fun _ => ?_) (fun _ => ?_)
      · refine ok_iload_n 77 3 dX12_calm_76 rfl rfl rfl ?_
        refine ok_aload_n 78 0 dX12_calm_77 rfl rfl rfl ?_
        refine ok_getR 81 dX12_calm_78 rfl rfl F_EncoresModel_7 sg_123 rfl (Nat.le_of_ble_eq_true rfl) rfl rfl ?_
        refine ok_bipush 83 69 dX12_calm_81 rfl rfl ?_
        refine ok_iload 85 4 dX12_calm_83 rfl rfl ?_
        refine ok_iadd 86 dX12_calm_85 rfl ?_
        refine ok_iald 87 dX12_calm_86 rfl sg_124 ?_
        refine ok_iadd 88 dX12_calm_87 rfl ?_
        refine ok_bndI (fun a3_88 => ?_)
        refine ok_istore_n 89 3 [some (.ref 123), some (.int a1), some (.int s2_52), some (.int a3_88), some (.int s4_52)] dX12_calm_88 rfl rfl (by decide) rfl ?_
        refine ok_iload_n 90 2 dX12_calm_89 rfl rfl rfl ?_
        refine ok_iconst 91 (-1) dX12_calm_90 rfl rfl ?_
        refine ok_icmp_eq 116 94 dX12_calm_91 (by decide) rfl (fun _ => ?_) (fun _ => ?_)
        · refine ok_iload 118 4 dX12_calm_116 rfl rfl ?_
          refine ok_goto 122 dX12_calm_118 (by decide) ?_
          refine ok_istore_n 123 2 [some (.ref 123), some (.int a1), some (.int s4_52), some (.int a3_88), some (.int s4_52)] dX12_calm_122 rfl rfl (by decide) rfl ?_
          refine ok_iinc 126 4 1 [some (.ref 123), some (.int a1), some (.int s4_52), some (.int a3_88), some (.int (s4_52 + 1))] dX12_calm_123 rfl rfl rfl (by decide) rfl ?_
          refine ok_goto 52 dX12_calm_126 (by decide) ?_
          exact ok_less [some (.ref 123), some (.int a1), some (.int s4_52), some (.int a3_88), some (.int (s4_52 + 1))] (And.intro rfl (And.intro rfl (And.intro rfl (And.intro rfl (And.intro rfl (trivial)))))) (hX s4_52 a3_88 (s4_52 + 1) m_67)
        · refine ok_aload_n 95 0 dX12_calm_94 rfl rfl rfl ?_
          refine ok_getR 98 dX12_calm_95 rfl rfl F_EncoresModel_7 sg_123 rfl (Nat.le_of_ble_eq_true rfl) rfl rfl ?_
          refine ok_bipush 100 69 dX12_calm_98 rfl rfl ?_
          refine ok_iload 102 4 dX12_calm_100 rfl rfl ?_
          refine ok_iadd 103 dX12_calm_102 rfl ?_
          refine ok_iald 104 dX12_calm_103 rfl sg_124 ?_
          refine ok_aload_n 105 0 dX12_calm_104 rfl rfl rfl ?_
          refine ok_getR 108 dX12_calm_105 rfl rfl F_EncoresModel_7 sg_123 rfl (Nat.le_of_ble_eq_true rfl) rfl rfl ?_
          refine ok_bipush 110 69 dX12_calm_108 rfl rfl ?_
          refine ok_iload_n 111 2 dX12_calm_110 rfl rfl rfl ?_
          refine ok_iadd 112 dX12_calm_111 rfl ?_
          refine ok_iald 113 dX12_calm_112 rfl sg_124 ?_
          refine ok_icmp_le 121 116 dX12_calm_113 (by decide) rfl (fun _ => ?_) (fun _ => ?_)
          · refine ok_iload_n 122 2 dX12_calm_121 rfl rfl rfl ?_
            refine ok_istore_n 123 2 [some (.ref 123), some (.int a1), some (.int s2_52), some (.int a3_88), some (.int s4_52)] dX12_calm_122 rfl rfl (by decide) rfl ?_
            refine ok_iinc 126 4 1 [some (.ref 123), some (.int a1), some (.int s2_52), some (.int a3_88), some (.int (s4_52 + 1))] dX12_calm_123 rfl rfl rfl (by decide) rfl ?_
            refine ok_goto 52 dX12_calm_126 (by decide) ?_
            exact ok_less [some (.ref 123), some (.int a1), some (.int s2_52), some (.int a3_88), some (.int (s4_52 + 1))] (And.intro rfl (And.intro rfl (And.intro rfl (And.intro rfl (And.intro rfl (trivial)))))) (hX s2_52 a3_88 (s4_52 + 1) m_67)
          · refine ok_iload 118 4 dX12_calm_116 rfl rfl ?_
            refine ok_goto 122 dX12_calm_118 (by decide) ?_
            refine ok_istore_n 123 2 [some (.ref 123), some (.int a1), some (.int s4_52), some (.int a3_88), some (.int s4_52)] dX12_calm_122 rfl rfl (by decide) rfl ?_
            refine ok_iinc 126 4 1 [some (.ref 123), some (.int a1), some (.int s4_52), some (.int a3_88), some (.int (s4_52 + 1))] dX12_calm_123 rfl rfl rfl (by decide) rfl ?_
            refine ok_goto 52 dX12_calm_126 (by decide) ?_
            exact ok_less [some (.ref 123), some (.int a1), some (.int s4_52), some (.int a3_88), some (.int (s4_52 + 1))] (And.intro rfl (And.intro rfl (And.intro rfl (And.intro rfl (And.intro rfl (trivial)))))) (hX s4_52 a3_88 (s4_52 + 1) m_67)
      · refine ok_goto 123 dX12_calm_73 (by decide) ?_
        refine ok_iinc 126 4 1 [some (.ref 123), some (.int a1), some (.int s2_52), some (.int s3_52), some (.int (s4_52 + 1))] dX12_calm_123 rfl rfl rfl (by decide) rfl ?_
        refine ok_goto 52 dX12_calm_126 (by decide) ?_
        exact ok_less [some (.ref 123), some (.int a1), some (.int s2_52), some (.int s3_52), some (.int (s4_52 + 1))] (And.intro rfl (And.intro rfl (And.intro rfl (And.intro rfl (And.intro rfl (trivial)))))) (hX s2_52 s3_52 (s4_52 + 1) m_67))

set_option maxRecDepth 100000 in
set_option maxHeartbeats 4000000 in
theorem ok_X12_calm (N d : Nat) (a1 : Int32)  (m : Mem) : Ok none SG (d + 8) m_X12_calm 0 [some (.ref 123), some (.int a1), none, none, none] [] SG m (f_X12_calm N a1 m) := by
  unfold f_X12_calm
  refine ok_aload_n 1 0 dX12_calm_0 rfl rfl rfl ?_
  refine ok_iload_n 2 1 dX12_calm_1 rfl rfl rfl ?_
  refine ok_bipush 4 10 dX12_calm_2 rfl rfl ?_
  refine ok_isub 5 dX12_calm_4 rfl ?_
  refine ok_callVi (np := 1) (M' := m_X12_isDeed) (As := [.int (a1 - (10 : Int32))]) (st := []) 8 dX12_calm_5 rfl rfl km_X12_isDeed ki_X12_isDeed kv_X12_isDeed ml_EncoresModel_72 (by decide) sg_123 rfl (Nat.le_of_ble_eq_true rfl) rfl rfl rfl (Nat.le_of_ble_eq_true rfl) (c_X12_isDeed N (d + 6) (a1 - (10 : Int32)) m) ⟨Nat.le_refl _, Nat.le_refl _⟩ (Or.inl rfl) rfl (fun r_5 m_5 _ => ?_)
  refine ok_if_eq 34 11 dX12_calm_8 (by decide) rfl (fun _ => ?_) (fun _ => ?_)
  · refine ok_iload_n 35 1 dX12_calm_34 rfl rfl rfl ?_
    refine ok_iconst 36 0 dX12_calm_35 rfl rfl ?_
    refine ok_iconst 37 1 dX12_calm_36 rfl rfl ?_
    refine ok_callSi (np := 3) (M' := m_X12_isIn) (As := [.int a1, .int 0, .int 1]) (st := []) 40 dX12_calm_37 rfl rfl km_X12_isIn ks_X12_isIn ml_EncoresModel_56 (by decide) rfl rfl (Nat.le_of_ble_eq_true rfl) (c_X12_isIn N (d + 7) a1 0 1 m_5) ⟨Nat.le_refl _, Nat.le_refl _⟩ (Or.inl rfl) rfl (fun r_37 m_37 _ => ?_)
    refine ok_if_ne 45 43 dX12_calm_40 (by decide) rfl (fun _ => ?_) (fun _ => ?_)
    · refine ok_iconst 46 (-1) dX12_calm_45 rfl rfl ?_
      refine ok_istore_n 47 2 [some (.ref 123), some (.int a1), some (.int (-1)), none, none] dX12_calm_46 rfl rfl (by decide) rfl ?_
      refine ok_iconst 48 0 dX12_calm_47 rfl rfl ?_
      refine ok_istore_n 49 3 [some (.ref 123), some (.int a1), some (.int (-1)), some (.int 0), none] dX12_calm_48 rfl rfl (by decide) rfl ?_
      refine ok_iconst 50 0 dX12_calm_49 rfl rfl ?_
      refine ok_istore 52 4 [some (.ref 123), some (.int a1), some (.int (-1)), some (.int 0), some (.int 0)] dX12_calm_50 rfl (by decide) rfl ?_
      refine ok_less [some (.ref 123), some (.int a1), some (.int (-1)), some (.int 0), some (.int 0)] (And.intro rfl (And.intro rfl (And.intro rfl (And.intro rfl (And.intro rfl (trivial)))))) ?_
      exact ok_X12_calm_L52 N d a1    N (-1) 0 0 m_37
    · refine ok_iconst 44 (-1) dX12_calm_43 rfl rfl ?_
      exact ok_iret dX12_calm_44 rfl
  · refine ok_aload_n 12 0 dX12_calm_11 rfl rfl rfl ?_
    refine ok_getR 15 dX12_calm_12 rfl rfl F_EncoresModel_7 sg_123 rfl (Nat.le_of_ble_eq_true rfl) rfl rfl ?_
    refine ok_bipush 17 7 dX12_calm_15 rfl rfl ?_
    refine ok_ialdc 18 7 dX12_calm_17 rfl sg_124 (by decide) (by decide) ?_
    refine ok_aload_n 19 0 dX12_calm_18 rfl rfl rfl ?_
    refine ok_iload_n 20 1 dX12_calm_19 rfl rfl rfl ?_
    refine ok_bipush 22 10 dX12_calm_20 rfl rfl ?_
    refine ok_isub 23 dX12_calm_22 rfl ?_
    refine ok_iconst 24 0 dX12_calm_23 rfl rfl ?_
    refine ok_callVi (np := 2) (M' := m_X12_settles) (As := [.int (a1 - (10 : Int32)), .int 0]) (st := [.int (m_5 124 7)]) 27 dX12_calm_24 rfl rfl km_X12_settles ki_X12_settles kv_X12_settles ml_EncoresModel_389 (by decide) sg_123 rfl (Nat.le_of_ble_eq_true rfl) rfl rfl rfl (Nat.le_of_ble_eq_true rfl) (c_X12_settles N (d + 0) (a1 - (10 : Int32)) 0 m_5) ⟨Nat.le_refl _, Nat.le_refl _⟩ (Or.inl rfl) rfl (fun r_24 m_24 _ => ?_)
    refine ok_iconst 28 (-1) dX12_calm_27 rfl rfl ?_
    refine ok_ixor 29 dX12_calm_28 rfl ?_
    refine ok_iand 30 dX12_calm_29 rfl ?_
    refine ok_callSi (np := 1) (M' := m_X12_count) (As := [.int ((m_5 124 7) &&& (r_24 ^^^ (-1 : Int32)))]) (st := []) 33 dX12_calm_30 rfl rfl km_X12_count ks_X12_count ml_EncoresModel_319 (by decide) rfl rfl (Nat.le_of_ble_eq_true rfl) (c_X12_count N (d + 7) ((m_5 124 7) &&& (r_24 ^^^ (-1 : Int32))) m_24) ⟨Nat.le_refl _, Nat.le_refl _⟩ (Or.inl rfl) rfl (fun r_30 m_30 _ => ?_)
    exact ok_iret dX12_calm_33 rfl

theorem c_X12_calm (N d : Nat) (a1 : Int32)  (m : Mem) : CM (d + 8) m_X12_calm SG SG [.ref 123, .int a1] m (f_X12_calm N a1 m) :=
  CM.ofOk km_X12_calm ⟨Nat.le_refl _, Nat.le_refl _⟩ (by simp [Value.category]) (Nat.le_of_ble_eq_true rfl) (ok_X12_calm N d a1 m)

def f_X12_laysLines_L34 (N : Nat)  (s1_31 : Int32) (K103 : Mem → Ans) (X : Int32 → Mem → Ans) (s2_34 : Int32) (m : Mem) : Ans :=
if (m 124 38) ≤ s2_34 then (K103 m)
else (if ((s1_31 >>> (s2_34 &&& 31)) &&& (1 : Int32)) = (1 : Int32) then (chk (inb s1_31 256) <|
chk (inb (s1_31 &&& (((1 : Int32) <<< (s2_34 &&& 31)) ^^^ (-1 : Int32))) 256) <|
chk (inb ((81 : Int32) + s2_34) 1707) <|
bd (f_X12_longOf N s1_31 m) fun r_88 m_88 =>
bd (f_X12_lesser N (m 135 s1_31.toNatClampNeg) ((m 135 (s1_31 &&& (((1 : Int32) <<< (s2_34 &&& 31)) ^^^ (-1 : Int32))).toNatClampNeg) + ((m 124 ((81 : Int32) + s2_34).toNatClampNeg) * r_88)) m_88) fun r_93 m_93 =>
chk (inb s1_31 256) <|
bnd (mset m_93 135 s1_31.toNatClampNeg r_93) fun m_96 =>
X (s2_34 + 1) m_96)
else (X (s2_34 + 1) m))

def f_X12_laysLines_J31 (N : Nat)    (X : Int32 → Mem → Ans) (s1_31 : Int32) (t0_31 : Int32) (t1_31 : Int32) (m : Mem) : Ans :=
chk (inb t1_31 256) <|
bnd (mset m 135 t1_31.toNatClampNeg t0_31) fun m_31 =>
it1 (f_X12_laysLines_L34 N s1_31 (fun mk103 => X (s1_31 + 1) mk103)) N 0 m_31

def f_X12_laysLines_L2 (N : Nat)    (X : Int32 → Mem → Ans) (s1_2 : Int32) (m : Mem) : Ans :=
if ((1 : Int32) <<< ((m 124 38) &&& 31)) ≤ s1_2 then (some (0, m))
else (if s1_2 = 0 then (f_X12_laysLines_J31 N  X s1_2 0 s1_2 m)
else (f_X12_laysLines_J31 N  X s1_2 100000000 s1_2 m))

def f_X12_laysLines (N : Nat)  (m : Mem) : Ans :=
it1 (f_X12_laysLines_L2 N ) N 0 m

set_option maxRecDepth 100000 in
set_option maxHeartbeats 4000000 in
theorem ok_X12_laysLines_L34 (N d : Nat)   (s1_31 : Int32) (K103 : Mem → Ans) (hK103 : ∀  (m : Mem), Ok none SG (d + 1) m_X12_laysLines 103 [some (.ref 123), some (.int s1_31), none] [] SG m (K103 m)) : ∀ (n : Nat) (s2_34 : Int32) (m : Mem), Ok none SG (d + 1) m_X12_laysLines 34 [some (.ref 123), some (.int s1_31), some (.int s2_34)] [] SG m (it1 (f_X12_laysLines_L34 N s1_31 K103) n s2_34 m) :=
  ok_it1 (fun s2_34 => [some (.ref 123), some (.int s1_31), some (.int s2_34)]) (fun X hX s2_34 m => by
    try unfold f_X12_laysLines_L34
    refine ok_iload_n 35 2 dX12_laysLines_34 rfl rfl rfl ?_
    refine ok_aload_n 36 0 dX12_laysLines_35 rfl rfl rfl ?_
    refine ok_getR 39 dX12_laysLines_36 rfl rfl F_EncoresModel_7 sg_123 rfl (Nat.le_of_ble_eq_true rfl) rfl rfl ?_
    refine ok_bipush 41 38 dX12_laysLines_39 rfl rfl ?_
    refine ok_ialdc 42 38 dX12_laysLines_41 rfl sg_124 (by decide) (by decide) ?_
    refine ok_icmp_ge 103 45 dX12_laysLines_42 (by decide) rfl (fun _ => ?_) (fun _ => ?_)
    · exact ok_less [some (.ref 123), some (.int s1_31), none] (And.intro rfl (And.intro rfl (trivial))) (hK103 m)
    · refine ok_iload_n 46 1 dX12_laysLines_45 rfl rfl rfl ?_
      refine ok_iload_n 47 2 dX12_laysLines_46 rfl rfl rfl ?_
      refine ok_ishr 48 dX12_laysLines_47 rfl ?_
      refine ok_iconst 49 1 dX12_laysLines_48 rfl rfl ?_
      refine ok_iand 50 dX12_laysLines_49 rfl ?_
      refine ok_iconst 51 1 dX12_laysLines_50 rfl rfl ?_
      refine ok_icmp_ne 97 54 dX12_laysLines_51 (by decide) rfl (fun _ => ?_) (fun _ => ?_)
      · refine ok_iinc 100 2 1 [some (.ref 123), some (.int s1_31), some (.int (s2_34 + 1))] dX12_laysLines_97 rfl rfl rfl (by decide) rfl ?_
        refine ok_goto 34 dX12_laysLines_100 (by decide) ?_
        exact ok_less [some (.ref 123), some (.int s1_31), some (.int (s2_34 + 1))] (And.intro rfl (And.intro rfl (And.intro rfl (trivial)))) (hX (s2_34 + 1) m)
      · refine ok_aload_n 55 0 dX12_laysLines_54 rfl rfl rfl ?_
        refine ok_getR 58 dX12_laysLines_55 rfl rfl F_EncoresModel_47 sg_123 rfl (Nat.le_of_ble_eq_true rfl) rfl rfl ?_
        refine ok_iload_n 59 1 dX12_laysLines_58 rfl rfl rfl ?_
        refine ok_aload_n 60 0 dX12_laysLines_59 rfl rfl rfl ?_
        refine ok_getR 63 dX12_laysLines_60 rfl rfl F_EncoresModel_47 sg_123 rfl (Nat.le_of_ble_eq_true rfl) rfl rfl ?_
        refine ok_iload_n 64 1 dX12_laysLines_63 rfl rfl rfl ?_
        refine ok_iald 65 dX12_laysLines_64 rfl sg_135 ?_
        refine ok_aload_n 66 0 dX12_laysLines_65 rfl rfl rfl ?_
        refine ok_getR 69 dX12_laysLines_66 rfl rfl F_EncoresModel_47 sg_123 rfl (Nat.le_of_ble_eq_true rfl) rfl rfl ?_
        refine ok_iload_n 70 1 dX12_laysLines_69 rfl rfl rfl ?_
        refine ok_iconst 71 1 dX12_laysLines_70 rfl rfl ?_
        refine ok_iload_n 72 2 dX12_laysLines_71 rfl rfl rfl ?_
        refine ok_ishl 73 dX12_laysLines_72 rfl ?_
        refine ok_iconst 74 (-1) dX12_laysLines_73 rfl rfl ?_
        refine ok_ixor 75 dX12_laysLines_74 rfl ?_
        refine ok_iand 76 dX12_laysLines_75 rfl ?_
        refine ok_iald 77 dX12_laysLines_76 rfl sg_135 ?_
        refine ok_aload_n 78 0 dX12_laysLines_77 rfl rfl rfl ?_
        refine ok_getR 81 dX12_laysLines_78 rfl rfl F_EncoresModel_7 sg_123 rfl (Nat.le_of_ble_eq_true rfl) rfl rfl ?_
        refine ok_bipush 83 81 dX12_laysLines_81 rfl rfl ?_
        refine ok_iload_n 84 2 dX12_laysLines_83 rfl rfl rfl ?_
        refine ok_iadd 85 dX12_laysLines_84 rfl ?_
        refine ok_iald 86 dX12_laysLines_85 rfl sg_124 ?_
        refine ok_aload_n 87 0 dX12_laysLines_86 rfl rfl rfl ?_
        refine ok_iload_n 88 1 dX12_laysLines_87 rfl rfl rfl ?_
        refine ok_callVi (np := 1) (M' := m_X12_longOf) (As := [.int s1_31]) (st := [.int (m 124 ((81 : Int32) + s2_34).toNatClampNeg), .int (m 135 (s1_31 &&& (((1 : Int32) <<< (s2_34 &&& 31)) ^^^ (-1 : Int32))).toNatClampNeg), .int (m 135 s1_31.toNatClampNeg), .int s1_31, .ref 135]) 91 dX12_laysLines_88 rfl rfl km_X12_longOf ki_X12_longOf kv_X12_longOf ml_EncoresModel_392 (by decide) sg_123 rfl (Nat.le_of_ble_eq_true rfl) rfl rfl rfl (Nat.le_of_ble_eq_true rfl) (c_X12_longOf N (d + 0) s1_31 m) ⟨Nat.le_refl _, Nat.le_refl _⟩ (Or.inl rfl) rfl (fun r_88 m_88 _ => ?_)
        refine ok_imul 92 dX12_laysLines_91 rfl ?_
        refine ok_iadd 93 dX12_laysLines_92 rfl ?_
        refine ok_callSi (np := 2) (M' := m_X12_lesser) (As := [.int (m 135 s1_31.toNatClampNeg), .int ((m 135 (s1_31 &&& (((1 : Int32) <<< (s2_34 &&& 31)) ^^^ (-1 : Int32))).toNatClampNeg) + ((m 124 ((81 : Int32) + s2_34).toNatClampNeg) * r_88))]) (st := [.int s1_31, .ref 135]) 96 dX12_laysLines_93 rfl rfl km_X12_lesser ks_X12_lesser ml_EncoresModel_286 (by decide) rfl rfl (Nat.le_of_ble_eq_true rfl) (c_X12_lesser N (d + 0) (m 135 s1_31.toNatClampNeg) ((m 135 (s1_31 &&& (((1 : Int32) <<< (s2_34 &&& 31)) ^^^ (-1 : Int32))).toNatClampNeg) + ((m 124 ((81 : Int32) + s2_34).toNatClampNeg) * r_88)) m_88) ⟨Nat.le_refl _, Nat.le_refl _⟩ (Or.inl rfl) rfl (fun r_93 m_93 _ => ?_)
        refine ok_iast 97 dX12_laysLines_96 rfl sg_135 ?_
        refine ok_bndM (fun m_96 => ?_)
        refine ok_iinc 100 2 1 [some (.ref 123), some (.int s1_31), some (.int (s2_34 + 1))] dX12_laysLines_97 rfl rfl rfl (by decide) rfl ?_
        refine ok_goto 34 dX12_laysLines_100 (by decide) ?_
        exact ok_less [some (.ref 123), some (.int s1_31), some (.int (s2_34 + 1))] (And.intro rfl (And.intro rfl (And.intro rfl (trivial)))) (hX (s2_34 + 1) m_96))

set_option maxRecDepth 100000 in
set_option maxHeartbeats 4000000 in
theorem ok_X12_laysLines_J31 (N d : Nat)     (X : Int32 → Mem → Ans) (hX : ∀ (k1 : Int32) (m : Mem), Ok none SG (d + 1) m_X12_laysLines 2 [some (.ref 123), some (.int k1), none] [] SG m (X k1 m)) (s1_31 : Int32) (t0_31 : Int32) (t1_31 : Int32) (m : Mem) : Ok none SG (d + 1) m_X12_laysLines 31 [some (.ref 123), some (.int s1_31), none] [.int t0_31, .int t1_31, .ref 135] SG m (f_X12_laysLines_J31 N  X s1_31 t0_31 t1_31 m) := by
  unfold f_X12_laysLines_J31
  refine ok_iast 32 dX12_laysLines_31 rfl sg_135 ?_
  refine ok_bndM (fun m_31 => ?_)
  refine ok_iconst 33 0 dX12_laysLines_32 rfl rfl ?_
  refine ok_istore_n 34 2 [some (.ref 123), some (.int s1_31), some (.int 0)] dX12_laysLines_33 rfl rfl (by decide) rfl ?_
  refine ok_less [some (.ref 123), some (.int s1_31), some (.int 0)] (And.intro rfl (And.intro rfl (And.intro rfl (trivial)))) ?_
  exact ok_X12_laysLines_L34 N d  s1_31 _ (fun mk103 => by
      refine ok_iinc 106 1 1 [some (.ref 123), some (.int (s1_31 + 1)), none] dX12_laysLines_103 rfl rfl rfl (by decide) rfl ?_
      refine ok_goto 2 dX12_laysLines_106 (by decide) ?_
      exact ok_less [some (.ref 123), some (.int (s1_31 + 1)), none] (And.intro rfl (And.intro rfl (trivial))) (hX (s1_31 + 1) mk103)) N 0 m_31

set_option maxRecDepth 100000 in
set_option maxHeartbeats 4000000 in
theorem ok_X12_laysLines_L2 (N d : Nat)     : ∀ (n : Nat) (s1_2 : Int32) (m : Mem), Ok none SG (d + 1) m_X12_laysLines 2 [some (.ref 123), some (.int s1_2), none] [] SG m (it1 (f_X12_laysLines_L2 N) n s1_2 m) :=
  ok_it1 (fun s1_2 => [some (.ref 123), some (.int s1_2), none]) (fun X hX s1_2 m => by
    try unfold f_X12_laysLines_L2
    refine ok_iload_n 3 1 dX12_laysLines_2 rfl rfl rfl ?_
    refine ok_iconst 4 1 dX12_laysLines_3 rfl rfl ?_
    refine ok_aload_n 5 0 dX12_laysLines_4 rfl rfl rfl ?_
    refine ok_getR 8 dX12_laysLines_5 rfl rfl F_EncoresModel_7 sg_123 rfl (Nat.le_of_ble_eq_true rfl) rfl rfl ?_
    refine ok_bipush 10 38 dX12_laysLines_8 rfl rfl ?_
    refine ok_ialdc 11 38 dX12_laysLines_10 rfl sg_124 (by decide) (by decide) ?_
    refine ok_ishl 12 dX12_laysLines_11 rfl ?_
    refine ok_icmp_ge 109 15 dX12_laysLines_12 (by decide) rfl (fun _ => ?_) (fun _ => ?_)
    · exact ok_vret dX12_laysLines_109 rfl
    · refine ok_aload_n 16 0 dX12_laysLines_15 rfl rfl rfl ?_
      refine ok_getR 19 dX12_laysLines_16 rfl rfl F_EncoresModel_47 sg_123 rfl (Nat.le_of_ble_eq_true rfl) rfl rfl ?_
      refine ok_iload_n 20 1 dX12_laysLines_19 rfl rfl rfl ?_
      refine ok_iload_n 21 1 dX12_laysLines_20 rfl rfl rfl ?_
      refine ok_if_ne 28 24 dX12_laysLines_21 (by decide) rfl (fun _ => ?_) (fun _ => ?_)
      · refine ok_ldcw 31 100000000 dX12_laysLines_28 rfl rfl cn_EncoresModel_398 ?_
        exact ok_less [some (.ref 123), some (.int s1_2), none] (And.intro rfl (And.intro rfl (trivial))) (ok_X12_laysLines_J31 N d    X hX s1_2 100000000 s1_2 m)
      · refine ok_iconst 25 0 dX12_laysLines_24 rfl rfl ?_
        refine ok_goto 31 dX12_laysLines_25 (by decide) ?_
        exact ok_less [some (.ref 123), some (.int s1_2), none] (And.intro rfl (And.intro rfl (trivial))) (ok_X12_laysLines_J31 N d    X hX s1_2 0 s1_2 m))

set_option maxRecDepth 100000 in
set_option maxHeartbeats 4000000 in
theorem ok_X12_laysLines (N d : Nat)   (m : Mem) : Ok none SG (d + 1) m_X12_laysLines 0 [some (.ref 123), none, none] [] SG m (f_X12_laysLines N m) := by
  unfold f_X12_laysLines
  refine ok_iconst 1 0 dX12_laysLines_0 rfl rfl ?_
  refine ok_istore_n 2 1 [some (.ref 123), some (.int 0), none] dX12_laysLines_1 rfl rfl (by decide) rfl ?_
  refine ok_less [some (.ref 123), some (.int 0), none] (And.intro rfl (And.intro rfl (trivial))) ?_
  exact ok_X12_laysLines_L2 N d     N 0 m

theorem c_X12_laysLines (N d : Nat)   (m : Mem) : CM (d + 1) m_X12_laysLines SG SG [.ref 123] m (f_X12_laysLines N m) :=
  CM.ofOk km_X12_laysLines ⟨Nat.le_refl _, Nat.le_refl _⟩ (by simp [Value.category]) (Nat.le_of_ble_eq_true rfl) (ok_X12_laysLines N d  m)

def f_X12_leastWith (N : Nat) (a1 : Int32) (a2 : Int32) (m : Mem) : Ans :=
chk (inb ((89 : Int32) + a1) 1707) <|
bd (f_X12_worthOf N a2 m) fun r_11 m_11 =>
chk (inb (a2 &&& (((1 : Int32) <<< (a1 &&& 31)) ^^^ (-1 : Int32))) 256) <|
some ((((m 124 ((89 : Int32) + a1).toNatClampNeg) * r_11) + (m_11 135 (a2 &&& (((1 : Int32) <<< (a1 &&& 31)) ^^^ (-1 : Int32))).toNatClampNeg)), m_11)

set_option maxRecDepth 100000 in
set_option maxHeartbeats 4000000 in
theorem ok_X12_leastWith (N d : Nat) (a1 : Int32) (a2 : Int32)  (m : Mem) : Ok none SG (d + 1) m_X12_leastWith 0 [some (.ref 123), some (.int a1), some (.int a2)] [] SG m (f_X12_leastWith N a1 a2 m) := by
  unfold f_X12_leastWith
  refine ok_aload_n 1 0 dX12_leastWith_0 rfl rfl rfl ?_
  refine ok_getR 4 dX12_leastWith_1 rfl rfl F_EncoresModel_7 sg_123 rfl (Nat.le_of_ble_eq_true rfl) rfl rfl ?_
  refine ok_bipush 6 89 dX12_leastWith_4 rfl rfl ?_
  refine ok_iload_n 7 1 dX12_leastWith_6 rfl rfl rfl ?_
  refine ok_iadd 8 dX12_leastWith_7 rfl ?_
  refine ok_iald 9 dX12_leastWith_8 rfl sg_124 ?_
  refine ok_aload_n 10 0 dX12_leastWith_9 rfl rfl rfl ?_
  refine ok_iload_n 11 2 dX12_leastWith_10 rfl rfl rfl ?_
  refine ok_callVi (np := 1) (M' := m_X12_worthOf) (As := [.int a2]) (st := [.int (m 124 ((89 : Int32) + a1).toNatClampNeg)]) 14 dX12_leastWith_11 rfl rfl km_X12_worthOf ki_X12_worthOf kv_X12_worthOf ml_EncoresModel_395 (by decide) sg_123 rfl (Nat.le_of_ble_eq_true rfl) rfl rfl rfl (Nat.le_of_ble_eq_true rfl) (c_X12_worthOf N (d + 0) a2 m) ⟨Nat.le_refl _, Nat.le_refl _⟩ (Or.inl rfl) rfl (fun r_11 m_11 _ => ?_)
  refine ok_imul 15 dX12_leastWith_14 rfl ?_
  refine ok_aload_n 16 0 dX12_leastWith_15 rfl rfl rfl ?_
  refine ok_getR 19 dX12_leastWith_16 rfl rfl F_EncoresModel_47 sg_123 rfl (Nat.le_of_ble_eq_true rfl) rfl rfl ?_
  refine ok_iload_n 20 2 dX12_leastWith_19 rfl rfl rfl ?_
  refine ok_iconst 21 1 dX12_leastWith_20 rfl rfl ?_
  refine ok_iload_n 22 1 dX12_leastWith_21 rfl rfl rfl ?_
  refine ok_ishl 23 dX12_leastWith_22 rfl ?_
  refine ok_iconst 24 (-1) dX12_leastWith_23 rfl rfl ?_
  refine ok_ixor 25 dX12_leastWith_24 rfl ?_
  refine ok_iand 26 dX12_leastWith_25 rfl ?_
  refine ok_iald 27 dX12_leastWith_26 rfl sg_135 ?_
  refine ok_iadd 28 dX12_leastWith_27 rfl ?_
  exact ok_iret dX12_leastWith_28 rfl

theorem c_X12_leastWith (N d : Nat) (a1 : Int32) (a2 : Int32)  (m : Mem) : CM (d + 1) m_X12_leastWith SG SG [.ref 123, .int a1, .int a2] m (f_X12_leastWith N a1 a2 m) :=
  CM.ofOk km_X12_leastWith ⟨Nat.le_refl _, Nat.le_refl _⟩ (by simp [Value.category]) (Nat.le_of_ble_eq_true rfl) (ok_X12_leastWith N d a1 a2 m)

def f_X12_lines_L47 (N : Nat) (a1 : Int32) (a2 : Int32)   (X : Int32 → Mem → Ans) (s3_47 : Int32) (m : Mem) : Ans :=
if (m 124 38) ≤ s3_47 then (some ((-1), m))
else (if ((a1 >>> (s3_47 &&& 31)) &&& (1 : Int32)) = (1 : Int32) then (bd (f_X12_leastWith N s3_47 a1 m) fun r_70 m_70 =>
chk (inb a1 256) <|
if r_70 = (m_70 135 a1.toNatClampNeg) then (some (s3_47, m_70))
else (X (s3_47 + 1) m_70))
else (X (s3_47 + 1) m))

def f_X12_lines (N : Nat) (a1 : Int32) (a2 : Int32) (m : Mem) : Ans :=
bd (f_X12_isIn N a1 0 (((1 : Int32) <<< ((m 124 38) &&& 31)) - (1 : Int32)) m) fun r_13 m_13 =>
if r_13 = 0 then (some ((-1), m_13))
else (bd (f_X12_isIn N a2 0 1 m_13) fun r_22 m_22 =>
if r_22 = 0 then (some ((-1), m_22))
else (bd (f_X12_laysLines N m_22) fun _ m_31 =>
if a2 = 0 then (chk (inb a1 256) <|
some (m_31 135 a1.toNatClampNeg, m_31))
else (it1 (f_X12_lines_L47 N a1 a2 ) N 0 m_31)))

set_option maxRecDepth 100000 in
set_option maxHeartbeats 4000000 in
theorem ok_X12_lines_L47 (N d : Nat) (a1 : Int32) (a2 : Int32)    : ∀ (n : Nat) (s3_47 : Int32) (m : Mem), Ok none SG (d + 2) m_X12_lines 47 [some (.ref 123), some (.int a1), none, some (.int s3_47)] [] SG m (it1 (f_X12_lines_L47 N a1 a2) n s3_47 m) :=
  ok_it1 (fun s3_47 => [some (.ref 123), some (.int a1), none, some (.int s3_47)]) (fun X hX s3_47 m => by
    try unfold f_X12_lines_L47
    refine ok_iload_n 48 3 dX12_lines_47 rfl rfl rfl ?_
    refine ok_aload_n 49 0 dX12_lines_48 rfl rfl rfl ?_
    refine ok_getR 52 dX12_lines_49 rfl rfl F_EncoresModel_7 sg_123 rfl (Nat.le_of_ble_eq_true rfl) rfl rfl ?_
    refine ok_bipush 54 38 dX12_lines_52 rfl rfl ?_
    refine ok_ialdc 55 38 dX12_lines_54 rfl sg_124 (by decide) (by decide) ?_
    refine ok_icmp_ge 90 58 dX12_lines_55 (by decide) rfl (fun _ => ?_) (fun _ => ?_)
    · refine ok_iconst 91 (-1) dX12_lines_90 rfl rfl ?_
      exact ok_iret dX12_lines_91 rfl
    · refine ok_iload_n 59 1 dX12_lines_58 rfl rfl rfl ?_
      refine ok_iload_n 60 3 dX12_lines_59 rfl rfl rfl ?_
      refine ok_ishr 61 dX12_lines_60 rfl ?_
      refine ok_iconst 62 1 dX12_lines_61 rfl rfl ?_
      refine ok_iand 63 dX12_lines_62 rfl ?_
      refine ok_iconst 64 1 dX12_lines_63 rfl rfl ?_
      refine ok_icmp_ne 84 67 dX12_lines_64 (by decide) rfl (fun _ => ?_) (fun _ => ?_)
      · refine ok_iinc 87 3 1 [some (.ref 123), some (.int a1), none, some (.int (s3_47 + 1))] dX12_lines_84 rfl rfl rfl (by decide) rfl ?_
        refine ok_goto 47 dX12_lines_87 (by decide) ?_
        exact ok_less [some (.ref 123), some (.int a1), none, some (.int (s3_47 + 1))] (And.intro rfl (And.intro rfl (And.intro rfl (trivial)))) (hX (s3_47 + 1) m)
      · refine ok_aload_n 68 0 dX12_lines_67 rfl rfl rfl ?_
        refine ok_iload_n 69 3 dX12_lines_68 rfl rfl rfl ?_
        refine ok_iload_n 70 1 dX12_lines_69 rfl rfl rfl ?_
        refine ok_callVi (np := 2) (M' := m_X12_leastWith) (As := [.int s3_47, .int a1]) (st := []) 73 dX12_lines_70 rfl rfl km_X12_leastWith ki_X12_leastWith kv_X12_leastWith ml_EncoresModel_402 (by decide) sg_123 rfl (Nat.le_of_ble_eq_true rfl) rfl rfl rfl (Nat.le_of_ble_eq_true rfl) (c_X12_leastWith N (d + 0) s3_47 a1 m) ⟨Nat.le_refl _, Nat.le_refl _⟩ (Or.inl rfl) rfl (fun r_70 m_70 _ => ?_)
        refine ok_aload_n 74 0 dX12_lines_73 rfl rfl rfl ?_
        refine ok_getR 77 dX12_lines_74 rfl rfl F_EncoresModel_47 sg_123 rfl (Nat.le_of_ble_eq_true rfl) rfl rfl ?_
        refine ok_iload_n 78 1 dX12_lines_77 rfl rfl rfl ?_
        refine ok_iald 79 dX12_lines_78 rfl sg_135 ?_
        refine ok_icmp_ne 84 82 dX12_lines_79 (by decide) rfl (fun _ => ?_) (fun _ => ?_)
        · refine ok_iinc 87 3 1 [some (.ref 123), some (.int a1), none, some (.int (s3_47 + 1))] dX12_lines_84 rfl rfl rfl (by decide) rfl ?_
          refine ok_goto 47 dX12_lines_87 (by decide) ?_
          exact ok_less [some (.ref 123), some (.int a1), none, some (.int (s3_47 + 1))] (And.intro rfl (And.intro rfl (And.intro rfl (trivial)))) (hX (s3_47 + 1) m_70)
        · refine ok_iload_n 83 3 dX12_lines_82 rfl rfl rfl ?_
          exact ok_iret dX12_lines_83 rfl)

set_option maxRecDepth 100000 in
set_option maxHeartbeats 4000000 in
theorem ok_X12_lines (N d : Nat) (a1 : Int32) (a2 : Int32)  (m : Mem) : Ok none SG (d + 2) m_X12_lines 0 [some (.ref 123), some (.int a1), some (.int a2), none] [] SG m (f_X12_lines N a1 a2 m) := by
  unfold f_X12_lines
  refine ok_iload_n 1 1 dX12_lines_0 rfl rfl rfl ?_
  refine ok_iconst 2 0 dX12_lines_1 rfl rfl ?_
  refine ok_iconst 3 1 dX12_lines_2 rfl rfl ?_
  refine ok_aload_n 4 0 dX12_lines_3 rfl rfl rfl ?_
  refine ok_getR 7 dX12_lines_4 rfl rfl F_EncoresModel_7 sg_123 rfl (Nat.le_of_ble_eq_true rfl) rfl rfl ?_
  refine ok_bipush 9 38 dX12_lines_7 rfl rfl ?_
  refine ok_ialdc 10 38 dX12_lines_9 rfl sg_124 (by decide) (by decide) ?_
  refine ok_ishl 11 dX12_lines_10 rfl ?_
  refine ok_iconst 12 1 dX12_lines_11 rfl rfl ?_
  refine ok_isub 13 dX12_lines_12 rfl ?_
  refine ok_callSi (np := 3) (M' := m_X12_isIn) (As := [.int a1, .int 0, .int (((1 : Int32) <<< ((m 124 38) &&& 31)) - (1 : Int32))]) (st := []) 16 dX12_lines_13 rfl rfl km_X12_isIn ks_X12_isIn ml_EncoresModel_56 (by decide) rfl rfl (Nat.le_of_ble_eq_true rfl) (c_X12_isIn N (d + 1) a1 0 (((1 : Int32) <<< ((m 124 38) &&& 31)) - (1 : Int32)) m) ⟨Nat.le_refl _, Nat.le_refl _⟩ (Or.inl rfl) rfl (fun r_13 m_13 _ => ?_)
  refine ok_if_eq 28 19 dX12_lines_16 (by decide) rfl (fun _ => ?_) (fun _ => ?_)
  · refine ok_iconst 29 (-1) dX12_lines_28 rfl rfl ?_
    exact ok_iret dX12_lines_29 rfl
  · refine ok_iload_n 20 2 dX12_lines_19 rfl rfl rfl ?_
    refine ok_iconst 21 0 dX12_lines_20 rfl rfl ?_
    refine ok_iconst 22 1 dX12_lines_21 rfl rfl ?_
    refine ok_callSi (np := 3) (M' := m_X12_isIn) (As := [.int a2, .int 0, .int 1]) (st := []) 25 dX12_lines_22 rfl rfl km_X12_isIn ks_X12_isIn ml_EncoresModel_56 (by decide) rfl rfl (Nat.le_of_ble_eq_true rfl) (c_X12_isIn N (d + 1) a2 0 1 m_13) ⟨Nat.le_refl _, Nat.le_refl _⟩ (Or.inl rfl) rfl (fun r_22 m_22 _ => ?_)
    refine ok_if_ne 30 28 dX12_lines_25 (by decide) rfl (fun _ => ?_) (fun _ => ?_)
    · refine ok_aload_n 31 0 dX12_lines_30 rfl rfl rfl ?_
      refine ok_callVv (np := 0) (M' := m_X12_laysLines) (As := []) (st := []) 34 dX12_lines_31 rfl rfl km_X12_laysLines ki_X12_laysLines kv_X12_laysLines ml_EncoresModel_399 (by decide) sg_123 rfl (Nat.le_of_ble_eq_true rfl) rfl rfl rfl (Nat.le_of_ble_eq_true rfl) (c_X12_laysLines N (d + 0) m_22) ⟨Nat.le_refl _, Nat.le_refl _⟩ (Or.inl rfl) rfl (fun _ m_31 _ => ?_)
      refine ok_iload_n 35 2 dX12_lines_34 rfl rfl rfl ?_
      refine ok_if_ne 45 38 dX12_lines_35 (by decide) rfl (fun _ => ?_) (fun _ => ?_)
      · refine ok_iconst 46 0 dX12_lines_45 rfl rfl ?_
        refine ok_istore_n 47 3 [some (.ref 123), some (.int a1), some (.int a2), some (.int 0)] dX12_lines_46 rfl rfl (by decide) rfl ?_
        refine ok_less [some (.ref 123), some (.int a1), none, some (.int 0)] (And.intro rfl (And.intro rfl (And.intro rfl (trivial)))) ?_
        exact ok_X12_lines_L47 N d a1 a2    N 0 m_31
      · refine ok_aload_n 39 0 dX12_lines_38 rfl rfl rfl ?_
        refine ok_getR 42 dX12_lines_39 rfl rfl F_EncoresModel_47 sg_123 rfl (Nat.le_of_ble_eq_true rfl) rfl rfl ?_
        refine ok_iload_n 43 1 dX12_lines_42 rfl rfl rfl ?_
        refine ok_iald 44 dX12_lines_43 rfl sg_135 ?_
        exact ok_iret dX12_lines_44 rfl
    · refine ok_iconst 29 (-1) dX12_lines_28 rfl rfl ?_
      exact ok_iret dX12_lines_29 rfl

theorem c_X12_lines (N d : Nat) (a1 : Int32) (a2 : Int32)  (m : Mem) : CM (d + 2) m_X12_lines SG SG [.ref 123, .int a1, .int a2] m (f_X12_lines N a1 a2 m) :=
  CM.ofOk km_X12_lines ⟨Nat.le_refl _, Nat.le_refl _⟩ (by simp [Value.category]) (Nat.le_of_ble_eq_true rfl) (ok_X12_lines N d a1 a2 m)

def f_X12_claque (N : Nat) (a1 : Int32) (a2 : Int32) (m : Mem) : Ans :=
if a1 = (-1 : Int32) then (bnd (mset m 124 44 0) fun m_12 =>
some (0, m_12))
else (bd (f_X12_allHearers N m) fun r_18 m_18 =>
bd (f_X12_isIn N a1 0 r_18 m_18) fun r_21 m_21 =>
if r_21 = 0 then (some ((-1), m_21))
else (bd (f_X12_isIn N a2 0 12 m_21) fun r_31 m_31 =>
if r_31 = 0 then (some ((-1), m_31))
else (if (m_31 124 44) = (8 : Int32) then (some ((-1), m_31))
else (chk (inb ((197 : Int32) + ((2 : Int32) * (m_31 124 44))) 1707) <|
bnd (mset m_31 124 ((197 : Int32) + ((2 : Int32) * (m_31 124 44))).toNatClampNeg a1) fun m_69 =>
chk (inb (((197 : Int32) + ((2 : Int32) * (m_69 124 44))) + (1 : Int32)) 1707) <|
bnd (mset m_69 124 (((197 : Int32) + ((2 : Int32) * (m_69 124 44))) + (1 : Int32)).toNatClampNeg a2) fun m_90 =>
bnd (mset m_90 124 44 ((m_90 124 44) + (1 : Int32))) fun m_101 =>
some (m_101 124 44, m_101)))))

set_option maxRecDepth 100000 in
set_option maxHeartbeats 4000000 in
theorem ok_X12_claque (N d : Nat) (a1 : Int32) (a2 : Int32)  (m : Mem) : Ok none SG (d + 1) m_X12_claque 0 [some (.ref 123), some (.int a1), some (.int a2)] [] SG m (f_X12_claque N a1 a2 m) := by
  unfold f_X12_claque
  refine ok_iload_n 1 1 dX12_claque_0 rfl rfl rfl ?_
  refine ok_iconst 2 (-1) dX12_claque_1 rfl rfl ?_
  refine ok_icmp_ne 15 5 dX12_claque_2 (by decide) rfl (fun _ => ?_) (fun _ => ?_)
  · refine ok_iload_n 16 1 dX12_claque_15 rfl rfl rfl ?_
    refine ok_iconst 17 0 dX12_claque_16 rfl rfl ?_
    refine ok_aload_n 18 0 dX12_claque_17 rfl rfl rfl ?_
    refine ok_callVi (np := 0) (M' := m_X12_allHearers) (As := []) (st := [.int 0, .int a1]) 21 dX12_claque_18 rfl rfl km_X12_allHearers ki_X12_allHearers kv_X12_allHearers ml_EncoresModel_405 (by decide) sg_123 rfl (Nat.le_of_ble_eq_true rfl) rfl rfl rfl (Nat.le_of_ble_eq_true rfl) (c_X12_allHearers N (d + 0) m) ⟨Nat.le_refl _, Nat.le_refl _⟩ (Or.inl rfl) rfl (fun r_18 m_18 _ => ?_)
    refine ok_callSi (np := 3) (M' := m_X12_isIn) (As := [.int a1, .int 0, .int r_18]) (st := []) 24 dX12_claque_21 rfl rfl km_X12_isIn ks_X12_isIn ml_EncoresModel_56 (by decide) rfl rfl (Nat.le_of_ble_eq_true rfl) (c_X12_isIn N (d + 0) a1 0 r_18 m_18) ⟨Nat.le_refl _, Nat.le_refl _⟩ (Or.inl rfl) rfl (fun r_21 m_21 _ => ?_)
    refine ok_if_eq 49 27 dX12_claque_24 (by decide) rfl (fun _ => ?_) (fun _ => ?_)
    · refine ok_iconst 50 (-1) dX12_claque_49 rfl rfl ?_
      exact ok_iret dX12_claque_50 rfl
    · refine ok_iload_n 28 2 dX12_claque_27 rfl rfl rfl ?_
      refine ok_iconst 29 0 dX12_claque_28 rfl rfl ?_
      refine ok_bipush 31 12 dX12_claque_29 rfl rfl ?_
      refine ok_callSi (np := 3) (M' := m_X12_isIn) (As := [.int a2, .int 0, .int 12]) (st := []) 34 dX12_claque_31 rfl rfl km_X12_isIn ks_X12_isIn ml_EncoresModel_56 (by decide) rfl rfl (Nat.le_of_ble_eq_true rfl) (c_X12_isIn N (d + 0) a2 0 12 m_21) ⟨Nat.le_refl _, Nat.le_refl _⟩ (Or.inl rfl) rfl (fun r_31 m_31 _ => ?_)
      refine ok_if_eq 49 37 dX12_claque_34 (by decide) rfl (fun _ => ?_) (fun _ => ?_)
      · refine ok_iconst 50 (-1) dX12_claque_49 rfl rfl ?_
        exact ok_iret dX12_claque_50 rfl
      · refine ok_aload_n 38 0 dX12_claque_37 rfl rfl rfl ?_
        refine ok_getR 41 dX12_claque_38 rfl rfl F_EncoresModel_7 sg_123 rfl (Nat.le_of_ble_eq_true rfl) rfl rfl ?_
        refine ok_bipush 43 44 dX12_claque_41 rfl rfl ?_
        refine ok_ialdc 44 44 dX12_claque_43 rfl sg_124 (by decide) (by decide) ?_
        refine ok_bipush 46 8 dX12_claque_44 rfl rfl ?_
        refine ok_icmp_ne 51 49 dX12_claque_46 (by decide) rfl (fun _ => ?_) (fun _ => ?_)
        · refine ok_aload_n 52 0 dX12_claque_51 rfl rfl rfl ?_
          refine ok_getR 55 dX12_claque_52 rfl rfl F_EncoresModel_7 sg_123 rfl (Nat.le_of_ble_eq_true rfl) rfl rfl ?_
          refine ok_sipush 58 197 dX12_claque_55 rfl rfl ?_
          refine ok_iconst 59 2 dX12_claque_58 rfl rfl ?_
          refine ok_aload_n 60 0 dX12_claque_59 rfl rfl rfl ?_
          refine ok_getR 63 dX12_claque_60 rfl rfl F_EncoresModel_7 sg_123 rfl (Nat.le_of_ble_eq_true rfl) rfl rfl ?_
          refine ok_bipush 65 44 dX12_claque_63 rfl rfl ?_
          refine ok_ialdc 66 44 dX12_claque_65 rfl sg_124 (by decide) (by decide) ?_
          refine ok_imul 67 dX12_claque_66 rfl ?_
          refine ok_iadd 68 dX12_claque_67 rfl ?_
          refine ok_iload_n 69 1 dX12_claque_68 rfl rfl rfl ?_
          refine ok_iast 70 dX12_claque_69 rfl sg_124 ?_
          refine ok_bndM (fun m_69 => ?_)
          refine ok_aload_n 71 0 dX12_claque_70 rfl rfl rfl ?_
          refine ok_getR 74 dX12_claque_71 rfl rfl F_EncoresModel_7 sg_123 rfl (Nat.le_of_ble_eq_true rfl) rfl rfl ?_
          refine ok_sipush 77 197 dX12_claque_74 rfl rfl ?_
          refine ok_iconst 78 2 dX12_claque_77 rfl rfl ?_
          refine ok_aload_n 79 0 dX12_claque_78 rfl rfl rfl ?_
          refine ok_getR 82 dX12_claque_79 rfl rfl F_EncoresModel_7 sg_123 rfl (Nat.le_of_ble_eq_true rfl) rfl rfl ?_
          refine ok_bipush 84 44 dX12_claque_82 rfl rfl ?_
          refine ok_ialdc 85 44 dX12_claque_84 rfl sg_124 (by decide) (by decide) ?_
          refine ok_imul 86 dX12_claque_85 rfl ?_
          refine ok_iadd 87 dX12_claque_86 rfl ?_
          refine ok_iconst 88 1 dX12_claque_87 rfl rfl ?_
          refine ok_iadd 89 dX12_claque_88 rfl ?_
          refine ok_iload_n 90 2 dX12_claque_89 rfl rfl rfl ?_
          refine ok_iast 91 dX12_claque_90 rfl sg_124 ?_
          refine ok_bndM (fun m_90 => ?_)
          refine ok_aload_n 92 0 dX12_claque_91 rfl rfl rfl ?_
          refine ok_getR 95 dX12_claque_92 rfl rfl F_EncoresModel_7 sg_123 rfl (Nat.le_of_ble_eq_true rfl) rfl rfl ?_
          refine ok_bipush 97 44 dX12_claque_95 rfl rfl ?_
          refine ok_dup2 98 dX12_claque_97 rfl rfl rfl ?_
          refine ok_ialdc 99 44 dX12_claque_98 rfl sg_124 (by decide) (by decide) ?_
          refine ok_iconst 100 1 dX12_claque_99 rfl rfl ?_
          refine ok_iadd 101 dX12_claque_100 rfl ?_
          refine ok_iastc 102 44 dX12_claque_101 rfl sg_124 (by decide) (by decide) ?_
          refine ok_bndM (fun m_101 => ?_)
          refine ok_aload_n 103 0 dX12_claque_102 rfl rfl rfl ?_
          refine ok_getR 106 dX12_claque_103 rfl rfl F_EncoresModel_7 sg_123 rfl (Nat.le_of_ble_eq_true rfl) rfl rfl ?_
          refine ok_bipush 108 44 dX12_claque_106 rfl rfl ?_
          refine ok_ialdc 109 44 dX12_claque_108 rfl sg_124 (by decide) (by decide) ?_
          exact ok_iret dX12_claque_109 rfl
        · refine ok_iconst 50 (-1) dX12_claque_49 rfl rfl ?_
          exact ok_iret dX12_claque_50 rfl
  · refine ok_aload_n 6 0 dX12_claque_5 rfl rfl rfl ?_
    refine ok_getR 9 dX12_claque_6 rfl rfl F_EncoresModel_7 sg_123 rfl (Nat.le_of_ble_eq_true rfl) rfl rfl ?_
    refine ok_bipush 11 44 dX12_claque_9 rfl rfl ?_
    refine ok_iconst 12 0 dX12_claque_11 rfl rfl ?_
    refine ok_iastc 13 44 dX12_claque_12 rfl sg_124 (by decide) (by decide) ?_
    refine ok_bndM (fun m_12 => ?_)
    refine ok_iconst 14 0 dX12_claque_13 rfl rfl ?_
    exact ok_iret dX12_claque_14 rfl

theorem c_X12_claque (N d : Nat) (a1 : Int32) (a2 : Int32)  (m : Mem) : CM (d + 1) m_X12_claque SG SG [.ref 123, .int a1, .int a2] m (f_X12_claque N a1 a2 m) :=
  CM.ofOk km_X12_claque ⟨Nat.le_refl _, Nat.le_refl _⟩ (by simp [Value.category]) (Nat.le_of_ble_eq_true rfl) (ok_X12_claque N d a1 a2 m)

def f_X12_couldBe_L2 (N : Nat) (a1 : Int32)   (X : Int32 → Mem → Ans) (s2_2 : Int32) (m : Mem) : Ans :=
if (m 124 44) ≤ s2_2 then (some (1, m))
else (chk (inb ((197 : Int32) + ((2 : Int32) * s2_2)) 1707) <|
bd (f_X12_count N (a1 &&& (m 124 ((197 : Int32) + ((2 : Int32) * s2_2)).toNatClampNeg)) m) fun r_27 m_27 =>
chk (inb (((197 : Int32) + ((2 : Int32) * s2_2)) + (1 : Int32)) 1707) <|
if r_27 = (m_27 124 (((197 : Int32) + ((2 : Int32) * s2_2)) + (1 : Int32)).toNatClampNeg) then (X (s2_2 + 1) m_27)
else (some (0, m_27)))

def f_X12_couldBe (N : Nat) (a1 : Int32) (m : Mem) : Ans :=
it1 (f_X12_couldBe_L2 N a1 ) N 0 m

set_option maxRecDepth 100000 in
set_option maxHeartbeats 4000000 in
theorem ok_X12_couldBe_L2 (N d : Nat) (a1 : Int32)    : ∀ (n : Nat) (s2_2 : Int32) (m : Mem), Ok none SG (d + 1) m_X12_couldBe 2 [some (.ref 123), some (.int a1), some (.int s2_2)] [] SG m (it1 (f_X12_couldBe_L2 N a1) n s2_2 m) :=
  ok_it1 (fun s2_2 => [some (.ref 123), some (.int a1), some (.int s2_2)]) (fun X hX s2_2 m => by
    try unfold f_X12_couldBe_L2
    refine ok_iload_n 3 2 dX12_couldBe_2 rfl rfl rfl ?_
    refine ok_aload_n 4 0 dX12_couldBe_3 rfl rfl rfl ?_
    refine ok_getR 7 dX12_couldBe_4 rfl rfl F_EncoresModel_7 sg_123 rfl (Nat.le_of_ble_eq_true rfl) rfl rfl ?_
    refine ok_bipush 9 44 dX12_couldBe_7 rfl rfl ?_
    refine ok_ialdc 10 44 dX12_couldBe_9 rfl sg_124 (by decide) (by decide) ?_
    refine ok_icmp_ge 55 13 dX12_couldBe_10 (by decide) rfl (fun _ => ?_) (fun _ => ?_)
    · refine ok_iconst 56 1 dX12_couldBe_55 rfl rfl ?_
      exact ok_zretc dX12_couldBe_56 rfl rfl
    · refine ok_iload_n 14 1 dX12_couldBe_13 rfl rfl rfl ?_
      refine ok_aload_n 15 0 dX12_couldBe_14 rfl rfl rfl ?_
      refine ok_getR 18 dX12_couldBe_15 rfl rfl F_EncoresModel_7 sg_123 rfl (Nat.le_of_ble_eq_true rfl) rfl rfl ?_
      refine ok_sipush 21 197 dX12_couldBe_18 rfl rfl ?_
      refine ok_iconst 22 2 dX12_couldBe_21 rfl rfl ?_
      refine ok_iload_n 23 2 dX12_couldBe_22 rfl rfl rfl ?_
      refine ok_imul 24 dX12_couldBe_23 rfl ?_
      refine ok_iadd 25 dX12_couldBe_24 rfl ?_
      refine ok_iald 26 dX12_couldBe_25 rfl sg_124 ?_
      refine ok_iand 27 dX12_couldBe_26 rfl ?_
      refine ok_callSi (np := 1) (M' := m_X12_count) (As := [.int (a1 &&& (m 124 ((197 : Int32) + ((2 : Int32) * s2_2)).toNatClampNeg))]) (st := []) 30 dX12_couldBe_27 rfl rfl km_X12_count ks_X12_count ml_EncoresModel_319 (by decide) rfl rfl (Nat.le_of_ble_eq_true rfl) (c_X12_count N (d + 0) (a1 &&& (m 124 ((197 : Int32) + ((2 : Int32) * s2_2)).toNatClampNeg)) m) ⟨Nat.le_refl _, Nat.le_refl _⟩ (Or.inl rfl) rfl (fun r_27 m_27 _ => ?_)
      refine ok_aload_n 31 0 dX12_couldBe_30 rfl rfl rfl ?_
      refine ok_getR 34 dX12_couldBe_31 rfl rfl F_EncoresModel_7 sg_123 rfl (Nat.le_of_ble_eq_true rfl) rfl rfl ?_
      refine ok_sipush 37 197 dX12_couldBe_34 rfl rfl ?_
      refine ok_iconst 38 2 dX12_couldBe_37 rfl rfl ?_
      refine ok_iload_n 39 2 dX12_couldBe_38 rfl rfl rfl ?_
      refine ok_imul 40 dX12_couldBe_39 rfl ?_
      refine ok_iadd 41 dX12_couldBe_40 rfl ?_
      refine ok_iconst 42 1 dX12_couldBe_41 rfl rfl ?_
      refine ok_iadd 43 dX12_couldBe_42 rfl ?_
      refine ok_iald 44 dX12_couldBe_43 rfl sg_124 ?_
      refine ok_icmp_eq 49 47 dX12_couldBe_44 (by decide) rfl (fun _ => ?_) (fun _ => ?_)
      · refine ok_iinc 52 2 1 [some (.ref 123), some (.int a1), some (.int (s2_2 + 1))] dX12_couldBe_49 rfl rfl rfl (by decide) rfl ?_
        refine ok_goto 2 dX12_couldBe_52 (by decide) ?_
        exact ok_less [some (.ref 123), some (.int a1), some (.int (s2_2 + 1))] (And.intro rfl (And.intro rfl (And.intro rfl (trivial)))) (hX (s2_2 + 1) m_27)
      · refine ok_iconst 48 0 dX12_couldBe_47 rfl rfl ?_
        exact ok_zretc dX12_couldBe_48 rfl rfl)

set_option maxRecDepth 100000 in
set_option maxHeartbeats 4000000 in
theorem ok_X12_couldBe (N d : Nat) (a1 : Int32)  (m : Mem) : Ok none SG (d + 1) m_X12_couldBe 0 [some (.ref 123), some (.int a1), none] [] SG m (f_X12_couldBe N a1 m) := by
  unfold f_X12_couldBe
  refine ok_iconst 1 0 dX12_couldBe_0 rfl rfl ?_
  refine ok_istore_n 2 2 [some (.ref 123), some (.int a1), some (.int 0)] dX12_couldBe_1 rfl rfl (by decide) rfl ?_
  refine ok_less [some (.ref 123), some (.int a1), some (.int 0)] (And.intro rfl (And.intro rfl (And.intro rfl (trivial)))) ?_
  exact ok_X12_couldBe_L2 N d a1    N 0 m

theorem c_X12_couldBe (N d : Nat) (a1 : Int32)  (m : Mem) : CM (d + 1) m_X12_couldBe SG SG [.ref 123, .int a1] m (f_X12_couldBe N a1 m) :=
  CM.ofOk km_X12_couldBe ⟨Nat.le_refl _, Nat.le_refl _⟩ (by simp [Value.category]) (Nat.le_of_ble_eq_true rfl) (ok_X12_couldBe N d a1 m)

def f_X12_bestAsked_L4 (N : Nat) (a1 : Int32)   (X : Int32 → Int32 → Mem → Ans) (s2_4 : Int32) (s3_4 : Int32) (m : Mem) : Ans :=
if (m 124 37) ≤ s3_4 then (some (s2_4, m))
else (if s2_4 = (-1 : Int32) then (X s3_4 (s3_4 + 1) m)
else (chk (inb s3_4 12) <|
chk (inb s3_4 12) <|
bd (f_X12_greater N (m 136 s3_4.toNatClampNeg) (a1 - (m 136 s3_4.toNatClampNeg)) m) fun r_34 m_34 =>
chk (inb s2_4 12) <|
chk (inb s2_4 12) <|
bd (f_X12_greater N (m_34 136 s2_4.toNatClampNeg) (a1 - (m_34 136 s2_4.toNatClampNeg)) m_34) fun r_51 m_51 =>
if r_51 ≤ r_34 then (X s2_4 (s3_4 + 1) m_51)
else (X s3_4 (s3_4 + 1) m_51)))

def f_X12_bestAsked (N : Nat) (a1 : Int32) (m : Mem) : Ans :=
it2 (f_X12_bestAsked_L4 N a1 ) N (-1) 0 m

set_option maxRecDepth 100000 in
set_option maxHeartbeats 4000000 in
theorem ok_X12_bestAsked_L4 (N d : Nat) (a1 : Int32)    : ∀ (n : Nat) (s2_4 : Int32) (s3_4 : Int32) (m : Mem), Ok none SG (d + 1) m_X12_bestAsked 4 [some (.ref 123), some (.int a1), some (.int s2_4), some (.int s3_4)] [] SG m (it2 (f_X12_bestAsked_L4 N a1) n s2_4 s3_4 m) :=
  ok_it2 (fun s2_4 s3_4 => [some (.ref 123), some (.int a1), some (.int s2_4), some (.int s3_4)]) (fun X hX s2_4 s3_4 m => by
    try unfold f_X12_bestAsked_L4
    refine ok_iload_n 5 3 dX12_bestAsked_4 rfl rfl rfl ?_
    refine ok_aload_n 6 0 dX12_bestAsked_5 rfl rfl rfl ?_
    refine ok_getR 9 dX12_bestAsked_6 rfl rfl F_EncoresModel_7 sg_123 rfl (Nat.le_of_ble_eq_true rfl) rfl rfl ?_
    refine ok_bipush 11 37 dX12_bestAsked_9 rfl rfl ?_
    refine ok_ialdc 12 37 dX12_bestAsked_11 rfl sg_124 (by decide) (by decide) ?_
    refine ok_icmp_ge 65 15 dX12_bestAsked_12 (by decide) rfl (fun _ => ?_) (fun _ => ?_)
    · refine ok_iload_n 66 2 dX12_bestAsked_65 rfl rfl rfl ?_
      exact ok_iret dX12_bestAsked_66 rfl
    · refine ok_iload_n 16 2 dX12_bestAsked_15 rfl rfl rfl ?_
      refine ok_iconst 17 (-1) dX12_bestAsked_16 rfl rfl ?_
      refine ok_icmp_eq 57 20 dX12_bestAsked_17 (by decide) rfl (fun _ => ?_) (fun _ => ?_)
      · refine ok_iload_n 58 3 dX12_bestAsked_57 rfl rfl rfl ?_
        refine ok_istore_n 59 2 [some (.ref 123), some (.int a1), some (.int s3_4), some (.int s3_4)] dX12_bestAsked_58 rfl rfl (by decide) rfl ?_
        refine ok_iinc 62 3 1 [some (.ref 123), some (.int a1), some (.int s3_4), some (.int (s3_4 + 1))] dX12_bestAsked_59 rfl rfl rfl (by decide) rfl ?_
        refine ok_goto 4 dX12_bestAsked_62 (by decide) ?_
        exact ok_less [some (.ref 123), some (.int a1), some (.int s3_4), some (.int (s3_4 + 1))] (And.intro rfl (And.intro rfl (And.intro rfl (And.intro rfl (trivial))))) (hX s3_4 (s3_4 + 1) m)
      · refine ok_aload_n 21 0 dX12_bestAsked_20 rfl rfl rfl ?_
        refine ok_getR 24 dX12_bestAsked_21 rfl rfl F_EncoresModel_50 sg_123 rfl (Nat.le_of_ble_eq_true rfl) rfl rfl ?_
        refine ok_iload_n 25 3 dX12_bestAsked_24 rfl rfl rfl ?_
        refine ok_iald 26 dX12_bestAsked_25 rfl sg_136 ?_
        refine ok_iload_n 27 1 dX12_bestAsked_26 rfl rfl rfl ?_
        refine ok_aload_n 28 0 dX12_bestAsked_27 rfl rfl rfl ?_
        refine ok_getR 31 dX12_bestAsked_28 rfl rfl F_EncoresModel_50 sg_123 rfl (Nat.le_of_ble_eq_true rfl) rfl rfl ?_
        refine ok_iload_n 32 3 dX12_bestAsked_31 rfl rfl rfl ?_
        refine ok_iald 33 dX12_bestAsked_32 rfl sg_136 ?_
        refine ok_isub 34 dX12_bestAsked_33 rfl ?_
        refine ok_callSi (np := 2) (M' := m_X12_greater) (As := [.int (m 136 s3_4.toNatClampNeg), .int (a1 - (m 136 s3_4.toNatClampNeg))]) (st := []) 37 dX12_bestAsked_34 rfl rfl km_X12_greater ks_X12_greater ml_EncoresModel_290 (by decide) rfl rfl (Nat.le_of_ble_eq_true rfl) (c_X12_greater N (d + 0) (m 136 s3_4.toNatClampNeg) (a1 - (m 136 s3_4.toNatClampNeg)) m) ⟨Nat.le_refl _, Nat.le_refl _⟩ (Or.inl rfl) rfl (fun r_34 m_34 _ => ?_)
        refine ok_aload_n 38 0 dX12_bestAsked_37 rfl rfl rfl ?_
        refine ok_getR 41 dX12_bestAsked_38 rfl rfl F_EncoresModel_50 sg_123 rfl (Nat.le_of_ble_eq_true rfl) rfl rfl ?_
        refine ok_iload_n 42 2 dX12_bestAsked_41 rfl rfl rfl ?_
        refine ok_iald 43 dX12_bestAsked_42 rfl sg_136 ?_
        refine ok_iload_n 44 1 dX12_bestAsked_43 rfl rfl rfl ?_
        refine ok_aload_n 45 0 dX12_bestAsked_44 rfl rfl rfl ?_
        refine ok_getR 48 dX12_bestAsked_45 rfl rfl F_EncoresModel_50 sg_123 rfl (Nat.le_of_ble_eq_true rfl) rfl rfl ?_
        refine ok_iload_n 49 2 dX12_bestAsked_48 rfl rfl rfl ?_
        refine ok_iald 50 dX12_bestAsked_49 rfl sg_136 ?_
        refine ok_isub 51 dX12_bestAsked_50 rfl ?_
        refine ok_callSi (np := 2) (M' := m_X12_greater) (As := [.int (m_34 136 s2_4.toNatClampNeg), .int (a1 - (m_34 136 s2_4.toNatClampNeg))]) (st := [.int r_34]) 54 dX12_bestAsked_51 rfl rfl km_X12_greater ks_X12_greater ml_EncoresModel_290 (by decide) rfl rfl (Nat.le_of_ble_eq_true rfl) (c_X12_greater N (d + 0) (m_34 136 s2_4.toNatClampNeg) (a1 - (m_34 136 s2_4.toNatClampNeg)) m_34) ⟨Nat.le_refl _, Nat.le_refl _⟩ (Or.inl rfl) rfl (fun r_51 m_51 _ => ?_)
        refine ok_icmp_ge 59 57 dX12_bestAsked_54 (by decide) rfl (fun _ => ?_) (fun _ => ?_)
        · refine ok_iinc 62 3 1 [some (.ref 123), some (.int a1), some (.int s2_4), some (.int (s3_4 + 1))] dX12_bestAsked_59 rfl rfl rfl (by decide) rfl ?_
          refine ok_goto 4 dX12_bestAsked_62 (by decide) ?_
          exact ok_less [some (.ref 123), some (.int a1), some (.int s2_4), some (.int (s3_4 + 1))] (And.intro rfl (And.intro rfl (And.intro rfl (And.intro rfl (trivial))))) (hX s2_4 (s3_4 + 1) m_51)
        · refine ok_iload_n 58 3 dX12_bestAsked_57 rfl rfl rfl ?_
          refine ok_istore_n 59 2 [some (.ref 123), some (.int a1), some (.int s3_4), some (.int s3_4)] dX12_bestAsked_58 rfl rfl (by decide) rfl ?_
          refine ok_iinc 62 3 1 [some (.ref 123), some (.int a1), some (.int s3_4), some (.int (s3_4 + 1))] dX12_bestAsked_59 rfl rfl rfl (by decide) rfl ?_
          refine ok_goto 4 dX12_bestAsked_62 (by decide) ?_
          exact ok_less [some (.ref 123), some (.int a1), some (.int s3_4), some (.int (s3_4 + 1))] (And.intro rfl (And.intro rfl (And.intro rfl (And.intro rfl (trivial))))) (hX s3_4 (s3_4 + 1) m_51))

set_option maxRecDepth 100000 in
set_option maxHeartbeats 4000000 in
theorem ok_X12_bestAsked (N d : Nat) (a1 : Int32)  (m : Mem) : Ok none SG (d + 1) m_X12_bestAsked 0 [some (.ref 123), some (.int a1), none, none] [] SG m (f_X12_bestAsked N a1 m) := by
  unfold f_X12_bestAsked
  refine ok_iconst 1 (-1) dX12_bestAsked_0 rfl rfl ?_
  refine ok_istore_n 2 2 [some (.ref 123), some (.int a1), some (.int (-1)), none] dX12_bestAsked_1 rfl rfl (by decide) rfl ?_
  refine ok_iconst 3 0 dX12_bestAsked_2 rfl rfl ?_
  refine ok_istore_n 4 3 [some (.ref 123), some (.int a1), some (.int (-1)), some (.int 0)] dX12_bestAsked_3 rfl rfl (by decide) rfl ?_
  refine ok_less [some (.ref 123), some (.int a1), some (.int (-1)), some (.int 0)] (And.intro rfl (And.intro rfl (And.intro rfl (And.intro rfl (trivial))))) ?_
  exact ok_X12_bestAsked_L4 N d a1    N (-1) 0 m

theorem c_X12_bestAsked (N d : Nat) (a1 : Int32)  (m : Mem) : CM (d + 1) m_X12_bestAsked SG SG [.ref 123, .int a1] m (f_X12_bestAsked N a1 m) :=
  CM.ofOk km_X12_bestAsked ⟨Nat.le_refl _, Nat.le_refl _⟩ (by simp [Value.category]) (Nat.le_of_ble_eq_true rfl) (ok_X12_bestAsked N d a1 m)

def f_X12_fits_L13 (N : Nat) (a1 : Int32)  (K32 : Mem → Ans) (X : Int32 → Mem → Ans) (s2_13 : Int32) (m : Mem) : Ans :=
if (12 : Int32) ≤ s2_13 then (K32 m)
else (chk (inb s2_13 12) <|
bnd (mset m 136 s2_13.toNatClampNeg 0) fun m_25 =>
X (s2_13 + 1) m_25)

def f_X12_fits_L85 (N : Nat) (a1 : Int32) (s2_77 : Int32) (t0_77 : Int32) (s5_77 : Int32) (K120 : Mem → Ans) (X : Int32 → Mem → Ans) (s6_85 : Int32) (m : Mem) : Ans :=
if (m 124 37) ≤ s6_85 then (K120 m)
else (chk (inb s6_85 12) <|
chk (inb s6_85 12) <|
bnd (mset m 136 s6_85.toNatClampNeg ((m 136 s6_85.toNatClampNeg) + ((s5_77 >>> (s6_85 &&& 31)) &&& (1 : Int32)))) fun m_113 =>
X (s6_85 + 1) m_113)

def f_X12_fits_J77 (N : Nat) (a1 : Int32)  (K126 : Int32 → Int32 → Int32 → Mem → Ans) (X : Int32 → Int32 → Int32 → Int32 → Mem → Ans) (s2_77 : Int32) (s5_77 : Int32) (t0_77 : Int32) (m : Mem) : Ans :=
it1 (f_X12_fits_L85 N a1 s2_77 t0_77 s5_77 (fun mk120 => X s2_77 t0_77 s5_77 (s5_77 + 1) mk120)) N 0 m

def f_X12_fits_L42 (N : Nat) (a1 : Int32)  (K126 : Int32 → Int32 → Int32 → Mem → Ans) (X : Int32 → Int32 → Int32 → Int32 → Mem → Ans) (s2_42 : Int32) (s3_42 : Int32) (s4_42 : Int32) (s5_42 : Int32) (m : Mem) : Ans :=
bd (f_X12_allHearers N m) fun r_45 m_45 =>
if r_45 < s5_42 then (K126 s2_42 s3_42 s4_42 m_45)
else (bd (f_X12_couldBe N s5_42 m_45) fun r_54 m_54 =>
if r_54 = 0 then (X s2_42 s3_42 s4_42 (s5_42 + 1) m_54)
else (if s3_42 = (-1 : Int32) then (f_X12_fits_J77 N a1 K126 X (s2_42 + 1) s5_42 s5_42 m_54)
else (f_X12_fits_J77 N a1 K126 X (s2_42 + 1) s5_42 s3_42 m_54)))

def f_X12_fits (N : Nat) (a1 : Int32) (m : Mem) : Ans :=
bd (f_X12_isIn N a1 0 3 m) fun r_3 m_3 =>
if r_3 = 0 then (some ((-1), m_3))
else (it1 (f_X12_fits_L13 N a1 (fun mk32 => it4 (f_X12_fits_L42 N a1 (fun k2_126 k3_126 k4_126 mk126 => swt (Int32.toInt a1 - (0)) [(some (k2_126, mk126)),
(some (k3_126, mk126)),
(some (k4_126, mk126))] (if (2 : Int32) ≤ k2_126 then (bd (f_X12_bestAsked N k2_126 mk126) fun r_170 m_170 =>
some (r_170, m_170))
else (some ((-1), mk126))))) N 0 (-1) (-1) 0 mk32)) N 0 m_3)

set_option maxRecDepth 100000 in
set_option maxHeartbeats 4000000 in
theorem ok_X12_fits_L13 (N d : Nat) (a1 : Int32)   (K32 : Mem → Ans) (hK32 : ∀  (m : Mem), Ok none SG (d + 2) m_X12_fits 32 [some (.ref 123), some (.int a1), none, none, none, none, none] [] SG m (K32 m)) : ∀ (n : Nat) (s2_13 : Int32) (m : Mem), Ok none SG (d + 2) m_X12_fits 13 [some (.ref 123), some (.int a1), some (.int s2_13), none, none, none, none] [] SG m (it1 (f_X12_fits_L13 N a1 K32) n s2_13 m) :=
  ok_it1 (fun s2_13 => [some (.ref 123), some (.int a1), some (.int s2_13), none, none, none, none]) (fun X hX s2_13 m => by
    try unfold f_X12_fits_L13
    refine ok_iload_n 14 2 dX12_fits_13 rfl rfl rfl ?_
    refine ok_bipush 16 12 dX12_fits_14 rfl rfl ?_
    refine ok_icmp_ge 32 19 dX12_fits_16 (by decide) rfl (fun _ => ?_) (fun _ => ?_)
    · exact ok_less [some (.ref 123), some (.int a1), none, none, none, none, none] (And.intro rfl (And.intro rfl (trivial))) (hK32 m)
    · refine ok_aload_n 20 0 dX12_fits_19 rfl rfl rfl ?_
      refine ok_getR 23 dX12_fits_20 rfl rfl F_EncoresModel_50 sg_123 rfl (Nat.le_of_ble_eq_true rfl) rfl rfl ?_
      refine ok_iload_n 24 2 dX12_fits_23 rfl rfl rfl ?_
      refine ok_iconst 25 0 dX12_fits_24 rfl rfl ?_
      refine ok_iast 26 dX12_fits_25 rfl sg_136 ?_
      refine ok_bndM (fun m_25 => ?_)
      refine ok_iinc 29 2 1 [some (.ref 123), some (.int a1), some (.int (s2_13 + 1)), none, none, none, none] dX12_fits_26 rfl rfl rfl (by decide) rfl ?_
      refine ok_goto 13 dX12_fits_29 (by decide) ?_
      exact ok_less [some (.ref 123), some (.int a1), some (.int (s2_13 + 1)), none, none, none, none] (And.intro rfl (And.intro rfl (And.intro rfl (trivial)))) (hX (s2_13 + 1) m_25))

set_option maxRecDepth 100000 in
set_option maxHeartbeats 4000000 in
theorem ok_X12_fits_L85 (N d : Nat) (a1 : Int32)  (s2_77 : Int32) (t0_77 : Int32) (s5_77 : Int32) (K120 : Mem → Ans) (hK120 : ∀  (m : Mem), Ok none SG (d + 2) m_X12_fits 120 [some (.ref 123), some (.int a1), some (.int s2_77), some (.int t0_77), some (.int s5_77), some (.int s5_77), none] [] SG m (K120 m)) : ∀ (n : Nat) (s6_85 : Int32) (m : Mem), Ok none SG (d + 2) m_X12_fits 85 [some (.ref 123), some (.int a1), some (.int s2_77), some (.int t0_77), some (.int s5_77), some (.int s5_77), some (.int s6_85)] [] SG m (it1 (f_X12_fits_L85 N a1 s2_77 t0_77 s5_77 K120) n s6_85 m) :=
  ok_it1 (fun s6_85 => [some (.ref 123), some (.int a1), some (.int s2_77), some (.int t0_77), some (.int s5_77), some (.int s5_77), some (.int s6_85)]) (fun X hX s6_85 m => by
    try unfold f_X12_fits_L85
    refine ok_iload 87 6 dX12_fits_85 rfl rfl ?_
    refine ok_aload_n 88 0 dX12_fits_87 rfl rfl rfl ?_
    refine ok_getR 91 dX12_fits_88 rfl rfl F_EncoresModel_7 sg_123 rfl (Nat.le_of_ble_eq_true rfl) rfl rfl ?_
    refine ok_bipush 93 37 dX12_fits_91 rfl rfl ?_
    refine ok_ialdc 94 37 dX12_fits_93 rfl sg_124 (by decide) (by decide) ?_
    refine ok_icmp_ge 120 97 dX12_fits_94 (by decide) rfl (fun _ => ?_) (fun _ => ?_)
    · exact ok_less [some (.ref 123), some (.int a1), some (.int s2_77), some (.int t0_77), some (.int s5_77), some (.int s5_77), none] (And.intro rfl (And.intro rfl (And.intro rfl (And.intro rfl (And.intro rfl (And.intro rfl (trivial))))))) (hK120 m)
    · refine ok_aload_n 98 0 dX12_fits_97 rfl rfl rfl ?_
      refine ok_getR 101 dX12_fits_98 rfl rfl F_EncoresModel_50 sg_123 rfl (Nat.le_of_ble_eq_true rfl) rfl rfl ?_
      refine ok_iload 103 6 dX12_fits_101 rfl rfl ?_
      refine ok_dup2 104 dX12_fits_103 rfl rfl rfl ?_
      refine ok_iald 105 dX12_fits_104 rfl sg_136 ?_
      refine ok_iload 107 5 dX12_fits_105 rfl rfl ?_
      refine ok_iload 109 6 dX12_fits_107 rfl rfl ?_
      refine ok_ishr 110 dX12_fits_109 rfl ?_
      refine ok_iconst 111 1 dX12_fits_110 rfl rfl ?_
      refine ok_iand 112 dX12_fits_111 rfl ?_
      refine ok_iadd 113 dX12_fits_112 rfl ?_
      refine ok_iast 114 dX12_fits_113 rfl sg_136 ?_
      refine ok_bndM (fun m_113 => ?_)
      refine ok_iinc 117 6 1 [some (.ref 123), some (.int a1), some (.int s2_77), some (.int t0_77), some (.int s5_77), some (.int s5_77), some (.int (s6_85 + 1))] dX12_fits_114 rfl rfl rfl (by decide) rfl ?_
      refine ok_goto 85 dX12_fits_117 (by decide) ?_
      exact ok_less [some (.ref 123), some (.int a1), some (.int s2_77), some (.int t0_77), some (.int s5_77), some (.int s5_77), some (.int (s6_85 + 1))] (And.intro rfl (And.intro rfl (And.intro rfl (And.intro rfl (And.intro rfl (And.intro rfl (And.intro rfl (trivial)))))))) (hX (s6_85 + 1) m_113))

set_option maxRecDepth 100000 in
set_option maxHeartbeats 4000000 in
theorem ok_X12_fits_J77 (N d : Nat) (a1 : Int32)   (K126 : Int32 → Int32 → Int32 → Mem → Ans) (X : Int32 → Int32 → Int32 → Int32 → Mem → Ans) (hK126 : ∀ (k2 : Int32) (k3 : Int32) (k4 : Int32) (m : Mem), Ok none SG (d + 2) m_X12_fits 126 [some (.ref 123), some (.int a1), some (.int k2), some (.int k3), some (.int k4), none, none] [] SG m (K126 k2 k3 k4 m)) (hX : ∀ (k2 : Int32) (k3 : Int32) (k4 : Int32) (k5 : Int32) (m : Mem), Ok none SG (d + 2) m_X12_fits 42 [some (.ref 123), some (.int a1), some (.int k2), some (.int k3), some (.int k4), some (.int k5), none] [] SG m (X k2 k3 k4 k5 m)) (s2_77 : Int32) (s5_77 : Int32) (t0_77 : Int32) (m : Mem) : Ok none SG (d + 2) m_X12_fits 77 [some (.ref 123), some (.int a1), some (.int s2_77), none, none, some (.int s5_77), none] [.int t0_77] SG m (f_X12_fits_J77 N a1 K126 X s2_77 s5_77 t0_77 m) := by
  unfold f_X12_fits_J77
  refine ok_istore_n 78 3 [some (.ref 123), some (.int a1), some (.int s2_77), some (.int t0_77), none, some (.int s5_77), none] dX12_fits_77 rfl rfl (by decide) rfl ?_
  refine ok_iload 80 5 dX12_fits_78 rfl rfl ?_
  refine ok_istore 82 4 [some (.ref 123), some (.int a1), some (.int s2_77), some (.int t0_77), some (.int s5_77), some (.int s5_77), none] dX12_fits_80 rfl (by decide) rfl ?_
  refine ok_iconst 83 0 dX12_fits_82 rfl rfl ?_
  refine ok_istore 85 6 [some (.ref 123), some (.int a1), some (.int s2_77), some (.int t0_77), some (.int s5_77), some (.int s5_77), some (.int 0)] dX12_fits_83 rfl (by decide) rfl ?_
  refine ok_less [some (.ref 123), some (.int a1), some (.int s2_77), some (.int t0_77), some (.int s5_77), some (.int s5_77), some (.int 0)] (And.intro rfl (And.intro rfl (And.intro rfl (And.intro rfl (And.intro rfl (And.intro rfl (And.intro rfl (trivial)))))))) ?_
  exact ok_X12_fits_L85 N d a1 s2_77 t0_77 s5_77 _ (fun mk120 => by
      refine ok_iinc 123 5 1 [some (.ref 123), some (.int a1), some (.int s2_77), some (.int t0_77), some (.int s5_77), some (.int (s5_77 + 1)), none] dX12_fits_120 rfl rfl rfl (by decide) rfl ?_
      refine ok_goto 42 dX12_fits_123 (by decide) ?_
      exact ok_less [some (.ref 123), some (.int a1), some (.int s2_77), some (.int t0_77), some (.int s5_77), some (.int (s5_77 + 1)), none] (And.intro rfl (And.intro rfl (And.intro rfl (And.intro rfl (And.intro rfl (And.intro rfl (trivial))))))) (hX s2_77 t0_77 s5_77 (s5_77 + 1) mk120)) N 0 m

set_option maxRecDepth 100000 in
set_option maxHeartbeats 4000000 in
theorem ok_X12_fits_L42 (N d : Nat) (a1 : Int32)   (K126 : Int32 → Int32 → Int32 → Mem → Ans) (hK126 : ∀ (k2 : Int32) (k3 : Int32) (k4 : Int32) (m : Mem), Ok none SG (d + 2) m_X12_fits 126 [some (.ref 123), some (.int a1), some (.int k2), some (.int k3), some (.int k4), none, none] [] SG m (K126 k2 k3 k4 m)) : ∀ (n : Nat) (s2_42 : Int32) (s3_42 : Int32) (s4_42 : Int32) (s5_42 : Int32) (m : Mem), Ok none SG (d + 2) m_X12_fits 42 [some (.ref 123), some (.int a1), some (.int s2_42), some (.int s3_42), some (.int s4_42), some (.int s5_42), none] [] SG m (it4 (f_X12_fits_L42 N a1 K126) n s2_42 s3_42 s4_42 s5_42 m) :=
  ok_it4 (fun s2_42 s3_42 s4_42 s5_42 => [some (.ref 123), some (.int a1), some (.int s2_42), some (.int s3_42), some (.int s4_42), some (.int s5_42), none]) (fun X hX s2_42 s3_42 s4_42 s5_42 m => by
    try unfold f_X12_fits_L42
    refine ok_iload 44 5 dX12_fits_42 rfl rfl ?_
    refine ok_aload_n 45 0 dX12_fits_44 rfl rfl rfl ?_
    refine ok_callVi (np := 0) (M' := m_X12_allHearers) (As := []) (st := [.int s5_42]) 48 dX12_fits_45 rfl rfl km_X12_allHearers ki_X12_allHearers kv_X12_allHearers ml_EncoresModel_405 (by decide) sg_123 rfl (Nat.le_of_ble_eq_true rfl) rfl rfl rfl (Nat.le_of_ble_eq_true rfl) (c_X12_allHearers N (d + 1) m) ⟨Nat.le_refl _, Nat.le_refl _⟩ (Or.inl rfl) rfl (fun r_45 m_45 _ => ?_)
    refine ok_icmp_gt 126 51 dX12_fits_48 (by decide) rfl (fun _ => ?_) (fun _ => ?_)
    · exact ok_less [some (.ref 123), some (.int a1), some (.int s2_42), some (.int s3_42), some (.int s4_42), none, none] (And.intro rfl (And.intro rfl (And.intro rfl (And.intro rfl (And.intro rfl (trivial)))))) (hK126 s2_42 s3_42 s4_42 m_45)
    · refine ok_aload_n 52 0 dX12_fits_51 rfl rfl rfl ?_
      refine ok_iload 54 5 dX12_fits_52 rfl rfl ?_
      refine ok_callVi (np := 1) (M' := m_X12_couldBe) (As := [.int s5_42]) (st := []) 57 dX12_fits_54 rfl rfl km_X12_couldBe ki_X12_couldBe kv_X12_couldBe ml_EncoresModel_408 (by decide) sg_123 rfl (Nat.le_of_ble_eq_true rfl) rfl rfl rfl (Nat.le_of_ble_eq_true rfl) (c_X12_couldBe N (d + 0) s5_42 m_45) ⟨Nat.le_refl _, Nat.le_refl _⟩ (Or.inl rfl) rfl (fun r_54 m_54 _ => ?_)
      refine ok_if_ne 63 60 dX12_fits_57 (by decide) rfl (fun _ => ?_) (fun _ => ?_)
      · refine ok_iinc 66 2 1 [some (.ref 123), some (.int a1), some (.int (s2_42 + 1)), some (.int s3_42), some (.int s4_42), some (.int s5_42), none] dX12_fits_63 rfl rfl rfl (by decide) rfl ?_
        refine ok_iload_n 67 3 dX12_fits_66 rfl rfl rfl ?_
        refine ok_iconst 68 (-1) dX12_fits_67 rfl rfl ?_
        refine ok_icmp_ne 76 71 dX12_fits_68 (by decide) rfl (fun _ => ?_) (fun _ => ?_)
        · refine ok_iload_n 77 3 dX12_fits_76 rfl rfl rfl ?_
          exact ok_less [some (.ref 123), some (.int a1), some (.int (s2_42 + 1)), none, none, some (.int s5_42), none] (And.intro rfl (And.intro rfl (And.intro rfl (And.intro rfl (trivial))))) (ok_X12_fits_J77 N d a1  K126 X hK126 hX (s2_42 + 1) s5_42 s3_42 m_54)
        · refine ok_iload 73 5 dX12_fits_71 rfl rfl ?_
          refine ok_goto 77 dX12_fits_73 (by decide) ?_
          exact ok_less [some (.ref 123), some (.int a1), some (.int (s2_42 + 1)), none, none, some (.int s5_42), none] (And.intro rfl (And.intro rfl (And.intro rfl (And.intro rfl (trivial))))) (ok_X12_fits_J77 N d a1  K126 X hK126 hX (s2_42 + 1) s5_42 s5_42 m_54)
      · refine ok_goto 120 dX12_fits_60 (by decide) ?_
        refine ok_iinc 123 5 1 [some (.ref 123), some (.int a1), some (.int s2_42), some (.int s3_42), some (.int s4_42), some (.int (s5_42 + 1)), none] dX12_fits_120 rfl rfl rfl (by decide) rfl ?_
        refine ok_goto 42 dX12_fits_123 (by decide) ?_
        exact ok_less [some (.ref 123), some (.int a1), some (.int s2_42), some (.int s3_42), some (.int s4_42), some (.int (s5_42 + 1)), none] (And.intro rfl (And.intro rfl (And.intro rfl (And.intro rfl (And.intro rfl (And.intro rfl (trivial))))))) (hX s2_42 s3_42 s4_42 (s5_42 + 1) m_54))

set_option maxRecDepth 100000 in
set_option maxHeartbeats 4000000 in
theorem ok_X12_fits (N d : Nat) (a1 : Int32)  (m : Mem) : Ok none SG (d + 2) m_X12_fits 0 [some (.ref 123), some (.int a1), none, none, none, none, none] [] SG m (f_X12_fits N a1 m) := by
  unfold f_X12_fits
  refine ok_iload_n 1 1 dX12_fits_0 rfl rfl rfl ?_
  refine ok_iconst 2 0 dX12_fits_1 rfl rfl ?_
  refine ok_iconst 3 3 dX12_fits_2 rfl rfl ?_
  refine ok_callSi (np := 3) (M' := m_X12_isIn) (As := [.int a1, .int 0, .int 3]) (st := []) 6 dX12_fits_3 rfl rfl km_X12_isIn ks_X12_isIn ml_EncoresModel_56 (by decide) rfl rfl (Nat.le_of_ble_eq_true rfl) (c_X12_isIn N (d + 1) a1 0 3 m) ⟨Nat.le_refl _, Nat.le_refl _⟩ (Or.inl rfl) rfl (fun r_3 m_3 _ => ?_)
  refine ok_if_ne 11 9 dX12_fits_6 (by decide) rfl (fun _ => ?_) (fun _ => ?_)
  · refine ok_iconst 12 0 dX12_fits_11 rfl rfl ?_
    refine ok_istore_n 13 2 [some (.ref 123), some (.int a1), some (.int 0), none, none, none, none] dX12_fits_12 rfl rfl (by decide) rfl ?_
    refine ok_less [some (.ref 123), some (.int a1), some (.int 0), none, none, none, none] (And.intro rfl (And.intro rfl (And.intro rfl (trivial)))) ?_
    exact ok_X12_fits_L13 N d a1  _ (fun mk32 => by
        refine ok_iconst 33 0 dX12_fits_32 rfl rfl ?_
        refine ok_istore_n 34 2 [some (.ref 123), some (.int a1), some (.int 0), none, none, none, none] dX12_fits_33 rfl rfl (by decide) rfl ?_
        refine ok_iconst 35 (-1) dX12_fits_34 rfl rfl ?_
        refine ok_istore_n 36 3 [some (.ref 123), some (.int a1), some (.int 0), some (.int (-1)), none, none, none] dX12_fits_35 rfl rfl (by decide) rfl ?_
        refine ok_iconst 37 (-1) dX12_fits_36 rfl rfl ?_
        refine ok_istore 39 4 [some (.ref 123), some (.int a1), some (.int 0), some (.int (-1)), some (.int (-1)), none, none] dX12_fits_37 rfl (by decide) rfl ?_
        refine ok_iconst 40 0 dX12_fits_39 rfl rfl ?_
        refine ok_istore 42 5 [some (.ref 123), some (.int a1), some (.int 0), some (.int (-1)), some (.int (-1)), some (.int 0), none] dX12_fits_40 rfl (by decide) rfl ?_
        refine ok_less [some (.ref 123), some (.int a1), some (.int 0), some (.int (-1)), some (.int (-1)), some (.int 0), none] (And.intro rfl (And.intro rfl (And.intro rfl (And.intro rfl (And.intro rfl (And.intro rfl (trivial))))))) ?_
        exact ok_X12_fits_L42 N d a1  _ (fun k2_126 k3_126 k4_126 mk126 => by
            refine ok_iload_n 127 1 dX12_fits_126 rfl rfl rfl ?_
            refine ok_tsw 159 [152, 154, 156] dX12_fits_127 (by decide) (by decide) (by decide) rfl ?_ ?_
            · refine And.intro ?_ (And.intro ?_ (And.intro ?_ (trivial)))
              · refine ok_iload_n 153 2 dX12_fits_152 rfl rfl rfl ?_
                exact ok_iret dX12_fits_153 rfl
              · refine ok_iload_n 155 3 dX12_fits_154 rfl rfl rfl ?_
                exact ok_iret dX12_fits_155 rfl
              · refine ok_iload 158 4 dX12_fits_156 rfl rfl ?_
                exact ok_iret dX12_fits_158 rfl
            · refine ok_iload_n 160 2 dX12_fits_159 rfl rfl rfl ?_
              refine ok_iconst 161 2 dX12_fits_160 rfl rfl ?_
              refine ok_icmp_ge 168 164 dX12_fits_161 (by decide) rfl (fun _ => ?_) (fun _ => ?_)
              · refine ok_aload_n 169 0 dX12_fits_168 rfl rfl rfl ?_
                refine ok_iload_n 170 2 dX12_fits_169 rfl rfl rfl ?_
                refine ok_callVi (np := 1) (M' := m_X12_bestAsked) (As := [.int k2_126]) (st := []) 173 dX12_fits_170 rfl rfl km_X12_bestAsked ki_X12_bestAsked kv_X12_bestAsked ml_EncoresModel_411 (by decide) sg_123 rfl (Nat.le_of_ble_eq_true rfl) rfl rfl rfl (Nat.le_of_ble_eq_true rfl) (c_X12_bestAsked N (d + 0) k2_126 mk126) ⟨Nat.le_refl _, Nat.le_refl _⟩ (Or.inl rfl) rfl (fun r_170 m_170 _ => ?_)
                exact ok_iret dX12_fits_173 rfl
              · refine ok_iconst 165 (-1) dX12_fits_164 rfl rfl ?_
                refine ok_goto 173 dX12_fits_165 (by decide) ?_
                exact ok_iret dX12_fits_173 rfl) N 0 (-1) (-1) 0 mk32) N 0 m_3
  · refine ok_iconst 10 (-1) dX12_fits_9 rfl rfl ?_
    exact ok_iret dX12_fits_10 rfl

theorem c_X12_fits (N d : Nat) (a1 : Int32)  (m : Mem) : CM (d + 2) m_X12_fits SG SG [.ref 123, .int a1] m (f_X12_fits N a1 m) :=
  CM.ofOk km_X12_fits ⟨Nat.le_refl _, Nat.le_refl _⟩ (by simp [Value.category]) (Nat.le_of_ble_eq_true rfl) (ok_X12_fits N d a1 m)

def f_X12_nearTo_L19 (N : Nat) (a1 : Int32) (a2 : Int32) (a3 : Int32) (s4_6 : Int32) (s5_6 : Int32) (K72 : Int32 → Mem → Ans) (X : Int32 → Int32 → Mem → Ans) (s6_19 : Int32) (s7_19 : Int32) (m : Mem) : Ans :=
if (m 124 37) ≤ s7_19 then (K72 s6_19 m)
else (if ((s4_6 >>> (s7_19 &&& 31)) &&& (1 : Int32)) = (1 : Int32) then (chk (inb ((185 : Int32) + s7_19) 1707) <|
bnd (s6_19 ||| ((m 124 ((185 : Int32) + s7_19).toNatClampNeg) &&& (a3 ^^^ (-1 : Int32)))) fun a6_64 =>
X a6_64 (s7_19 + 1) m)
else (bnd (s6_19 ||| (0 : Int32)) fun a6_64 =>
X a6_64 (s7_19 + 1) m))

def f_X12_nearTo_L6 (N : Nat) (a1 : Int32) (a2 : Int32) (a3 : Int32)   (X : Int32 → Int32 → Mem → Ans) (s4_6 : Int32) (s5_6 : Int32) (m : Mem) : Ans :=
if a2 ≤ s5_6 then (some (s4_6, m))
else (it2 (f_X12_nearTo_L19 N a1 a2 a3 s4_6 s5_6 (fun k6_72 mk72 => X k6_72 (s5_6 + 1) mk72)) N s4_6 0 m)

def f_X12_nearTo (N : Nat) (a1 : Int32) (a2 : Int32) (a3 : Int32) (m : Mem) : Ans :=
it2 (f_X12_nearTo_L6 N a1 a2 a3 ) N a1 0 m

set_option maxRecDepth 100000 in
set_option maxHeartbeats 4000000 in
theorem ok_X12_nearTo_L19 (N d : Nat) (a1 : Int32) (a2 : Int32) (a3 : Int32)  (s4_6 : Int32) (s5_6 : Int32) (K72 : Int32 → Mem → Ans) (hK72 : ∀ (k6 : Int32) (m : Mem), Ok none SG (d + 0) m_X12_nearTo 72 [some (.ref 123), none, some (.int a2), some (.int a3), none, some (.int s5_6), some (.int k6), none] [] SG m (K72 k6 m)) : ∀ (n : Nat) (s6_19 : Int32) (s7_19 : Int32) (m : Mem), Ok none SG (d + 0) m_X12_nearTo 19 [some (.ref 123), none, some (.int a2), some (.int a3), some (.int s4_6), some (.int s5_6), some (.int s6_19), some (.int s7_19)] [] SG m (it2 (f_X12_nearTo_L19 N a1 a2 a3 s4_6 s5_6 K72) n s6_19 s7_19 m) :=
  ok_it2 (fun s6_19 s7_19 => [some (.ref 123), none, some (.int a2), some (.int a3), some (.int s4_6), some (.int s5_6), some (.int s6_19), some (.int s7_19)]) (fun X hX s6_19 s7_19 m => by
    try unfold f_X12_nearTo_L19
    refine ok_iload 21 7 dX12_nearTo_19 rfl rfl ?_
    refine ok_aload_n 22 0 dX12_nearTo_21 rfl rfl rfl ?_
    refine ok_getR 25 dX12_nearTo_22 rfl rfl F_EncoresModel_7 sg_123 rfl (Nat.le_of_ble_eq_true rfl) rfl rfl ?_
    refine ok_bipush 27 37 dX12_nearTo_25 rfl rfl ?_
    refine ok_ialdc 28 37 dX12_nearTo_27 rfl sg_124 (by decide) (by decide) ?_
    refine ok_icmp_ge 72 31 dX12_nearTo_28 (by decide) rfl (fun _ => ?_) (fun _ => ?_)
    · exact ok_less [some (.ref 123), none, some (.int a2), some (.int a3), none, some (.int s5_6), some (.int s6_19), none] (And.intro rfl (And.intro rfl (And.intro rfl (And.intro rfl (And.intro rfl (trivial)))))) (hK72 s6_19 m)
    · refine ok_iload 33 6 dX12_nearTo_31 rfl rfl ?_
      refine ok_iload 35 4 dX12_nearTo_33 rfl rfl ?_
      refine ok_iload 37 7 dX12_nearTo_35 rfl rfl ?_
      refine ok_ishr 38 dX12_nearTo_37 rfl ?_
      refine ok_iconst 39 1 dX12_nearTo_38 rfl rfl ?_
      refine ok_iand 40 dX12_nearTo_39 rfl ?_
      refine ok_iconst 41 1 dX12_nearTo_40 rfl rfl ?_
      refine ok_icmp_ne 62 44 dX12_nearTo_41 (by decide) rfl (fun _ => ?_) (fun _ => ?_)
      · refine ok_iconst 63 0 dX12_nearTo_62 rfl rfl ?_
        refine ok_ior 64 dX12_nearTo_63 rfl ?_
        refine ok_bndI (fun a6_64 => ?_)
        refine ok_istore 66 6 [some (.ref 123), none, some (.int a2), some (.int a3), some (.int s4_6), some (.int s5_6), some (.int a6_64), some (.int s7_19)] dX12_nearTo_64 rfl (by decide) rfl ?_
        refine ok_iinc 69 7 1 [some (.ref 123), none, some (.int a2), some (.int a3), some (.int s4_6), some (.int s5_6), some (.int a6_64), some (.int (s7_19 + 1))] dX12_nearTo_66 rfl rfl rfl (by decide) rfl ?_
        refine ok_goto 19 dX12_nearTo_69 (by decide) ?_
        exact ok_less [some (.ref 123), none, some (.int a2), some (.int a3), some (.int s4_6), some (.int s5_6), some (.int a6_64), some (.int (s7_19 + 1))] (And.intro rfl (And.intro rfl (And.intro rfl (And.intro rfl (And.intro rfl (And.intro rfl (And.intro rfl (trivial)))))))) (hX a6_64 (s7_19 + 1) m)
      · refine ok_aload_n 45 0 dX12_nearTo_44 rfl rfl rfl ?_
        refine ok_getR 48 dX12_nearTo_45 rfl rfl F_EncoresModel_7 sg_123 rfl (Nat.le_of_ble_eq_true rfl) rfl rfl ?_
        refine ok_sipush 51 185 dX12_nearTo_48 rfl rfl ?_
        refine ok_iload 53 7 dX12_nearTo_51 rfl rfl ?_
        refine ok_iadd 54 dX12_nearTo_53 rfl ?_
        refine ok_iald 55 dX12_nearTo_54 rfl sg_124 ?_
        refine ok_iload_n 56 3 dX12_nearTo_55 rfl rfl rfl ?_
        refine ok_iconst 57 (-1) dX12_nearTo_56 rfl rfl ?_
        refine ok_ixor 58 dX12_nearTo_57 rfl ?_
        refine ok_iand 59 dX12_nearTo_58 rfl ?_
        refine ok_goto 63 dX12_nearTo_59 (by decide) ?_
        refine ok_ior 64 dX12_nearTo_63 rfl ?_
        refine ok_bndI (fun a6_64 => ?_)
        refine ok_istore 66 6 [some (.ref 123), none, some (.int a2), some (.int a3), some (.int s4_6), some (.int s5_6), some (.int a6_64), some (.int s7_19)] dX12_nearTo_64 rfl (by decide) rfl ?_
        refine ok_iinc 69 7 1 [some (.ref 123), none, some (.int a2), some (.int a3), some (.int s4_6), some (.int s5_6), some (.int a6_64), some (.int (s7_19 + 1))] dX12_nearTo_66 rfl rfl rfl (by decide) rfl ?_
        refine ok_goto 19 dX12_nearTo_69 (by decide) ?_
        exact ok_less [some (.ref 123), none, some (.int a2), some (.int a3), some (.int s4_6), some (.int s5_6), some (.int a6_64), some (.int (s7_19 + 1))] (And.intro rfl (And.intro rfl (And.intro rfl (And.intro rfl (And.intro rfl (And.intro rfl (And.intro rfl (trivial)))))))) (hX a6_64 (s7_19 + 1) m))

set_option maxRecDepth 100000 in
set_option maxHeartbeats 4000000 in
theorem ok_X12_nearTo_L6 (N d : Nat) (a1 : Int32) (a2 : Int32) (a3 : Int32)    : ∀ (n : Nat) (s4_6 : Int32) (s5_6 : Int32) (m : Mem), Ok none SG (d + 0) m_X12_nearTo 6 [some (.ref 123), none, some (.int a2), some (.int a3), some (.int s4_6), some (.int s5_6), none, none] [] SG m (it2 (f_X12_nearTo_L6 N a1 a2 a3) n s4_6 s5_6 m) :=
  ok_it2 (fun s4_6 s5_6 => [some (.ref 123), none, some (.int a2), some (.int a3), some (.int s4_6), some (.int s5_6), none, none]) (fun X hX s4_6 s5_6 m => by
    try unfold f_X12_nearTo_L6
    refine ok_iload 8 5 dX12_nearTo_6 rfl rfl ?_
    refine ok_iload_n 9 2 dX12_nearTo_8 rfl rfl rfl ?_
    refine ok_icmp_ge 82 12 dX12_nearTo_9 (by decide) rfl (fun _ => ?_) (fun _ => ?_)
    · refine ok_iload 84 4 dX12_nearTo_82 rfl rfl ?_
      exact ok_iret dX12_nearTo_84 rfl
    · refine ok_iload 14 4 dX12_nearTo_12 rfl rfl ?_
      refine ok_istore 16 6 [some (.ref 123), none, some (.int a2), some (.int a3), some (.int s4_6), some (.int s5_6), some (.int s4_6), none] dX12_nearTo_14 rfl (by decide) rfl ?_
      refine ok_iconst 17 0 dX12_nearTo_16 rfl rfl ?_
      refine ok_istore 19 7 [some (.ref 123), none, some (.int a2), some (.int a3), some (.int s4_6), some (.int s5_6), some (.int s4_6), some (.int 0)] dX12_nearTo_17 rfl (by decide) rfl ?_
      refine ok_less [some (.ref 123), none, some (.int a2), some (.int a3), some (.int s4_6), some (.int s5_6), some (.int s4_6), some (.int 0)] (And.intro rfl (And.intro rfl (And.intro rfl (And.intro rfl (And.intro rfl (And.intro rfl (And.intro rfl (trivial)))))))) ?_
      exact ok_X12_nearTo_L19 N d a1 a2 a3 s4_6 s5_6 _ (fun k6_72 mk72 => by
          refine ok_iload 74 6 dX12_nearTo_72 rfl rfl ?_
          refine ok_istore 76 4 [some (.ref 123), none, some (.int a2), some (.int a3), some (.int k6_72), some (.int s5_6), some (.int k6_72), none] dX12_nearTo_74 rfl (by decide) rfl ?_
          refine ok_iinc 79 5 1 [some (.ref 123), none, some (.int a2), some (.int a3), some (.int k6_72), some (.int (s5_6 + 1)), some (.int k6_72), none] dX12_nearTo_76 rfl rfl rfl (by decide) rfl ?_
          refine ok_goto 6 dX12_nearTo_79 (by decide) ?_
          exact ok_less [some (.ref 123), none, some (.int a2), some (.int a3), some (.int k6_72), some (.int (s5_6 + 1)), none, none] (And.intro rfl (And.intro rfl (And.intro rfl (And.intro rfl (And.intro rfl (trivial)))))) (hX k6_72 (s5_6 + 1) mk72)) N s4_6 0 m)

set_option maxRecDepth 100000 in
set_option maxHeartbeats 4000000 in
theorem ok_X12_nearTo (N d : Nat) (a1 : Int32) (a2 : Int32) (a3 : Int32)  (m : Mem) : Ok none SG (d + 0) m_X12_nearTo 0 [some (.ref 123), some (.int a1), some (.int a2), some (.int a3), none, none, none, none] [] SG m (f_X12_nearTo N a1 a2 a3 m) := by
  unfold f_X12_nearTo
  refine ok_iload_n 1 1 dX12_nearTo_0 rfl rfl rfl ?_
  refine ok_istore 3 4 [some (.ref 123), some (.int a1), some (.int a2), some (.int a3), some (.int a1), none, none, none] dX12_nearTo_1 rfl (by decide) rfl ?_
  refine ok_iconst 4 0 dX12_nearTo_3 rfl rfl ?_
  refine ok_istore 6 5 [some (.ref 123), some (.int a1), some (.int a2), some (.int a3), some (.int a1), some (.int 0), none, none] dX12_nearTo_4 rfl (by decide) rfl ?_
  refine ok_less [some (.ref 123), none, some (.int a2), some (.int a3), some (.int a1), some (.int 0), none, none] (And.intro rfl (And.intro rfl (And.intro rfl (And.intro rfl (And.intro rfl (trivial)))))) ?_
  exact ok_X12_nearTo_L6 N d a1 a2 a3    N a1 0 m

theorem c_X12_nearTo (N d : Nat) (a1 : Int32) (a2 : Int32) (a3 : Int32)  (m : Mem) : CM (d + 0) m_X12_nearTo SG SG [.ref 123, .int a1, .int a2, .int a3] m (f_X12_nearTo N a1 a2 a3 m) :=
  CM.ofOk km_X12_nearTo ⟨Nat.le_refl _, Nat.le_refl _⟩ (by simp [Value.category]) (Nat.le_of_ble_eq_true rfl) (ok_X12_nearTo N d a1 a2 a3 m)

def f_X12_near (N : Nat) (a1 : Int32) (a2 : Int32) (m : Mem) : Ans :=
bd (f_X12_isHearer N a1 m) fun r_2 m_2 =>
if r_2 = 0 then (some ((-1), m_2))
else (bd (f_X12_isIn N a2 0 12 m_2) fun r_12 m_12 =>
if r_12 = 0 then (some ((-1), m_12))
else (bd (f_X12_nearTo N ((1 : Int32) <<< (a1 &&& 31)) a2 0 m_12) fun r_24 m_24 =>
some (r_24, m_24)))

set_option maxRecDepth 100000 in
set_option maxHeartbeats 4000000 in
theorem ok_X12_near (N d : Nat) (a1 : Int32) (a2 : Int32)  (m : Mem) : Ok none SG (d + 2) m_X12_near 0 [some (.ref 123), some (.int a1), some (.int a2)] [] SG m (f_X12_near N a1 a2 m) := by
  unfold f_X12_near
  refine ok_aload_n 1 0 dX12_near_0 rfl rfl rfl ?_
  refine ok_iload_n 2 1 dX12_near_1 rfl rfl rfl ?_
  refine ok_callVi (np := 1) (M' := m_X12_isHearer) (As := [.int a1]) (st := []) 5 dX12_near_2 rfl rfl km_X12_isHearer ki_X12_isHearer kv_X12_isHearer ml_EncoresModel_68 (by decide) sg_123 rfl (Nat.le_of_ble_eq_true rfl) rfl rfl rfl (Nat.le_of_ble_eq_true rfl) (c_X12_isHearer N (d + 0) a1 m) ⟨Nat.le_refl _, Nat.le_refl _⟩ (Or.inl rfl) rfl (fun r_2 m_2 _ => ?_)
  refine ok_if_eq 30 8 dX12_near_5 (by decide) rfl (fun _ => ?_) (fun _ => ?_)
  · refine ok_iconst 31 (-1) dX12_near_30 rfl rfl ?_
    exact ok_iret dX12_near_31 rfl
  · refine ok_iload_n 9 2 dX12_near_8 rfl rfl rfl ?_
    refine ok_iconst 10 0 dX12_near_9 rfl rfl ?_
    refine ok_bipush 12 12 dX12_near_10 rfl rfl ?_
    refine ok_callSi (np := 3) (M' := m_X12_isIn) (As := [.int a2, .int 0, .int 12]) (st := []) 15 dX12_near_12 rfl rfl km_X12_isIn ks_X12_isIn ml_EncoresModel_56 (by decide) rfl rfl (Nat.le_of_ble_eq_true rfl) (c_X12_isIn N (d + 1) a2 0 12 m_2) ⟨Nat.le_refl _, Nat.le_refl _⟩ (Or.inl rfl) rfl (fun r_12 m_12 _ => ?_)
    refine ok_if_eq 30 18 dX12_near_15 (by decide) rfl (fun _ => ?_) (fun _ => ?_)
    · refine ok_iconst 31 (-1) dX12_near_30 rfl rfl ?_
      exact ok_iret dX12_near_31 rfl
    · refine ok_aload_n 19 0 dX12_near_18 rfl rfl rfl ?_
      refine ok_iconst 20 1 dX12_near_19 rfl rfl ?_
      refine ok_iload_n 21 1 dX12_near_20 rfl rfl rfl ?_
      refine ok_ishl 22 dX12_near_21 rfl ?_
      refine ok_iload_n 23 2 dX12_near_22 rfl rfl rfl ?_
      refine ok_iconst 24 0 dX12_near_23 rfl rfl ?_
      refine ok_callVi (np := 3) (M' := m_X12_nearTo) (As := [.int ((1 : Int32) <<< (a1 &&& 31)), .int a2, .int 0]) (st := []) 27 dX12_near_24 rfl rfl km_X12_nearTo ki_X12_nearTo kv_X12_nearTo ml_EncoresModel_414 (by decide) sg_123 rfl (Nat.le_of_ble_eq_true rfl) rfl rfl rfl (Nat.le_of_ble_eq_true rfl) (c_X12_nearTo N (d + 1) ((1 : Int32) <<< (a1 &&& 31)) a2 0 m_12) ⟨Nat.le_refl _, Nat.le_refl _⟩ (Or.inl rfl) rfl (fun r_24 m_24 _ => ?_)
      refine ok_goto 31 dX12_near_27 (by decide) ?_
      exact ok_iret dX12_near_31 rfl

theorem c_X12_near (N d : Nat) (a1 : Int32) (a2 : Int32)  (m : Mem) : CM (d + 2) m_X12_near SG SG [.ref 123, .int a1, .int a2] m (f_X12_near N a1 a2 m) :=
  CM.ofOk km_X12_near ⟨Nat.le_refl _, Nat.le_refl _⟩ (by simp [Value.category]) (Nat.le_of_ble_eq_true rfl) (ok_X12_near N d a1 a2 m)

def f_X12_cuts_J112 (N : Nat) (a1 : Int32) (a2 : Int32) (a3 : Int32) (a4_57 : Int32)  (X : Int32 → Int32 → Mem → Ans) (s5_112 : Int32) (s6_112 : Int32) (m : Mem) : Ans :=
bd (f_X12_nearTo N ((1 : Int32) <<< (a1 &&& 31)) 12 ((s6_112 ||| (m 124 8)) &&& (a4_57 ^^^ (-1 : Int32))) m) fun r_133 m_133 =>
if ((r_133 >>> (a2 &&& 31)) &&& (1 : Int32)) = 0 then (X s6_112 (s6_112 + 1) m_133)
else (X s5_112 (s6_112 + 1) m_133)

def f_X12_cuts_L65 (N : Nat) (a1 : Int32) (a2 : Int32) (a3 : Int32) (a4_57 : Int32)  (X : Int32 → Int32 → Mem → Ans) (s5_65 : Int32) (s6_65 : Int32) (m : Mem) : Ans :=
bd (f_X12_allHearers N m) fun r_68 m_68 =>
if r_68 < s6_65 then (if a3 = 0 then (bd (f_X12_count N s5_65 m_68) fun r_159 m_159 =>
some (r_159, m_159))
else (some (s5_65, m_68)))
else (if (s6_65 &&& (a4_57 ||| (m_68 124 8))) = 0 then (if s5_65 = (-1 : Int32) then (f_X12_cuts_J112 N a1 a2 a3 a4_57  X s5_65 s6_65 m_68)
else (bd (f_X12_count N s6_65 m_68) fun r_98 m_98 =>
bd (f_X12_count N s5_65 m_98) fun r_103 m_103 =>
if r_98 < r_103 then (f_X12_cuts_J112 N a1 a2 a3 a4_57  X s5_65 s6_65 m_103)
else (X s5_65 (s6_65 + 1) m_103)))
else (X s5_65 (s6_65 + 1) m_68))

def f_X12_cuts (N : Nat) (a1 : Int32) (a2 : Int32) (a3 : Int32) (m : Mem) : Ans :=
bd (f_X12_isHearer N a1 m) fun r_2 m_2 =>
if r_2 = 0 then (some ((-1), m_2))
else (bd (f_X12_isHearer N a2 m_2) fun r_10 m_10 =>
if r_10 = 0 then (some ((-1), m_10))
else (if a1 = a2 then (some ((-1), m_10))
else (bd (f_X12_isIn N a3 0 1 m_10) fun r_24 m_24 =>
if r_24 = 0 then (some ((-1), m_24))
else (chk (inb ((185 : Int32) + a1) 1707) <|
if (((m_24 124 ((185 : Int32) + a1).toNatClampNeg) >>> (a2 &&& 31)) &&& (1 : Int32)) = (1 : Int32) then (some ((-1), m_24))
else (bnd (((1 : Int32) <<< (a1 &&& 31)) ||| ((1 : Int32) <<< (a2 &&& 31))) fun a4_57 =>
it2 (f_X12_cuts_L65 N a1 a2 a3 a4_57 ) N (-1) 0 m_24)))))

set_option maxRecDepth 100000 in
set_option maxHeartbeats 4000000 in
theorem ok_X12_cuts_J112 (N d : Nat) (a1 : Int32) (a2 : Int32) (a3 : Int32)  (a4_57 : Int32)  (X : Int32 → Int32 → Mem → Ans) (hX : ∀ (k5 : Int32) (k6 : Int32) (m : Mem), Ok none SG (d + 2) m_X12_cuts 65 [some (.ref 123), some (.int a1), some (.int a2), some (.int a3), some (.int a4_57), some (.int k5), some (.int k6)] [] SG m (X k5 k6 m)) (s5_112 : Int32) (s6_112 : Int32) (m : Mem) : Ok none SG (d + 2) m_X12_cuts 112 [some (.ref 123), some (.int a1), some (.int a2), some (.int a3), some (.int a4_57), some (.int s5_112), some (.int s6_112)] [] SG m (f_X12_cuts_J112 N a1 a2 a3 a4_57  X s5_112 s6_112 m) := by
  unfold f_X12_cuts_J112
  refine ok_aload_n 113 0 dX12_cuts_112 rfl rfl rfl ?_
  refine ok_iconst 114 1 dX12_cuts_113 rfl rfl ?_
  refine ok_iload_n 115 1 dX12_cuts_114 rfl rfl rfl ?_
  refine ok_ishl 116 dX12_cuts_115 rfl ?_
  refine ok_bipush 118 12 dX12_cuts_116 rfl rfl ?_
  refine ok_iload 120 6 dX12_cuts_118 rfl rfl ?_
  refine ok_aload_n 121 0 dX12_cuts_120 rfl rfl rfl ?_
  refine ok_getR 124 dX12_cuts_121 rfl rfl F_EncoresModel_7 sg_123 rfl (Nat.le_of_ble_eq_true rfl) rfl rfl ?_
  refine ok_bipush 126 8 dX12_cuts_124 rfl rfl ?_
  refine ok_ialdc 127 8 dX12_cuts_126 rfl sg_124 (by decide) (by decide) ?_
  refine ok_ior 128 dX12_cuts_127 rfl ?_
  refine ok_iload 130 4 dX12_cuts_128 rfl rfl ?_
  refine ok_iconst 131 (-1) dX12_cuts_130 rfl rfl ?_
  refine ok_ixor 132 dX12_cuts_131 rfl ?_
  refine ok_iand 133 dX12_cuts_132 rfl ?_
  refine ok_callVi (np := 3) (M' := m_X12_nearTo) (As := [.int ((1 : Int32) <<< (a1 &&& 31)), .int 12, .int ((s6_112 ||| (m 124 8)) &&& (a4_57 ^^^ (-1 : Int32)))]) (st := []) 136 dX12_cuts_133 rfl rfl km_X12_nearTo ki_X12_nearTo kv_X12_nearTo ml_EncoresModel_414 (by decide) sg_123 rfl (Nat.le_of_ble_eq_true rfl) rfl rfl rfl (Nat.le_of_ble_eq_true rfl) (c_X12_nearTo N (d + 1) ((1 : Int32) <<< (a1 &&& 31)) 12 ((s6_112 ||| (m 124 8)) &&& (a4_57 ^^^ (-1 : Int32))) m) ⟨Nat.le_refl _, Nat.le_refl _⟩ (Or.inl rfl) rfl (fun r_133 m_133 _ => ?_)
  refine ok_iload_n 137 2 dX12_cuts_136 rfl rfl rfl ?_
  refine ok_ishr 138 dX12_cuts_137 rfl ?_
  refine ok_iconst 139 1 dX12_cuts_138 rfl rfl ?_
  refine ok_iand 140 dX12_cuts_139 rfl ?_
  refine ok_if_ne 147 143 dX12_cuts_140 (by decide) rfl (fun _ => ?_) (fun _ => ?_)
  · refine ok_iinc 150 6 1 [some (.ref 123), some (.int a1), some (.int a2), some (.int a3), some (.int a4_57), some (.int s5_112), some (.int (s6_112 + 1))] dX12_cuts_147 rfl rfl rfl (by decide) rfl ?_
    refine ok_goto 65 dX12_cuts_150 (by decide) ?_
    exact ok_less [some (.ref 123), some (.int a1), some (.int a2), some (.int a3), some (.int a4_57), some (.int s5_112), some (.int (s6_112 + 1))] (And.intro rfl (And.intro rfl (And.intro rfl (And.intro rfl (And.intro rfl (And.intro rfl (And.intro rfl (trivial)))))))) (hX s5_112 (s6_112 + 1) m_133)
  · refine ok_iload 145 6 dX12_cuts_143 rfl rfl ?_
    refine ok_istore 147 5 [some (.ref 123), some (.int a1), some (.int a2), some (.int a3), some (.int a4_57), some (.int s6_112), some (.int s6_112)] dX12_cuts_145 rfl (by decide) rfl ?_
    refine ok_iinc 150 6 1 [some (.ref 123), some (.int a1), some (.int a2), some (.int a3), some (.int a4_57), some (.int s6_112), some (.int (s6_112 + 1))] dX12_cuts_147 rfl rfl rfl (by decide) rfl ?_
    refine ok_goto 65 dX12_cuts_150 (by decide) ?_
    exact ok_less [some (.ref 123), some (.int a1), some (.int a2), some (.int a3), some (.int a4_57), some (.int s6_112), some (.int (s6_112 + 1))] (And.intro rfl (And.intro rfl (And.intro rfl (And.intro rfl (And.intro rfl (And.intro rfl (And.intro rfl (trivial)))))))) (hX s6_112 (s6_112 + 1) m_133)

set_option maxRecDepth 100000 in
set_option maxHeartbeats 4000000 in
theorem ok_X12_cuts_L65 (N d : Nat) (a1 : Int32) (a2 : Int32) (a3 : Int32)  (a4_57 : Int32)  : ∀ (n : Nat) (s5_65 : Int32) (s6_65 : Int32) (m : Mem), Ok none SG (d + 2) m_X12_cuts 65 [some (.ref 123), some (.int a1), some (.int a2), some (.int a3), some (.int a4_57), some (.int s5_65), some (.int s6_65)] [] SG m (it2 (f_X12_cuts_L65 N a1 a2 a3 a4_57) n s5_65 s6_65 m) :=
  ok_it2 (fun s5_65 s6_65 => [some (.ref 123), some (.int a1), some (.int a2), some (.int a3), some (.int a4_57), some (.int s5_65), some (.int s6_65)]) (fun X hX s5_65 s6_65 m => by
    try unfold f_X12_cuts_L65
    refine ok_iload 67 6 dX12_cuts_65 rfl rfl ?_
    refine ok_aload_n 68 0 dX12_cuts_67 rfl rfl rfl ?_
    refine ok_callVi (np := 0) (M' := m_X12_allHearers) (As := []) (st := [.int s6_65]) 71 dX12_cuts_68 rfl rfl km_X12_allHearers ki_X12_allHearers kv_X12_allHearers ml_EncoresModel_405 (by decide) sg_123 rfl (Nat.le_of_ble_eq_true rfl) rfl rfl rfl (Nat.le_of_ble_eq_true rfl) (c_X12_allHearers N (d + 1) m) ⟨Nat.le_refl _, Nat.le_refl _⟩ (Or.inl rfl) rfl (fun r_68 m_68 _ => ?_)
    refine ok_icmp_gt 153 74 dX12_cuts_71 (by decide) rfl (fun _ => ?_) (fun _ => ?_)
    · refine ok_iload_n 154 3 dX12_cuts_153 rfl rfl rfl ?_
      refine ok_if_ne 165 157 dX12_cuts_154 (by decide) rfl (fun _ => ?_) (fun _ => ?_)
      · refine ok_iload 167 5 dX12_cuts_165 rfl rfl ?_
        exact ok_iret dX12_cuts_167 rfl
      · refine ok_iload 159 5 dX12_cuts_157 rfl rfl ?_
        refine ok_callSi (np := 1) (M' := m_X12_count) (As := [.int s5_65]) (st := []) 162 dX12_cuts_159 rfl rfl km_X12_count ks_X12_count ml_EncoresModel_319 (by decide) rfl rfl (Nat.le_of_ble_eq_true rfl) (c_X12_count N (d + 1) s5_65 m_68) ⟨Nat.le_refl _, Nat.le_refl _⟩ (Or.inl rfl) rfl (fun r_159 m_159 _ => ?_)
        refine ok_goto 167 dX12_cuts_162 (by decide) ?_
        exact ok_iret dX12_cuts_167 rfl
    · refine ok_iload 76 6 dX12_cuts_74 rfl rfl ?_
      refine ok_iload 78 4 dX12_cuts_76 rfl rfl ?_
      refine ok_aload_n 79 0 dX12_cuts_78 rfl rfl rfl ?_
      refine ok_getR 82 dX12_cuts_79 rfl rfl F_EncoresModel_7 sg_123 rfl (Nat.le_of_ble_eq_true rfl) rfl rfl ?_
      refine ok_bipush 84 8 dX12_cuts_82 rfl rfl ?_
      refine ok_ialdc 85 8 dX12_cuts_84 rfl sg_124 (by decide) (by decide) ?_
      refine ok_ior 86 dX12_cuts_85 rfl ?_
      refine ok_iand 87 dX12_cuts_86 rfl ?_
      refine ok_if_ne 147 90 dX12_cuts_87 (by decide) rfl (fun _ => ?_) (fun _ => ?_)
      · refine ok_iinc 150 6 1 [some (.ref 123), some (.int a1), some (.int a2), some (.int a3), some (.int a4_57), some (.int s5_65), some (.int (s6_65 + 1))] dX12_cuts_147 rfl rfl rfl (by decide) rfl ?_
        refine ok_goto 65 dX12_cuts_150 (by decide) ?_
        exact ok_less [some (.ref 123), some (.int a1), some (.int a2), some (.int a3), some (.int a4_57), some (.int s5_65), some (.int (s6_65 + 1))] (And.intro rfl (And.intro rfl (And.intro rfl (And.intro rfl (And.intro rfl (And.intro rfl (And.intro rfl (trivial)))))))) (hX s5_65 (s6_65 + 1) m_68)
      · refine ok_iload 92 5 dX12_cuts_90 rfl rfl ?_
        refine ok_iconst 93 (-1) dX12_cuts_92 rfl rfl ?_
        refine ok_icmp_eq 112 96 dX12_cuts_93 (by decide) rfl (fun _ => ?_) (fun _ => ?_)
        · exact ok_less [some (.ref 123), some (.int a1), some (.int a2), some (.int a3), some (.int a4_57), some (.int s5_65), some (.int s6_65)] (And.intro rfl (And.intro rfl (And.intro rfl (And.intro rfl (And.intro rfl (And.intro rfl (And.intro rfl (trivial)))))))) (ok_X12_cuts_J112 N d a1 a2 a3 a4_57  X hX s5_65 s6_65 m_68)
        · refine ok_iload 98 6 dX12_cuts_96 rfl rfl ?_
          refine ok_callSi (np := 1) (M' := m_X12_count) (As := [.int s6_65]) (st := []) 101 dX12_cuts_98 rfl rfl km_X12_count ks_X12_count ml_EncoresModel_319 (by decide) rfl rfl (Nat.le_of_ble_eq_true rfl) (c_X12_count N (d + 1) s6_65 m_68) ⟨Nat.le_refl _, Nat.le_refl _⟩ (Or.inl rfl) rfl (fun r_98 m_98 _ => ?_)
          refine ok_iload 103 5 dX12_cuts_101 rfl rfl ?_
          refine ok_callSi (np := 1) (M' := m_X12_count) (As := [.int s5_65]) (st := [.int r_98]) 106 dX12_cuts_103 rfl rfl km_X12_count ks_X12_count ml_EncoresModel_319 (by decide) rfl rfl (Nat.le_of_ble_eq_true rfl) (c_X12_count N (d + 1) s5_65 m_98) ⟨Nat.le_refl _, Nat.le_refl _⟩ (Or.inl rfl) rfl (fun r_103 m_103 _ => ?_)
          refine ok_icmp_lt 112 109 dX12_cuts_106 (by decide) rfl (fun _ => ?_) (fun _ => ?_)
          · exact ok_less [some (.ref 123), some (.int a1), some (.int a2), some (.int a3), some (.int a4_57), some (.int s5_65), some (.int s6_65)] (And.intro rfl (And.intro rfl (And.intro rfl (And.intro rfl (And.intro rfl (And.intro rfl (And.intro rfl (trivial)))))))) (ok_X12_cuts_J112 N d a1 a2 a3 a4_57  X hX s5_65 s6_65 m_103)
          · refine ok_goto 147 dX12_cuts_109 (by decide) ?_
            refine ok_iinc 150 6 1 [some (.ref 123), some (.int a1), some (.int a2), some (.int a3), some (.int a4_57), some (.int s5_65), some (.int (s6_65 + 1))] dX12_cuts_147 rfl rfl rfl (by decide) rfl ?_
            refine ok_goto 65 dX12_cuts_150 (by decide) ?_
            exact ok_less [some (.ref 123), some (.int a1), some (.int a2), some (.int a3), some (.int a4_57), some (.int s5_65), some (.int (s6_65 + 1))] (And.intro rfl (And.intro rfl (And.intro rfl (And.intro rfl (And.intro rfl (And.intro rfl (And.intro rfl (trivial)))))))) (hX s5_65 (s6_65 + 1) m_103))

set_option maxRecDepth 100000 in
set_option maxHeartbeats 4000000 in
theorem ok_X12_cuts (N d : Nat) (a1 : Int32) (a2 : Int32) (a3 : Int32)  (m : Mem) : Ok none SG (d + 2) m_X12_cuts 0 [some (.ref 123), some (.int a1), some (.int a2), some (.int a3), none, none, none] [] SG m (f_X12_cuts N a1 a2 a3 m) := by
  unfold f_X12_cuts
  refine ok_aload_n 1 0 dX12_cuts_0 rfl rfl rfl ?_
  refine ok_iload_n 2 1 dX12_cuts_1 rfl rfl rfl ?_
  refine ok_callVi (np := 1) (M' := m_X12_isHearer) (As := [.int a1]) (st := []) 5 dX12_cuts_2 rfl rfl km_X12_isHearer ki_X12_isHearer kv_X12_isHearer ml_EncoresModel_68 (by decide) sg_123 rfl (Nat.le_of_ble_eq_true rfl) rfl rfl rfl (Nat.le_of_ble_eq_true rfl) (c_X12_isHearer N (d + 0) a1 m) ⟨Nat.le_refl _, Nat.le_refl _⟩ (Or.inl rfl) rfl (fun r_2 m_2 _ => ?_)
  refine ok_if_eq 48 8 dX12_cuts_5 (by decide) rfl (fun _ => ?_) (fun _ => ?_)
  · refine ok_iconst 49 (-1) dX12_cuts_48 rfl rfl ?_
    exact ok_iret dX12_cuts_49 rfl
  · refine ok_aload_n 9 0 dX12_cuts_8 rfl rfl rfl ?_
    refine ok_iload_n 10 2 dX12_cuts_9 rfl rfl rfl ?_
    refine ok_callVi (np := 1) (M' := m_X12_isHearer) (As := [.int a2]) (st := []) 13 dX12_cuts_10 rfl rfl km_X12_isHearer ki_X12_isHearer kv_X12_isHearer ml_EncoresModel_68 (by decide) sg_123 rfl (Nat.le_of_ble_eq_true rfl) rfl rfl rfl (Nat.le_of_ble_eq_true rfl) (c_X12_isHearer N (d + 0) a2 m_2) ⟨Nat.le_refl _, Nat.le_refl _⟩ (Or.inl rfl) rfl (fun r_10 m_10 _ => ?_)
    refine ok_if_eq 48 16 dX12_cuts_13 (by decide) rfl (fun _ => ?_) (fun _ => ?_)
    · refine ok_iconst 49 (-1) dX12_cuts_48 rfl rfl ?_
      exact ok_iret dX12_cuts_49 rfl
    · refine ok_iload_n 17 1 dX12_cuts_16 rfl rfl rfl ?_
      refine ok_iload_n 18 2 dX12_cuts_17 rfl rfl rfl ?_
      refine ok_icmp_eq 48 21 dX12_cuts_18 (by decide) rfl (fun _ => ?_) (fun _ => ?_)
      · refine ok_iconst 49 (-1) dX12_cuts_48 rfl rfl ?_
        exact ok_iret dX12_cuts_49 rfl
      · refine ok_iload_n 22 3 dX12_cuts_21 rfl rfl rfl ?_
        refine ok_iconst 23 0 dX12_cuts_22 rfl rfl ?_
        refine ok_iconst 24 1 dX12_cuts_23 rfl rfl ?_
        refine ok_callSi (np := 3) (M' := m_X12_isIn) (As := [.int a3, .int 0, .int 1]) (st := []) 27 dX12_cuts_24 rfl rfl km_X12_isIn ks_X12_isIn ml_EncoresModel_56 (by decide) rfl rfl (Nat.le_of_ble_eq_true rfl) (c_X12_isIn N (d + 1) a3 0 1 m_10) ⟨Nat.le_refl _, Nat.le_refl _⟩ (Or.inl rfl) rfl (fun r_24 m_24 _ => ?_)
        refine ok_if_eq 48 30 dX12_cuts_27 (by decide) rfl (fun _ => ?_) (fun _ => ?_)
        · refine ok_iconst 49 (-1) dX12_cuts_48 rfl rfl ?_
          exact ok_iret dX12_cuts_49 rfl
        · refine ok_aload_n 31 0 dX12_cuts_30 rfl rfl rfl ?_
          refine ok_getR 34 dX12_cuts_31 rfl rfl F_EncoresModel_7 sg_123 rfl (Nat.le_of_ble_eq_true rfl) rfl rfl ?_
          refine ok_sipush 37 185 dX12_cuts_34 rfl rfl ?_
          refine ok_iload_n 38 1 dX12_cuts_37 rfl rfl rfl ?_
          refine ok_iadd 39 dX12_cuts_38 rfl ?_
          refine ok_iald 40 dX12_cuts_39 rfl sg_124 ?_
          refine ok_iload_n 41 2 dX12_cuts_40 rfl rfl rfl ?_
          refine ok_ishr 42 dX12_cuts_41 rfl ?_
          refine ok_iconst 43 1 dX12_cuts_42 rfl rfl ?_
          refine ok_iand 44 dX12_cuts_43 rfl ?_
          refine ok_iconst 45 1 dX12_cuts_44 rfl rfl ?_
          refine ok_icmp_ne 50 48 dX12_cuts_45 (by decide) rfl (fun _ => ?_) (fun _ => ?_)
          · refine ok_iconst 51 1 dX12_cuts_50 rfl rfl ?_
            refine ok_iload_n 52 1 dX12_cuts_51 rfl rfl rfl ?_
            refine ok_ishl 53 dX12_cuts_52 rfl ?_
            refine ok_iconst 54 1 dX12_cuts_53 rfl rfl ?_
            refine ok_iload_n 55 2 dX12_cuts_54 rfl rfl rfl ?_
            refine ok_ishl 56 dX12_cuts_55 rfl ?_
            refine ok_ior 57 dX12_cuts_56 rfl ?_
            refine ok_bndI (fun a4_57 => ?_)
            refine ok_istore 59 4 [some (.ref 123), some (.int a1), some (.int a2), some (.int a3), some (.int a4_57), none, none] dX12_cuts_57 rfl (by decide) rfl ?_
            refine ok_iconst 60 (-1) dX12_cuts_59 rfl rfl ?_
            refine ok_istore 62 5 [some (.ref 123), some (.int a1), some (.int a2), some (.int a3), some (.int a4_57), some (.int (-1)), none] dX12_cuts_60 rfl (by decide) rfl ?_
            refine ok_iconst 63 0 dX12_cuts_62 rfl rfl ?_
            refine ok_istore 65 6 [some (.ref 123), some (.int a1), some (.int a2), some (.int a3), some (.int a4_57), some (.int (-1)), some (.int 0)] dX12_cuts_63 rfl (by decide) rfl ?_
            refine ok_less [some (.ref 123), some (.int a1), some (.int a2), some (.int a3), some (.int a4_57), some (.int (-1)), some (.int 0)] (And.intro rfl (And.intro rfl (And.intro rfl (And.intro rfl (And.intro rfl (And.intro rfl (And.intro rfl (trivial)))))))) ?_
            exact ok_X12_cuts_L65 N d a1 a2 a3 a4_57   N (-1) 0 m_24
          · refine ok_iconst 49 (-1) dX12_cuts_48 rfl rfl ?_
            exact ok_iret dX12_cuts_49 rfl

theorem c_X12_cuts (N d : Nat) (a1 : Int32) (a2 : Int32) (a3 : Int32)  (m : Mem) : CM (d + 2) m_X12_cuts SG SG [.ref 123, .int a1, .int a2, .int a3] m (f_X12_cuts N a1 a2 a3 m) :=
  CM.ofOk km_X12_cuts ⟨Nat.le_refl _, Nat.le_refl _⟩ (by simp [Value.category]) (Nat.le_of_ble_eq_true rfl) (ok_X12_cuts N d a1 a2 a3 m)

def f_X12_groups_L24 (N : Nat) (a1 : Int32)   (X : Int32 → Int32 → Int32 → Int32 → Mem → Ans) (s2_24 : Int32) (s3_24 : Int32) (s4_24 : Int32) (s5_24 : Int32) (m : Mem) : Ans :=
if (m 124 37) ≤ s5_24 then (if a1 = 0 then (some (s3_24, m))
else (some (s4_24, m)))
else (if ((s2_24 >>> (s5_24 &&& 31)) &&& (1 : Int32)) = 0 then (X s2_24 s3_24 s4_24 (s5_24 + 1) m)
else (bd (f_X12_nearTo N ((1 : Int32) <<< (s5_24 &&& 31)) 12 0 m) fun r_56 m_56 =>
bnd (s2_24 &&& (r_56 ^^^ (-1 : Int32))) fun a2_67 =>
bd (f_X12_count N r_56 m_56) fun r_73 m_73 =>
bd (f_X12_count N s4_24 m_73) fun r_78 m_78 =>
if r_73 ≤ r_78 then (X a2_67 (s3_24 + 1) s4_24 (s5_24 + 1) m_78)
else (X a2_67 (s3_24 + 1) r_56 (s5_24 + 1) m_78)))

def f_X12_groups (N : Nat) (a1 : Int32) (m : Mem) : Ans :=
bd (f_X12_isIn N a1 0 1 m) fun r_3 m_3 =>
if r_3 = 0 then (some ((-1), m_3))
else (bd (f_X12_allHearers N m_3) fun r_12 m_12 =>
it4 (f_X12_groups_L24 N a1 ) N r_12 0 0 0 m_12)

set_option maxRecDepth 100000 in
set_option maxHeartbeats 4000000 in
theorem ok_X12_groups_L24 (N d : Nat) (a1 : Int32)    : ∀ (n : Nat) (s2_24 : Int32) (s3_24 : Int32) (s4_24 : Int32) (s5_24 : Int32) (m : Mem), Ok none SG (d + 1) m_X12_groups 24 [some (.ref 123), some (.int a1), some (.int s2_24), some (.int s3_24), some (.int s4_24), some (.int s5_24), none] [] SG m (it4 (f_X12_groups_L24 N a1) n s2_24 s3_24 s4_24 s5_24 m) :=
  ok_it4 (fun s2_24 s3_24 s4_24 s5_24 => [some (.ref 123), some (.int a1), some (.int s2_24), some (.int s3_24), some (.int s4_24), some (.int s5_24), none]) (fun X hX s2_24 s3_24 s4_24 s5_24 m => by
    try unfold f_X12_groups_L24
    refine ok_iload 26 5 dX12_groups_24 rfl rfl ?_
    refine ok_aload_n 27 0 dX12_groups_26 rfl rfl rfl ?_
    refine ok_getR 30 dX12_groups_27 rfl rfl F_EncoresModel_7 sg_123 rfl (Nat.le_of_ble_eq_true rfl) rfl rfl ?_
    refine ok_bipush 32 37 dX12_groups_30 rfl rfl ?_
    refine ok_ialdc 33 37 dX12_groups_32 rfl sg_124 (by decide) (by decide) ?_
    refine ok_icmp_ge 99 36 dX12_groups_33 (by decide) rfl (fun _ => ?_) (fun _ => ?_)
    · refine ok_iload_n 100 1 dX12_groups_99 rfl rfl rfl ?_
      refine ok_if_ne 107 103 dX12_groups_100 (by decide) rfl (fun _ => ?_) (fun _ => ?_)
      · refine ok_iload 109 4 dX12_groups_107 rfl rfl ?_
        exact ok_iret dX12_groups_109 rfl
      · refine ok_iload_n 104 3 dX12_groups_103 rfl rfl rfl ?_
        refine ok_goto 109 dX12_groups_104 (by decide) ?_
        exact ok_iret dX12_groups_109 rfl
    · refine ok_iload_n 37 2 dX12_groups_36 rfl rfl rfl ?_
      refine ok_iload 39 5 dX12_groups_37 rfl rfl ?_
      refine ok_ishr 40 dX12_groups_39 rfl ?_
      refine ok_iconst 41 1 dX12_groups_40 rfl rfl ?_
      refine ok_iand 42 dX12_groups_41 rfl ?_
      refine ok_if_ne 48 45 dX12_groups_42 (by decide) rfl (fun _ => ?_) (fun _ => ?_)
      · refine ok_aload_n 49 0 dX12_groups_48 rfl rfl rfl ?_
        refine ok_iconst 50 1 dX12_groups_49 rfl rfl ?_
        refine ok_iload 52 5 dX12_groups_50 rfl rfl ?_
        refine ok_ishl 53 dX12_groups_52 rfl ?_
        refine ok_bipush 55 12 dX12_groups_53 rfl rfl ?_
        refine ok_iconst 56 0 dX12_groups_55 rfl rfl ?_
        refine ok_callVi (np := 3) (M' := m_X12_nearTo) (As := [.int ((1 : Int32) <<< (s5_24 &&& 31)), .int 12, .int 0]) (st := []) 59 dX12_groups_56 rfl rfl km_X12_nearTo ki_X12_nearTo kv_X12_nearTo ml_EncoresModel_414 (by decide) sg_123 rfl (Nat.le_of_ble_eq_true rfl) rfl rfl rfl (Nat.le_of_ble_eq_true rfl) (c_X12_nearTo N (d + 0) ((1 : Int32) <<< (s5_24 &&& 31)) 12 0 m) ⟨Nat.le_refl _, Nat.le_refl _⟩ (Or.inl rfl) rfl (fun r_56 m_56 _ => ?_)
        refine ok_istore 61 6 [some (.ref 123), some (.int a1), some (.int s2_24), some (.int s3_24), some (.int s4_24), some (.int s5_24), some (.int r_56)] dX12_groups_59 rfl (by decide) rfl ?_
        refine ok_iload_n 62 2 dX12_groups_61 rfl rfl rfl ?_
        refine ok_iload 64 6 dX12_groups_62 rfl rfl ?_
        refine ok_iconst 65 (-1) dX12_groups_64 rfl rfl ?_
        refine ok_ixor 66 dX12_groups_65 rfl ?_
        refine ok_iand 67 dX12_groups_66 rfl ?_
        refine ok_bndI (fun a2_67 => ?_)
        refine ok_istore_n 68 2 [some (.ref 123), some (.int a1), some (.int a2_67), some (.int s3_24), some (.int s4_24), some (.int s5_24), some (.int r_56)] dX12_groups_67 rfl rfl (by decide) rfl ?_
        refine ok_iinc 71 3 1 [some (.ref 123), some (.int a1), some (.int a2_67), some (.int (s3_24 + 1)), some (.int s4_24), some (.int s5_24), some (.int r_56)] dX12_groups_68 rfl rfl rfl (by decide) rfl ?_
        refine ok_iload 73 6 dX12_groups_71 rfl rfl ?_
        refine ok_callSi (np := 1) (M' := m_X12_count) (As := [.int r_56]) (st := []) 76 dX12_groups_73 rfl rfl km_X12_count ks_X12_count ml_EncoresModel_319 (by decide) rfl rfl (Nat.le_of_ble_eq_true rfl) (c_X12_count N (d + 0) r_56 m_56) ⟨Nat.le_refl _, Nat.le_refl _⟩ (Or.inl rfl) rfl (fun r_73 m_73 _ => ?_)
        refine ok_iload 78 4 dX12_groups_76 rfl rfl ?_
        refine ok_callSi (np := 1) (M' := m_X12_count) (As := [.int s4_24]) (st := [.int r_73]) 81 dX12_groups_78 rfl rfl km_X12_count ks_X12_count ml_EncoresModel_319 (by decide) rfl rfl (Nat.le_of_ble_eq_true rfl) (c_X12_count N (d + 0) s4_24 m_73) ⟨Nat.le_refl _, Nat.le_refl _⟩ (Or.inl rfl) rfl (fun r_78 m_78 _ => ?_)
        refine ok_icmp_le 89 84 dX12_groups_81 (by decide) rfl (fun _ => ?_) (fun _ => ?_)
        · refine ok_iload 91 4 dX12_groups_89 rfl rfl ?_
          refine ok_istore 93 4 [some (.ref 123), some (.int a1), some (.int a2_67), some (.int (s3_24 + 1)), some (.int s4_24), some (.int s5_24), some (.int r_56)] dX12_groups_91 rfl (by decide) rfl ?_
          refine ok_iinc 96 5 1 [some (.ref 123), some (.int a1), some (.int a2_67), some (.int (s3_24 + 1)), some (.int s4_24), some (.int (s5_24 + 1)), some (.int r_56)] dX12_groups_93 rfl rfl rfl (by decide) rfl ?_
          refine ok_goto 24 dX12_groups_96 (by decide) ?_
          exact ok_less [some (.ref 123), some (.int a1), some (.int a2_67), some (.int (s3_24 + 1)), some (.int s4_24), some (.int (s5_24 + 1)), none] (And.intro rfl (And.intro rfl (And.intro rfl (And.intro rfl (And.intro rfl (And.intro rfl (trivial))))))) (hX a2_67 (s3_24 + 1) s4_24 (s5_24 + 1) m_78)
        · refine ok_iload 86 6 dX12_groups_84 rfl rfl ?_
          refine ok_goto 91 dX12_groups_86 (by decide) ?_
          refine ok_istore 93 4 [some (.ref 123), some (.int a1), some (.int a2_67), some (.int (s3_24 + 1)), some (.int r_56), some (.int s5_24), some (.int r_56)] dX12_groups_91 rfl (by decide) rfl ?_
          refine ok_iinc 96 5 1 [some (.ref 123), some (.int a1), some (.int a2_67), some (.int (s3_24 + 1)), some (.int r_56), some (.int (s5_24 + 1)), some (.int r_56)] dX12_groups_93 rfl rfl rfl (by decide) rfl ?_
          refine ok_goto 24 dX12_groups_96 (by decide) ?_
          exact ok_less [some (.ref 123), some (.int a1), some (.int a2_67), some (.int (s3_24 + 1)), some (.int r_56), some (.int (s5_24 + 1)), none] (And.intro rfl (And.intro rfl (And.intro rfl (And.intro rfl (And.intro rfl (And.intro rfl (trivial))))))) (hX a2_67 (s3_24 + 1) r_56 (s5_24 + 1) m_78)
      · refine ok_goto 93 dX12_groups_45 (by decide) ?_
        refine ok_iinc 96 5 1 [some (.ref 123), some (.int a1), some (.int s2_24), some (.int s3_24), some (.int s4_24), some (.int (s5_24 + 1)), none] dX12_groups_93 rfl rfl rfl (by decide) rfl ?_
        refine ok_goto 24 dX12_groups_96 (by decide) ?_
        exact ok_less [some (.ref 123), some (.int a1), some (.int s2_24), some (.int s3_24), some (.int s4_24), some (.int (s5_24 + 1)), none] (And.intro rfl (And.intro rfl (And.intro rfl (And.intro rfl (And.intro rfl (And.intro rfl (trivial))))))) (hX s2_24 s3_24 s4_24 (s5_24 + 1) m))

set_option maxRecDepth 100000 in
set_option maxHeartbeats 4000000 in
theorem ok_X12_groups (N d : Nat) (a1 : Int32)  (m : Mem) : Ok none SG (d + 1) m_X12_groups 0 [some (.ref 123), some (.int a1), none, none, none, none, none] [] SG m (f_X12_groups N a1 m) := by
  unfold f_X12_groups
  refine ok_iload_n 1 1 dX12_groups_0 rfl rfl rfl ?_
  refine ok_iconst 2 0 dX12_groups_1 rfl rfl ?_
  refine ok_iconst 3 1 dX12_groups_2 rfl rfl ?_
  refine ok_callSi (np := 3) (M' := m_X12_isIn) (As := [.int a1, .int 0, .int 1]) (st := []) 6 dX12_groups_3 rfl rfl km_X12_isIn ks_X12_isIn ml_EncoresModel_56 (by decide) rfl rfl (Nat.le_of_ble_eq_true rfl) (c_X12_isIn N (d + 0) a1 0 1 m) ⟨Nat.le_refl _, Nat.le_refl _⟩ (Or.inl rfl) rfl (fun r_3 m_3 _ => ?_)
  refine ok_if_ne 11 9 dX12_groups_6 (by decide) rfl (fun _ => ?_) (fun _ => ?_)
  · refine ok_aload_n 12 0 dX12_groups_11 rfl rfl rfl ?_
    refine ok_callVi (np := 0) (M' := m_X12_allHearers) (As := []) (st := []) 15 dX12_groups_12 rfl rfl km_X12_allHearers ki_X12_allHearers kv_X12_allHearers ml_EncoresModel_405 (by decide) sg_123 rfl (Nat.le_of_ble_eq_true rfl) rfl rfl rfl (Nat.le_of_ble_eq_true rfl) (c_X12_allHearers N (d + 0) m_3) ⟨Nat.le_refl _, Nat.le_refl _⟩ (Or.inl rfl) rfl (fun r_12 m_12 _ => ?_)
    refine ok_istore_n 16 2 [some (.ref 123), some (.int a1), some (.int r_12), none, none, none, none] dX12_groups_15 rfl rfl (by decide) rfl ?_
    refine ok_iconst 17 0 dX12_groups_16 rfl rfl ?_
    refine ok_istore_n 18 3 [some (.ref 123), some (.int a1), some (.int r_12), some (.int 0), none, none, none] dX12_groups_17 rfl rfl (by decide) rfl ?_
    refine ok_iconst 19 0 dX12_groups_18 rfl rfl ?_
    refine ok_istore 21 4 [some (.ref 123), some (.int a1), some (.int r_12), some (.int 0), some (.int 0), none, none] dX12_groups_19 rfl (by decide) rfl ?_
    refine ok_iconst 22 0 dX12_groups_21 rfl rfl ?_
    refine ok_istore 24 5 [some (.ref 123), some (.int a1), some (.int r_12), some (.int 0), some (.int 0), some (.int 0), none] dX12_groups_22 rfl (by decide) rfl ?_
    refine ok_less [some (.ref 123), some (.int a1), some (.int r_12), some (.int 0), some (.int 0), some (.int 0), none] (And.intro rfl (And.intro rfl (And.intro rfl (And.intro rfl (And.intro rfl (And.intro rfl (trivial))))))) ?_
    exact ok_X12_groups_L24 N d a1    N r_12 0 0 0 m_12
  · refine ok_iconst 10 (-1) dX12_groups_9 rfl rfl ?_
    exact ok_iret dX12_groups_10 rfl

theorem c_X12_groups (N d : Nat) (a1 : Int32)  (m : Mem) : CM (d + 1) m_X12_groups SG SG [.ref 123, .int a1] m (f_X12_groups N a1 m) :=
  CM.ofOk km_X12_groups ⟨Nat.le_refl _, Nat.le_refl _⟩ (by simp [Value.category]) (Nat.le_of_ble_eq_true rfl) (ok_X12_groups N d a1 m)

def f_X12_means (N : Nat) (a1 : Int32) (a2 : Int32) (m : Mem) : Ans :=
bd (f_X12_isIn N a1 0 9 m) fun r_4 m_4 =>
if r_4 = 0 then (some (0, m_4))
else (bd (f_X12_isIn N a2 0 9 m_4) fun r_14 m_14 =>
if r_14 = 0 then (some (0, m_14))
else (chk (inb ((213 : Int32) + a1) 1707) <|
bnd (mset m_14 124 ((213 : Int32) + a1).toNatClampNeg a2) fun m_32 =>
some (1, m_32)))

set_option maxRecDepth 100000 in
set_option maxHeartbeats 4000000 in
theorem ok_X12_means (N d : Nat) (a1 : Int32) (a2 : Int32)  (m : Mem) : Ok none SG (d + 1) m_X12_means 0 [some (.ref 123), some (.int a1), some (.int a2)] [] SG m (f_X12_means N a1 a2 m) := by
  unfold f_X12_means
  refine ok_iload_n 1 1 dX12_means_0 rfl rfl rfl ?_
  refine ok_iconst 2 0 dX12_means_1 rfl rfl ?_
  refine ok_bipush 4 9 dX12_means_2 rfl rfl ?_
  refine ok_callSi (np := 3) (M' := m_X12_isIn) (As := [.int a1, .int 0, .int 9]) (st := []) 7 dX12_means_4 rfl rfl km_X12_isIn ks_X12_isIn ml_EncoresModel_56 (by decide) rfl rfl (Nat.le_of_ble_eq_true rfl) (c_X12_isIn N (d + 0) a1 0 9 m) ⟨Nat.le_refl _, Nat.le_refl _⟩ (Or.inl rfl) rfl (fun r_4 m_4 _ => ?_)
  refine ok_if_eq 20 10 dX12_means_7 (by decide) rfl (fun _ => ?_) (fun _ => ?_)
  · refine ok_iconst 21 0 dX12_means_20 rfl rfl ?_
    exact ok_zretc dX12_means_21 rfl rfl
  · refine ok_iload_n 11 2 dX12_means_10 rfl rfl rfl ?_
    refine ok_iconst 12 0 dX12_means_11 rfl rfl ?_
    refine ok_bipush 14 9 dX12_means_12 rfl rfl ?_
    refine ok_callSi (np := 3) (M' := m_X12_isIn) (As := [.int a2, .int 0, .int 9]) (st := []) 17 dX12_means_14 rfl rfl km_X12_isIn ks_X12_isIn ml_EncoresModel_56 (by decide) rfl rfl (Nat.le_of_ble_eq_true rfl) (c_X12_isIn N (d + 0) a2 0 9 m_4) ⟨Nat.le_refl _, Nat.le_refl _⟩ (Or.inl rfl) rfl (fun r_14 m_14 _ => ?_)
    refine ok_if_ne 22 20 dX12_means_17 (by decide) rfl (fun _ => ?_) (fun _ => ?_)
    · refine ok_aload_n 23 0 dX12_means_22 rfl rfl rfl ?_
      refine ok_getR 26 dX12_means_23 rfl rfl F_EncoresModel_7 sg_123 rfl (Nat.le_of_ble_eq_true rfl) rfl rfl ?_
      refine ok_sipush 29 213 dX12_means_26 rfl rfl ?_
      refine ok_iload_n 30 1 dX12_means_29 rfl rfl rfl ?_
      refine ok_iadd 31 dX12_means_30 rfl ?_
      refine ok_iload_n 32 2 dX12_means_31 rfl rfl rfl ?_
      refine ok_iast 33 dX12_means_32 rfl sg_124 ?_
      refine ok_bndM (fun m_32 => ?_)
      refine ok_iconst 34 1 dX12_means_33 rfl rfl ?_
      exact ok_zretc dX12_means_34 rfl rfl
    · refine ok_iconst 21 0 dX12_means_20 rfl rfl ?_
      exact ok_zretc dX12_means_21 rfl rfl

theorem c_X12_means (N d : Nat) (a1 : Int32) (a2 : Int32)  (m : Mem) : CM (d + 1) m_X12_means SG SG [.ref 123, .int a1, .int a2] m (f_X12_means N a1 a2 m) :=
  CM.ofOk km_X12_means ⟨Nat.le_refl _, Nat.le_refl _⟩ (by simp [Value.category]) (Nat.le_of_ble_eq_true rfl) (ok_X12_means N d a1 a2 m)

def f_X12_passedBy_L5 (N : Nat) (a1 : Int32) (a2 : Int32)   (X : Int32 → Int32 → Mem → Ans) (s3_5 : Int32) (s4_5 : Int32) (m : Mem) : Ans :=
if a2 ≤ s4_5 then (some (s3_5, m))
else (chk (inb ((213 : Int32) + s3_5) 1707) <|
bnd (m 124 ((213 : Int32) + s3_5).toNatClampNeg) fun a3_21 =>
X a3_21 (s4_5 + 1) m)

def f_X12_passedBy (N : Nat) (a1 : Int32) (a2 : Int32) (m : Mem) : Ans :=
it2 (f_X12_passedBy_L5 N a1 a2 ) N a1 0 m

set_option maxRecDepth 100000 in
set_option maxHeartbeats 4000000 in
theorem ok_X12_passedBy_L5 (N d : Nat) (a1 : Int32) (a2 : Int32)    : ∀ (n : Nat) (s3_5 : Int32) (s4_5 : Int32) (m : Mem), Ok none SG (d + 0) m_X12_passedBy 5 [some (.ref 123), none, some (.int a2), some (.int s3_5), some (.int s4_5)] [] SG m (it2 (f_X12_passedBy_L5 N a1 a2) n s3_5 s4_5 m) :=
  ok_it2 (fun s3_5 s4_5 => [some (.ref 123), none, some (.int a2), some (.int s3_5), some (.int s4_5)]) (fun X hX s3_5 s4_5 m => by
    try unfold f_X12_passedBy_L5
    refine ok_iload 7 4 dX12_passedBy_5 rfl rfl ?_
    refine ok_iload_n 8 2 dX12_passedBy_7 rfl rfl rfl ?_
    refine ok_icmp_ge 28 11 dX12_passedBy_8 (by decide) rfl (fun _ => ?_) (fun _ => ?_)
    · refine ok_iload_n 29 3 dX12_passedBy_28 rfl rfl rfl ?_
      exact ok_iret dX12_passedBy_29 rfl
    · refine ok_aload_n 12 0 dX12_passedBy_11 rfl rfl rfl ?_
      refine ok_getR 15 dX12_passedBy_12 rfl rfl F_EncoresModel_7 sg_123 rfl (Nat.le_of_ble_eq_true rfl) rfl rfl ?_
      refine ok_sipush 18 213 dX12_passedBy_15 rfl rfl ?_
      refine ok_iload_n 19 3 dX12_passedBy_18 rfl rfl rfl ?_
      refine ok_iadd 20 dX12_passedBy_19 rfl ?_
      refine ok_iald 21 dX12_passedBy_20 rfl sg_124 ?_
      refine ok_bndI (fun a3_21 => ?_)
      refine ok_istore_n 22 3 [some (.ref 123), none, some (.int a2), some (.int a3_21), some (.int s4_5)] dX12_passedBy_21 rfl rfl (by decide) rfl ?_
      refine ok_iinc 25 4 1 [some (.ref 123), none, some (.int a2), some (.int a3_21), some (.int (s4_5 + 1))] dX12_passedBy_22 rfl rfl rfl (by decide) rfl ?_
      refine ok_goto 5 dX12_passedBy_25 (by decide) ?_
      exact ok_less [some (.ref 123), none, some (.int a2), some (.int a3_21), some (.int (s4_5 + 1))] (And.intro rfl (And.intro rfl (And.intro rfl (And.intro rfl (trivial))))) (hX a3_21 (s4_5 + 1) m))

set_option maxRecDepth 100000 in
set_option maxHeartbeats 4000000 in
theorem ok_X12_passedBy (N d : Nat) (a1 : Int32) (a2 : Int32)  (m : Mem) : Ok none SG (d + 0) m_X12_passedBy 0 [some (.ref 123), some (.int a1), some (.int a2), none, none] [] SG m (f_X12_passedBy N a1 a2 m) := by
  unfold f_X12_passedBy
  refine ok_iload_n 1 1 dX12_passedBy_0 rfl rfl rfl ?_
  refine ok_istore_n 2 3 [some (.ref 123), some (.int a1), some (.int a2), some (.int a1), none] dX12_passedBy_1 rfl rfl (by decide) rfl ?_
  refine ok_iconst 3 0 dX12_passedBy_2 rfl rfl ?_
  refine ok_istore 5 4 [some (.ref 123), some (.int a1), some (.int a2), some (.int a1), some (.int 0)] dX12_passedBy_3 rfl (by decide) rfl ?_
  refine ok_less [some (.ref 123), none, some (.int a2), some (.int a1), some (.int 0)] (And.intro rfl (And.intro rfl (And.intro rfl (And.intro rfl (trivial))))) ?_
  exact ok_X12_passedBy_L5 N d a1 a2    N a1 0 m

theorem c_X12_passedBy (N d : Nat) (a1 : Int32) (a2 : Int32)  (m : Mem) : CM (d + 0) m_X12_passedBy SG SG [.ref 123, .int a1, .int a2] m (f_X12_passedBy N a1 a2 m) :=
  CM.ofOk km_X12_passedBy ⟨Nat.le_refl _, Nat.le_refl _⟩ (by simp [Value.category]) (Nat.le_of_ble_eq_true rfl) (ok_X12_passedBy N d a1 a2 m)

def f_X12_wasThere_L2 (N : Nat) (a1 : Int32) (a2 : Int32)   (X : Int32 → Mem → Ans) (s3_2 : Int32) (m : Mem) : Ans :=
if a2 ≤ s3_2 then (some ((-1), m))
else (bd (f_X12_passedBy N a1 s3_2 m) fun r_10 m_10 =>
bd (f_X12_passedBy N a1 a2 m_10) fun r_16 m_16 =>
if r_10 = r_16 then (some (s3_2, m_16))
else (X (s3_2 + 1) m_16))

def f_X12_wasThere (N : Nat) (a1 : Int32) (a2 : Int32) (m : Mem) : Ans :=
it1 (f_X12_wasThere_L2 N a1 a2 ) N 0 m

set_option maxRecDepth 100000 in
set_option maxHeartbeats 4000000 in
theorem ok_X12_wasThere_L2 (N d : Nat) (a1 : Int32) (a2 : Int32)    : ∀ (n : Nat) (s3_2 : Int32) (m : Mem), Ok none SG (d + 1) m_X12_wasThere 2 [some (.ref 123), some (.int a1), some (.int a2), some (.int s3_2)] [] SG m (it1 (f_X12_wasThere_L2 N a1 a2) n s3_2 m) :=
  ok_it1 (fun s3_2 => [some (.ref 123), some (.int a1), some (.int a2), some (.int s3_2)]) (fun X hX s3_2 m => by
    try unfold f_X12_wasThere_L2
    refine ok_iload_n 3 3 dX12_wasThere_2 rfl rfl rfl ?_
    refine ok_iload_n 4 2 dX12_wasThere_3 rfl rfl rfl ?_
    refine ok_icmp_ge 30 7 dX12_wasThere_4 (by decide) rfl (fun _ => ?_) (fun _ => ?_)
    · refine ok_iconst 31 (-1) dX12_wasThere_30 rfl rfl ?_
      exact ok_iret dX12_wasThere_31 rfl
    · refine ok_aload_n 8 0 dX12_wasThere_7 rfl rfl rfl ?_
      refine ok_iload_n 9 1 dX12_wasThere_8 rfl rfl rfl ?_
      refine ok_iload_n 10 3 dX12_wasThere_9 rfl rfl rfl ?_
      refine ok_callVi (np := 2) (M' := m_X12_passedBy) (As := [.int a1, .int s3_2]) (st := []) 13 dX12_wasThere_10 rfl rfl km_X12_passedBy ki_X12_passedBy kv_X12_passedBy ml_EncoresModel_417 (by decide) sg_123 rfl (Nat.le_of_ble_eq_true rfl) rfl rfl rfl (Nat.le_of_ble_eq_true rfl) (c_X12_passedBy N (d + 0) a1 s3_2 m) ⟨Nat.le_refl _, Nat.le_refl _⟩ (Or.inl rfl) rfl (fun r_10 m_10 _ => ?_)
      refine ok_aload_n 14 0 dX12_wasThere_13 rfl rfl rfl ?_
      refine ok_iload_n 15 1 dX12_wasThere_14 rfl rfl rfl ?_
      refine ok_iload_n 16 2 dX12_wasThere_15 rfl rfl rfl ?_
      refine ok_callVi (np := 2) (M' := m_X12_passedBy) (As := [.int a1, .int a2]) (st := [.int r_10]) 19 dX12_wasThere_16 rfl rfl km_X12_passedBy ki_X12_passedBy kv_X12_passedBy ml_EncoresModel_417 (by decide) sg_123 rfl (Nat.le_of_ble_eq_true rfl) rfl rfl rfl (Nat.le_of_ble_eq_true rfl) (c_X12_passedBy N (d + 0) a1 a2 m_10) ⟨Nat.le_refl _, Nat.le_refl _⟩ (Or.inl rfl) rfl (fun r_16 m_16 _ => ?_)
      refine ok_icmp_ne 24 22 dX12_wasThere_19 (by decide) rfl (fun _ => ?_) (fun _ => ?_)
      · refine ok_iinc 27 3 1 [some (.ref 123), some (.int a1), some (.int a2), some (.int (s3_2 + 1))] dX12_wasThere_24 rfl rfl rfl (by decide) rfl ?_
        refine ok_goto 2 dX12_wasThere_27 (by decide) ?_
        exact ok_less [some (.ref 123), some (.int a1), some (.int a2), some (.int (s3_2 + 1))] (And.intro rfl (And.intro rfl (And.intro rfl (And.intro rfl (trivial))))) (hX (s3_2 + 1) m_16)
      · refine ok_iload_n 23 3 dX12_wasThere_22 rfl rfl rfl ?_
        exact ok_iret dX12_wasThere_23 rfl)

set_option maxRecDepth 100000 in
set_option maxHeartbeats 4000000 in
theorem ok_X12_wasThere (N d : Nat) (a1 : Int32) (a2 : Int32)  (m : Mem) : Ok none SG (d + 1) m_X12_wasThere 0 [some (.ref 123), some (.int a1), some (.int a2), none] [] SG m (f_X12_wasThere N a1 a2 m) := by
  unfold f_X12_wasThere
  refine ok_iconst 1 0 dX12_wasThere_0 rfl rfl ?_
  refine ok_istore_n 2 3 [some (.ref 123), some (.int a1), some (.int a2), some (.int 0)] dX12_wasThere_1 rfl rfl (by decide) rfl ?_
  refine ok_less [some (.ref 123), some (.int a1), some (.int a2), some (.int 0)] (And.intro rfl (And.intro rfl (And.intro rfl (And.intro rfl (trivial))))) ?_
  exact ok_X12_wasThere_L2 N d a1 a2    N 0 m

theorem c_X12_wasThere (N d : Nat) (a1 : Int32) (a2 : Int32)  (m : Mem) : CM (d + 1) m_X12_wasThere SG SG [.ref 123, .int a1, .int a2] m (f_X12_wasThere N a1 a2 m) :=
  CM.ofOk km_X12_wasThere ⟨Nat.le_refl _, Nat.le_refl _⟩ (by simp [Value.category]) (Nat.le_of_ble_eq_true rfl) (ok_X12_wasThere N d a1 a2 m)

def f_X12_passed_L50 (N : Nat) (a1 : Int32) (a2 : Int32) (a3 : Int32)  (K67 : Int32 → Mem → Ans) (X : Int32 → Mem → Ans) (s4_50 : Int32) (m : Mem) : Ans :=
bd (f_X12_wasThere N a1 s4_50 m) fun r_54 m_54 =>
if r_54 = (-1 : Int32) then (X (s4_50 + 1) m_54)
else (K67 s4_50 m_54)

def f_X12_passed_J36 (N : Nat) (a1 : Int32) (a2 : Int32) (a3 : Int32)    (m : Mem) : Ans :=
if a3 = 0 then (bd (f_X12_passedBy N a1 a2 m) fun r_43 m_43 =>
some (r_43, m_43))
else (it1 (f_X12_passed_L50 N a1 a2 a3 (fun k4_67 mk67 => if a3 = (1 : Int32) then (some (k4_67, mk67))
else (bd (f_X12_wasThere N a1 k4_67 mk67) fun r_83 m_83 =>
some ((k4_67 - r_83), m_83)))) N 1 m)

def f_X12_passed (N : Nat) (a1 : Int32) (a2 : Int32) (a3 : Int32) (m : Mem) : Ans :=
bd (f_X12_isIn N a1 0 9 m) fun r_4 m_4 =>
if r_4 = 0 then (some ((-1), m_4))
else (bd (f_X12_isIn N a3 0 2 m_4) fun r_13 m_13 =>
if r_13 = 0 then (some ((-1), m_13))
else (if a3 = 0 then (bd (f_X12_isIn N a2 0 9999 m_13) fun r_28 m_28 =>
if r_28 = 0 then (some ((-1), m_28))
else (f_X12_passed_J36 N a1 a2 a3 m_28))
else (f_X12_passed_J36 N a1 a2 a3 m_13)))

set_option maxRecDepth 100000 in
set_option maxHeartbeats 4000000 in
theorem ok_X12_passed_L50 (N d : Nat) (a1 : Int32) (a2 : Int32) (a3 : Int32)   (K67 : Int32 → Mem → Ans) (hK67 : ∀ (k4 : Int32) (m : Mem), Ok none SG (d + 2) m_X12_passed 67 [some (.ref 123), some (.int a1), none, some (.int a3), some (.int k4)] [] SG m (K67 k4 m)) : ∀ (n : Nat) (s4_50 : Int32) (m : Mem), Ok none SG (d + 2) m_X12_passed 50 [some (.ref 123), some (.int a1), none, some (.int a3), some (.int s4_50)] [] SG m (it1 (f_X12_passed_L50 N a1 a2 a3 K67) n s4_50 m) :=
  ok_it1 (fun s4_50 => [some (.ref 123), some (.int a1), none, some (.int a3), some (.int s4_50)]) (fun X hX s4_50 m => by
    try unfold f_X12_passed_L50
    refine ok_aload_n 51 0 dX12_passed_50 rfl rfl rfl ?_
    refine ok_iload_n 52 1 dX12_passed_51 rfl rfl rfl ?_
    refine ok_iload 54 4 dX12_passed_52 rfl rfl ?_
    refine ok_callVi (np := 2) (M' := m_X12_wasThere) (As := [.int a1, .int s4_50]) (st := []) 57 dX12_passed_54 rfl rfl km_X12_wasThere ki_X12_wasThere kv_X12_wasThere ml_EncoresModel_420 (by decide) sg_123 rfl (Nat.le_of_ble_eq_true rfl) rfl rfl rfl (Nat.le_of_ble_eq_true rfl) (c_X12_wasThere N (d + 0) a1 s4_50 m) ⟨Nat.le_refl _, Nat.le_refl _⟩ (Or.inl rfl) rfl (fun r_54 m_54 _ => ?_)
    refine ok_iconst 58 (-1) dX12_passed_57 rfl rfl ?_
    refine ok_icmp_ne 67 61 dX12_passed_58 (by decide) rfl (fun _ => ?_) (fun _ => ?_)
    · exact ok_less [some (.ref 123), some (.int a1), none, some (.int a3), some (.int s4_50)] (And.intro rfl (And.intro rfl (And.intro rfl (And.intro rfl (trivial))))) (hK67 s4_50 m_54)
    · refine ok_iinc 64 4 1 [some (.ref 123), some (.int a1), none, some (.int a3), some (.int (s4_50 + 1))] dX12_passed_61 rfl rfl rfl (by decide) rfl ?_
      refine ok_goto 50 dX12_passed_64 (by decide) ?_
      exact ok_less [some (.ref 123), some (.int a1), none, some (.int a3), some (.int (s4_50 + 1))] (And.intro rfl (And.intro rfl (And.intro rfl (And.intro rfl (trivial))))) (hX (s4_50 + 1) m_54))

set_option maxRecDepth 100000 in
set_option maxHeartbeats 4000000 in
theorem ok_X12_passed_J36 (N d : Nat) (a1 : Int32) (a2 : Int32) (a3 : Int32)     (m : Mem) : Ok none SG (d + 2) m_X12_passed 36 [some (.ref 123), some (.int a1), some (.int a2), some (.int a3), none] [] SG m (f_X12_passed_J36 N a1 a2 a3 m) := by
  unfold f_X12_passed_J36
  refine ok_iload_n 37 3 dX12_passed_36 rfl rfl rfl ?_
  refine ok_if_ne 47 40 dX12_passed_37 (by decide) rfl (fun _ => ?_) (fun _ => ?_)
  · refine ok_iconst 48 1 dX12_passed_47 rfl rfl ?_
    refine ok_istore 50 4 [some (.ref 123), some (.int a1), some (.int a2), some (.int a3), some (.int 1)] dX12_passed_48 rfl (by decide) rfl ?_
    refine ok_less [some (.ref 123), some (.int a1), none, some (.int a3), some (.int 1)] (And.intro rfl (And.intro rfl (And.intro rfl (And.intro rfl (trivial))))) ?_
    exact ok_X12_passed_L50 N d a1 a2 a3  _ (fun k4_67 mk67 => by
        refine ok_iload_n 68 3 dX12_passed_67 rfl rfl rfl ?_
        refine ok_iconst 69 1 dX12_passed_68 rfl rfl ?_
        refine ok_icmp_ne 77 72 dX12_passed_69 (by decide) rfl (fun _ => ?_) (fun _ => ?_)
        · refine ok_iload 79 4 dX12_passed_77 rfl rfl ?_
          refine ok_aload_n 80 0 dX12_passed_79 rfl rfl rfl ?_
          refine ok_iload_n 81 1 dX12_passed_80 rfl rfl rfl ?_
          refine ok_iload 83 4 dX12_passed_81 rfl rfl ?_
          refine ok_callVi (np := 2) (M' := m_X12_wasThere) (As := [.int a1, .int k4_67]) (st := [.int k4_67]) 86 dX12_passed_83 rfl rfl km_X12_wasThere ki_X12_wasThere kv_X12_wasThere ml_EncoresModel_420 (by decide) sg_123 rfl (Nat.le_of_ble_eq_true rfl) rfl rfl rfl (Nat.le_of_ble_eq_true rfl) (c_X12_wasThere N (d + 0) a1 k4_67 mk67) ⟨Nat.le_refl _, Nat.le_refl _⟩ (Or.inl rfl) rfl (fun r_83 m_83 _ => ?_)
          refine ok_isub 87 dX12_passed_86 rfl ?_
          exact ok_iret dX12_passed_87 rfl
        · refine ok_iload 74 4 dX12_passed_72 rfl rfl ?_
          refine ok_goto 87 dX12_passed_74 (by decide) ?_
          exact ok_iret dX12_passed_87 rfl) N 1 m
  · refine ok_aload_n 41 0 dX12_passed_40 rfl rfl rfl ?_
    refine ok_iload_n 42 1 dX12_passed_41 rfl rfl rfl ?_
    refine ok_iload_n 43 2 dX12_passed_42 rfl rfl rfl ?_
    refine ok_callVi (np := 2) (M' := m_X12_passedBy) (As := [.int a1, .int a2]) (st := []) 46 dX12_passed_43 rfl rfl km_X12_passedBy ki_X12_passedBy kv_X12_passedBy ml_EncoresModel_417 (by decide) sg_123 rfl (Nat.le_of_ble_eq_true rfl) rfl rfl rfl (Nat.le_of_ble_eq_true rfl) (c_X12_passedBy N (d + 1) a1 a2 m) ⟨Nat.le_refl _, Nat.le_refl _⟩ (Or.inl rfl) rfl (fun r_43 m_43 _ => ?_)
    exact ok_iret dX12_passed_46 rfl

set_option maxRecDepth 100000 in
set_option maxHeartbeats 4000000 in
theorem ok_X12_passed (N d : Nat) (a1 : Int32) (a2 : Int32) (a3 : Int32)  (m : Mem) : Ok none SG (d + 2) m_X12_passed 0 [some (.ref 123), some (.int a1), some (.int a2), some (.int a3), none] [] SG m (f_X12_passed N a1 a2 a3 m) := by
  unfold f_X12_passed
  refine ok_iload_n 1 1 dX12_passed_0 rfl rfl rfl ?_
  refine ok_iconst 2 0 dX12_passed_1 rfl rfl ?_
  refine ok_bipush 4 9 dX12_passed_2 rfl rfl ?_
  refine ok_callSi (np := 3) (M' := m_X12_isIn) (As := [.int a1, .int 0, .int 9]) (st := []) 7 dX12_passed_4 rfl rfl km_X12_isIn ks_X12_isIn ml_EncoresModel_56 (by decide) rfl rfl (Nat.le_of_ble_eq_true rfl) (c_X12_isIn N (d + 1) a1 0 9 m) ⟨Nat.le_refl _, Nat.le_refl _⟩ (Or.inl rfl) rfl (fun r_4 m_4 _ => ?_)
  refine ok_if_eq 34 10 dX12_passed_7 (by decide) rfl (fun _ => ?_) (fun _ => ?_)
  · refine ok_iconst 35 (-1) dX12_passed_34 rfl rfl ?_
    exact ok_iret dX12_passed_35 rfl
  · refine ok_iload_n 11 3 dX12_passed_10 rfl rfl rfl ?_
    refine ok_iconst 12 0 dX12_passed_11 rfl rfl ?_
    refine ok_iconst 13 2 dX12_passed_12 rfl rfl ?_
    refine ok_callSi (np := 3) (M' := m_X12_isIn) (As := [.int a3, .int 0, .int 2]) (st := []) 16 dX12_passed_13 rfl rfl km_X12_isIn ks_X12_isIn ml_EncoresModel_56 (by decide) rfl rfl (Nat.le_of_ble_eq_true rfl) (c_X12_isIn N (d + 1) a3 0 2 m_4) ⟨Nat.le_refl _, Nat.le_refl _⟩ (Or.inl rfl) rfl (fun r_13 m_13 _ => ?_)
    refine ok_if_eq 34 19 dX12_passed_16 (by decide) rfl (fun _ => ?_) (fun _ => ?_)
    · refine ok_iconst 35 (-1) dX12_passed_34 rfl rfl ?_
      exact ok_iret dX12_passed_35 rfl
    · refine ok_iload_n 20 3 dX12_passed_19 rfl rfl rfl ?_
      refine ok_if_ne 36 23 dX12_passed_20 (by decide) rfl (fun _ => ?_) (fun _ => ?_)
      · exact ok_less [some (.ref 123), some (.int a1), some (.int a2), some (.int a3), none] (And.intro rfl (And.intro rfl (And.intro rfl (And.intro rfl (trivial))))) (ok_X12_passed_J36 N d a1 a2 a3   m_13)
      · refine ok_iload_n 24 2 dX12_passed_23 rfl rfl rfl ?_
        refine ok_iconst 25 0 dX12_passed_24 rfl rfl ?_
        refine ok_sipush 28 9999 dX12_passed_25 rfl rfl ?_
        refine ok_callSi (np := 3) (M' := m_X12_isIn) (As := [.int a2, .int 0, .int 9999]) (st := []) 31 dX12_passed_28 rfl rfl km_X12_isIn ks_X12_isIn ml_EncoresModel_56 (by decide) rfl rfl (Nat.le_of_ble_eq_true rfl) (c_X12_isIn N (d + 1) a2 0 9999 m_13) ⟨Nat.le_refl _, Nat.le_refl _⟩ (Or.inl rfl) rfl (fun r_28 m_28 _ => ?_)
        refine ok_if_ne 36 34 dX12_passed_31 (by decide) rfl (fun _ => ?_) (fun _ => ?_)
        · exact ok_less [some (.ref 123), some (.int a1), some (.int a2), some (.int a3), none] (And.intro rfl (And.intro rfl (And.intro rfl (And.intro rfl (trivial))))) (ok_X12_passed_J36 N d a1 a2 a3   m_28)
        · refine ok_iconst 35 (-1) dX12_passed_34 rfl rfl ?_
          exact ok_iret dX12_passed_35 rfl

theorem c_X12_passed (N d : Nat) (a1 : Int32) (a2 : Int32) (a3 : Int32)  (m : Mem) : CM (d + 2) m_X12_passed SG SG [.ref 123, .int a1, .int a2, .int a3] m (f_X12_passed N a1 a2 a3 m) :=
  CM.ofOk km_X12_passed ⟨Nat.le_refl _, Nat.le_refl _⟩ (by simp [Value.category]) (Nat.le_of_ble_eq_true rfl) (ok_X12_passed N d a1 a2 a3 m)

def f_X12_weightOf (N : Nat) (a1 : Int32) (m : Mem) : Ans :=
bd (f_X12_isThere N a1 m) fun r_2 m_2 =>
if r_2 = 0 then (some (0, m_2))
else (chk (inb ((57 : Int32) + a1) 1707) <|
some (((m_2 124 ((57 : Int32) + a1).toNatClampNeg) + (1 : Int32)), m_2))

set_option maxRecDepth 100000 in
set_option maxHeartbeats 4000000 in
theorem ok_X12_weightOf (N d : Nat) (a1 : Int32)  (m : Mem) : Ok none SG (d + 1) m_X12_weightOf 0 [some (.ref 123), some (.int a1)] [] SG m (f_X12_weightOf N a1 m) := by
  unfold f_X12_weightOf
  refine ok_aload_n 1 0 dX12_weightOf_0 rfl rfl rfl ?_
  refine ok_iload_n 2 1 dX12_weightOf_1 rfl rfl rfl ?_
  refine ok_callVi (np := 1) (M' := m_X12_isThere) (As := [.int a1]) (st := []) 5 dX12_weightOf_2 rfl rfl km_X12_isThere ki_X12_isThere kv_X12_isThere ml_EncoresModel_310 (by decide) sg_123 rfl (Nat.le_of_ble_eq_true rfl) rfl rfl rfl (Nat.le_of_ble_eq_true rfl) (c_X12_isThere N (d + 0) a1 m) ⟨Nat.le_refl _, Nat.le_refl _⟩ (Or.inl rfl) rfl (fun r_2 m_2 _ => ?_)
  refine ok_if_eq 22 8 dX12_weightOf_5 (by decide) rfl (fun _ => ?_) (fun _ => ?_)
  · refine ok_iconst 23 0 dX12_weightOf_22 rfl rfl ?_
    exact ok_iret dX12_weightOf_23 rfl
  · refine ok_aload_n 9 0 dX12_weightOf_8 rfl rfl rfl ?_
    refine ok_getR 12 dX12_weightOf_9 rfl rfl F_EncoresModel_7 sg_123 rfl (Nat.le_of_ble_eq_true rfl) rfl rfl ?_
    refine ok_bipush 14 57 dX12_weightOf_12 rfl rfl ?_
    refine ok_iload_n 15 1 dX12_weightOf_14 rfl rfl rfl ?_
    refine ok_iadd 16 dX12_weightOf_15 rfl ?_
    refine ok_iald 17 dX12_weightOf_16 rfl sg_124 ?_
    refine ok_iconst 18 1 dX12_weightOf_17 rfl rfl ?_
    refine ok_iadd 19 dX12_weightOf_18 rfl ?_
    refine ok_goto 23 dX12_weightOf_19 (by decide) ?_
    exact ok_iret dX12_weightOf_23 rfl

theorem c_X12_weightOf (N d : Nat) (a1 : Int32)  (m : Mem) : CM (d + 1) m_X12_weightOf SG SG [.ref 123, .int a1] m (f_X12_weightOf N a1 m) :=
  CM.ofOk km_X12_weightOf ⟨Nat.le_refl _, Nat.le_refl _⟩ (by simp [Value.category]) (Nat.le_of_ble_eq_true rfl) (ok_X12_weightOf N d a1 m)

def f_X12_allWeights_L4 (N : Nat)    (X : Int32 → Int32 → Mem → Ans) (s1_4 : Int32) (s2_4 : Int32) (m : Mem) : Ans :=
if (m 124 37) ≤ s2_4 then (some (s1_4, m))
else (bd (f_X12_weightOf N s2_4 m) fun r_18 m_18 =>
bnd (s1_4 + r_18) fun a1_22 =>
X a1_22 (s2_4 + 1) m_18)

def f_X12_allWeights (N : Nat)  (m : Mem) : Ans :=
it2 (f_X12_allWeights_L4 N ) N 0 0 m

set_option maxRecDepth 100000 in
set_option maxHeartbeats 4000000 in
theorem ok_X12_allWeights_L4 (N d : Nat)     : ∀ (n : Nat) (s1_4 : Int32) (s2_4 : Int32) (m : Mem), Ok none SG (d + 2) m_X12_allWeights 4 [some (.ref 123), some (.int s1_4), some (.int s2_4)] [] SG m (it2 (f_X12_allWeights_L4 N) n s1_4 s2_4 m) :=
  ok_it2 (fun s1_4 s2_4 => [some (.ref 123), some (.int s1_4), some (.int s2_4)]) (fun X hX s1_4 s2_4 m => by
    try unfold f_X12_allWeights_L4
    refine ok_iload_n 5 2 dX12_allWeights_4 rfl rfl rfl ?_
    refine ok_aload_n 6 0 dX12_allWeights_5 rfl rfl rfl ?_
    refine ok_getR 9 dX12_allWeights_6 rfl rfl F_EncoresModel_7 sg_123 rfl (Nat.le_of_ble_eq_true rfl) rfl rfl ?_
    refine ok_bipush 11 37 dX12_allWeights_9 rfl rfl ?_
    refine ok_ialdc 12 37 dX12_allWeights_11 rfl sg_124 (by decide) (by decide) ?_
    refine ok_icmp_ge 29 15 dX12_allWeights_12 (by decide) rfl (fun _ => ?_) (fun _ => ?_)
    · refine ok_iload_n 30 1 dX12_allWeights_29 rfl rfl rfl ?_
      exact ok_iret dX12_allWeights_30 rfl
    · refine ok_iload_n 16 1 dX12_allWeights_15 rfl rfl rfl ?_
      refine ok_aload_n 17 0 dX12_allWeights_16 rfl rfl rfl ?_
      refine ok_iload_n 18 2 dX12_allWeights_17 rfl rfl rfl ?_
      refine ok_callVi (np := 1) (M' := m_X12_weightOf) (As := [.int s2_4]) (st := [.int s1_4]) 21 dX12_allWeights_18 rfl rfl km_X12_weightOf ki_X12_weightOf kv_X12_weightOf ml_EncoresModel_423 (by decide) sg_123 rfl (Nat.le_of_ble_eq_true rfl) rfl rfl rfl (Nat.le_of_ble_eq_true rfl) (c_X12_weightOf N (d + 0) s2_4 m) ⟨Nat.le_refl _, Nat.le_refl _⟩ (Or.inl rfl) rfl (fun r_18 m_18 _ => ?_)
      refine ok_iadd 22 dX12_allWeights_21 rfl ?_
      refine ok_bndI (fun a1_22 => ?_)
      refine ok_istore_n 23 1 [some (.ref 123), some (.int a1_22), some (.int s2_4)] dX12_allWeights_22 rfl rfl (by decide) rfl ?_
      refine ok_iinc 26 2 1 [some (.ref 123), some (.int a1_22), some (.int (s2_4 + 1))] dX12_allWeights_23 rfl rfl rfl (by decide) rfl ?_
      refine ok_goto 4 dX12_allWeights_26 (by decide) ?_
      exact ok_less [some (.ref 123), some (.int a1_22), some (.int (s2_4 + 1))] (And.intro rfl (And.intro rfl (And.intro rfl (trivial)))) (hX a1_22 (s2_4 + 1) m_18))

set_option maxRecDepth 100000 in
set_option maxHeartbeats 4000000 in
theorem ok_X12_allWeights (N d : Nat)   (m : Mem) : Ok none SG (d + 2) m_X12_allWeights 0 [some (.ref 123), none, none] [] SG m (f_X12_allWeights N m) := by
  unfold f_X12_allWeights
  refine ok_iconst 1 0 dX12_allWeights_0 rfl rfl ?_
  refine ok_istore_n 2 1 [some (.ref 123), some (.int 0), none] dX12_allWeights_1 rfl rfl (by decide) rfl ?_
  refine ok_iconst 3 0 dX12_allWeights_2 rfl rfl ?_
  refine ok_istore_n 4 2 [some (.ref 123), some (.int 0), some (.int 0)] dX12_allWeights_3 rfl rfl (by decide) rfl ?_
  refine ok_less [some (.ref 123), some (.int 0), some (.int 0)] (And.intro rfl (And.intro rfl (And.intro rfl (trivial)))) ?_
  exact ok_X12_allWeights_L4 N d     N 0 0 m

theorem c_X12_allWeights (N d : Nat)   (m : Mem) : CM (d + 2) m_X12_allWeights SG SG [.ref 123] m (f_X12_allWeights N m) :=
  CM.ofOk km_X12_allWeights ⟨Nat.le_refl _, Nat.le_refl _⟩ (by simp [Value.category]) (Nat.le_of_ble_eq_true rfl) (ok_X12_allWeights N d  m)

def f_X12_share_L55 (N : Nat) (a1 : Int32) (a2 : Int32) (r_42 : Int32) (K136 : Int32 → Int32 → Mem → Ans) (X : Int32 → Int32 → Int32 → Mem → Ans) (s4_55 : Int32) (s5_55 : Int32) (s6_55 : Int32) (m : Mem) : Ans :=
if (m 124 37) ≤ s6_55 then (K136 s4_55 s5_55 m)
else (bd (f_X12_weightOf N s6_55 m) fun r_73 m_73 =>
chk (decide (r_42 ≠ 0)) <|
bnd (s4_55 - ((a1 * r_73) / r_42)) fun a4_80 =>
bd (f_X12_weightOf N s6_55 m_73) fun r_86 m_86 =>
chk (decide (r_42 ≠ 0)) <|
bd (f_X12_weightOf N a2 m_86) fun r_95 m_95 =>
chk (decide (r_42 ≠ 0)) <|
bnd ((irm (a1 * r_86) r_42) - (irm (a1 * r_95) r_42)) fun a7_102 =>
if 0 < a7_102 then (bnd (s5_55 + (1 : Int32)) fun a5_128 =>
X a4_80 a5_128 (s6_55 + 1) m_95)
else (if a7_102 = 0 then (if a2 ≤ s6_55 then (bnd (s5_55 + (0 : Int32)) fun a5_128 =>
X a4_80 a5_128 (s6_55 + 1) m_95)
else (bnd (s5_55 + (1 : Int32)) fun a5_128 =>
X a4_80 a5_128 (s6_55 + 1) m_95))
else (bnd (s5_55 + (0 : Int32)) fun a5_128 =>
X a4_80 a5_128 (s6_55 + 1) m_95)))

def f_X12_share (N : Nat) (a1 : Int32) (a2 : Int32) (m : Mem) : Ans :=
bd (f_X12_isIn N a1 0 9999 m) fun r_5 m_5 =>
if r_5 = 0 then (some ((-1), m_5))
else (bd (f_X12_isHearer N a2 m_5) fun r_13 m_13 =>
if r_13 = 0 then (some ((-1), m_13))
else (if (m_13 124 7) = 0 then (some ((-1), m_13))
else (bd (f_X12_isThere N a2 m_13) fun r_33 m_33 =>
if r_33 = 0 then (some (0, m_33))
else (bd (f_X12_allWeights N m_33) fun r_42 m_42 =>
it3 (f_X12_share_L55 N a1 a2 r_42 (fun k4_136 k5_136 mk136 => bd (f_X12_weightOf N a2 mk136) fun r_139 m_139 =>
chk (decide (r_42 ≠ 0)) <|
if k4_136 ≤ k5_136 then (some ((((a1 * r_139) / r_42) + (0 : Int32)), m_139))
else (some ((((a1 * r_139) / r_42) + (1 : Int32)), m_139)))) N a1 0 0 m_42))))

set_option maxRecDepth 100000 in
set_option maxHeartbeats 4000000 in
theorem ok_X12_share_L55 (N d : Nat) (a1 : Int32) (a2 : Int32)  (r_42 : Int32) (K136 : Int32 → Int32 → Mem → Ans) (hK136 : ∀ (k4 : Int32) (k5 : Int32) (m : Mem), Ok none SG (d + 3) m_X12_share 136 [some (.ref 123), some (.int a1), some (.int a2), some (.int r_42), some (.int k4), some (.int k5), none, none] [] SG m (K136 k4 k5 m)) : ∀ (n : Nat) (s4_55 : Int32) (s5_55 : Int32) (s6_55 : Int32) (m : Mem), Ok none SG (d + 3) m_X12_share 55 [some (.ref 123), some (.int a1), some (.int a2), some (.int r_42), some (.int s4_55), some (.int s5_55), some (.int s6_55), none] [] SG m (it3 (f_X12_share_L55 N a1 a2 r_42 K136) n s4_55 s5_55 s6_55 m) :=
  ok_it3 (fun s4_55 s5_55 s6_55 => [some (.ref 123), some (.int a1), some (.int a2), some (.int r_42), some (.int s4_55), some (.int s5_55), some (.int s6_55), none]) (fun X hX s4_55 s5_55 s6_55 m => by
    try unfold f_X12_share_L55
    refine ok_iload 57 6 dX12_share_55 rfl rfl ?_
    refine ok_aload_n 58 0 dX12_share_57 rfl rfl rfl ?_
    refine ok_getR 61 dX12_share_58 rfl rfl F_EncoresModel_7 sg_123 rfl (Nat.le_of_ble_eq_true rfl) rfl rfl ?_
    refine ok_bipush 63 37 dX12_share_61 rfl rfl ?_
    refine ok_ialdc 64 37 dX12_share_63 rfl sg_124 (by decide) (by decide) ?_
    refine ok_icmp_ge 136 67 dX12_share_64 (by decide) rfl (fun _ => ?_) (fun _ => ?_)
    · exact ok_less [some (.ref 123), some (.int a1), some (.int a2), some (.int r_42), some (.int s4_55), some (.int s5_55), none, none] (And.intro rfl (And.intro rfl (And.intro rfl (And.intro rfl (And.intro rfl (And.intro rfl (trivial))))))) (hK136 s4_55 s5_55 m)
    · refine ok_iload 69 4 dX12_share_67 rfl rfl ?_
      refine ok_iload_n 70 1 dX12_share_69 rfl rfl rfl ?_
      refine ok_aload_n 71 0 dX12_share_70 rfl rfl rfl ?_
      refine ok_iload 73 6 dX12_share_71 rfl rfl ?_
      refine ok_callVi (np := 1) (M' := m_X12_weightOf) (As := [.int s6_55]) (st := [.int a1, .int s4_55]) 76 dX12_share_73 rfl rfl km_X12_weightOf ki_X12_weightOf kv_X12_weightOf ml_EncoresModel_423 (by decide) sg_123 rfl (Nat.le_of_ble_eq_true rfl) rfl rfl rfl (Nat.le_of_ble_eq_true rfl) (c_X12_weightOf N (d + 1) s6_55 m) ⟨Nat.le_refl _, Nat.le_refl _⟩ (Or.inl rfl) rfl (fun r_73 m_73 _ => ?_)
      refine ok_imul 77 dX12_share_76 rfl ?_
      refine ok_iload_n 78 3 dX12_share_77 rfl rfl rfl ?_
      refine ok_idiv 79 dX12_share_78 rfl ?_
      refine ok_isub 80 dX12_share_79 rfl ?_
      refine ok_bndI (fun a4_80 => ?_)
      refine ok_istore 82 4 [some (.ref 123), some (.int a1), some (.int a2), some (.int r_42), some (.int a4_80), some (.int s5_55), some (.int s6_55), none] dX12_share_80 rfl (by decide) rfl ?_
      refine ok_iload_n 83 1 dX12_share_82 rfl rfl rfl ?_
      refine ok_aload_n 84 0 dX12_share_83 rfl rfl rfl ?_
      refine ok_iload 86 6 dX12_share_84 rfl rfl ?_
      refine ok_callVi (np := 1) (M' := m_X12_weightOf) (As := [.int s6_55]) (st := [.int a1]) 89 dX12_share_86 rfl rfl km_X12_weightOf ki_X12_weightOf kv_X12_weightOf ml_EncoresModel_423 (by decide) sg_123 rfl (Nat.le_of_ble_eq_true rfl) rfl rfl rfl (Nat.le_of_ble_eq_true rfl) (c_X12_weightOf N (d + 1) s6_55 m_73) ⟨Nat.le_refl _, Nat.le_refl _⟩ (Or.inl rfl) rfl (fun r_86 m_86 _ => ?_)
      refine ok_imul 90 dX12_share_89 rfl ?_
      refine ok_iload_n 91 3 dX12_share_90 rfl rfl rfl ?_
      refine ok_irem 92 dX12_share_91 rfl ?_
      refine ok_iload_n 93 1 dX12_share_92 rfl rfl rfl ?_
      refine ok_aload_n 94 0 dX12_share_93 rfl rfl rfl ?_
      refine ok_iload_n 95 2 dX12_share_94 rfl rfl rfl ?_
      refine ok_callVi (np := 1) (M' := m_X12_weightOf) (As := [.int a2]) (st := [.int a1, .int (irm (a1 * r_86) r_42)]) 98 dX12_share_95 rfl rfl km_X12_weightOf ki_X12_weightOf kv_X12_weightOf ml_EncoresModel_423 (by decide) sg_123 rfl (Nat.le_of_ble_eq_true rfl) rfl rfl rfl (Nat.le_of_ble_eq_true rfl) (c_X12_weightOf N (d + 1) a2 m_86) ⟨Nat.le_refl _, Nat.le_refl _⟩ (Or.inl rfl) rfl (fun r_95 m_95 _ => ?_)
      refine ok_imul 99 dX12_share_98 rfl ?_
      refine ok_iload_n 100 3 dX12_share_99 rfl rfl rfl ?_
      refine ok_irem 101 dX12_share_100 rfl ?_
      refine ok_isub 102 dX12_share_101 rfl ?_
      refine ok_bndI (fun a7_102 => ?_)
      refine ok_istore 104 7 [some (.ref 123), some (.int a1), some (.int a2), some (.int r_42), some (.int a4_80), some (.int s5_55), some (.int s6_55), some (.int a7_102)] dX12_share_102 rfl (by decide) rfl ?_
      refine ok_iload 106 5 dX12_share_104 rfl rfl ?_
      refine ok_iload 108 7 dX12_share_106 rfl rfl ?_
      refine ok_if_gt 122 111 dX12_share_108 (by decide) rfl (fun _ => ?_) (fun _ => ?_)
      · refine ok_iconst 123 1 dX12_share_122 rfl rfl ?_
        refine ok_goto 127 dX12_share_123 (by decide) ?_
        refine ok_iadd 128 dX12_share_127 rfl ?_
        refine ok_bndI (fun a5_128 => ?_)
        refine ok_istore 130 5 [some (.ref 123), some (.int a1), some (.int a2), some (.int r_42), some (.int a4_80), some (.int a5_128), some (.int s6_55), some (.int a7_102)] dX12_share_128 rfl (by decide) rfl ?_
        refine ok_iinc 133 6 1 [some (.ref 123), some (.int a1), some (.int a2), some (.int r_42), some (.int a4_80), some (.int a5_128), some (.int (s6_55 + 1)), some (.int a7_102)] dX12_share_130 rfl rfl rfl (by decide) rfl ?_
        refine ok_goto 55 dX12_share_133 (by decide) ?_
        exact ok_less [some (.ref 123), some (.int a1), some (.int a2), some (.int r_42), some (.int a4_80), some (.int a5_128), some (.int (s6_55 + 1)), none] (And.intro rfl (And.intro rfl (And.intro rfl (And.intro rfl (And.intro rfl (And.intro rfl (And.intro rfl (trivial)))))))) (hX a4_80 a5_128 (s6_55 + 1) m_95)
      · refine ok_iload 113 7 dX12_share_111 rfl rfl ?_
        refine ok_if_ne 126 116 dX12_share_113 (by decide) rfl (fun _ => ?_) (fun _ => ?_)
        · refine ok_iconst 127 0 dX12_share_126 rfl rfl ?_
          refine ok_iadd 128 dX12_share_127 rfl ?_
          refine ok_bndI (fun a5_128 => ?_)
          refine ok_istore 130 5 [some (.ref 123), some (.int a1), some (.int a2), some (.int r_42), some (.int a4_80), some (.int a5_128), some (.int s6_55), some (.int a7_102)] dX12_share_128 rfl (by decide) rfl ?_
          refine ok_iinc 133 6 1 [some (.ref 123), some (.int a1), some (.int a2), some (.int r_42), some (.int a4_80), some (.int a5_128), some (.int (s6_55 + 1)), some (.int a7_102)] dX12_share_130 rfl rfl rfl (by decide) rfl ?_
          refine ok_goto 55 dX12_share_133 (by decide) ?_
          exact ok_less [some (.ref 123), some (.int a1), some (.int a2), some (.int r_42), some (.int a4_80), some (.int a5_128), some (.int (s6_55 + 1)), none] (And.intro rfl (And.intro rfl (And.intro rfl (And.intro rfl (And.intro rfl (And.intro rfl (And.intro rfl (trivial)))))))) (hX a4_80 a5_128 (s6_55 + 1) m_95)
        · refine ok_iload 118 6 dX12_share_116 rfl rfl ?_
          refine ok_iload_n 119 2 dX12_share_118 rfl rfl rfl ?_
          refine ok_icmp_ge 126 122 dX12_share_119 (by decide) rfl (fun _ => ?_) (fun _ => ?_)
          · refine ok_iconst 127 0 dX12_share_126 rfl rfl ?_
            refine ok_iadd 128 dX12_share_127 rfl ?_
            refine ok_bndI (fun a5_128 => ?_)
            refine ok_istore 130 5 [some (.ref 123), some (.int a1), some (.int a2), some (.int r_42), some (.int a4_80), some (.int a5_128), some (.int s6_55), some (.int a7_102)] dX12_share_128 rfl (by decide) rfl ?_
            refine ok_iinc 133 6 1 [some (.ref 123), some (.int a1), some (.int a2), some (.int r_42), some (.int a4_80), some (.int a5_128), some (.int (s6_55 + 1)), some (.int a7_102)] dX12_share_130 rfl rfl rfl (by decide) rfl ?_
            refine ok_goto 55 dX12_share_133 (by decide) ?_
            exact ok_less [some (.ref 123), some (.int a1), some (.int a2), some (.int r_42), some (.int a4_80), some (.int a5_128), some (.int (s6_55 + 1)), none] (And.intro rfl (And.intro rfl (And.intro rfl (And.intro rfl (And.intro rfl (And.intro rfl (And.intro rfl (trivial)))))))) (hX a4_80 a5_128 (s6_55 + 1) m_95)
          · refine ok_iconst 123 1 dX12_share_122 rfl rfl ?_
            refine ok_goto 127 dX12_share_123 (by decide) ?_
            refine ok_iadd 128 dX12_share_127 rfl ?_
            refine ok_bndI (fun a5_128 => ?_)
            refine ok_istore 130 5 [some (.ref 123), some (.int a1), some (.int a2), some (.int r_42), some (.int a4_80), some (.int a5_128), some (.int s6_55), some (.int a7_102)] dX12_share_128 rfl (by decide) rfl ?_
            refine ok_iinc 133 6 1 [some (.ref 123), some (.int a1), some (.int a2), some (.int r_42), some (.int a4_80), some (.int a5_128), some (.int (s6_55 + 1)), some (.int a7_102)] dX12_share_130 rfl rfl rfl (by decide) rfl ?_
            refine ok_goto 55 dX12_share_133 (by decide) ?_
            exact ok_less [some (.ref 123), some (.int a1), some (.int a2), some (.int r_42), some (.int a4_80), some (.int a5_128), some (.int (s6_55 + 1)), none] (And.intro rfl (And.intro rfl (And.intro rfl (And.intro rfl (And.intro rfl (And.intro rfl (And.intro rfl (trivial)))))))) (hX a4_80 a5_128 (s6_55 + 1) m_95))

set_option maxRecDepth 100000 in
set_option maxHeartbeats 4000000 in
theorem ok_X12_share (N d : Nat) (a1 : Int32) (a2 : Int32)  (m : Mem) : Ok none SG (d + 3) m_X12_share 0 [some (.ref 123), some (.int a1), some (.int a2), none, none, none, none, none] [] SG m (f_X12_share N a1 a2 m) := by
  unfold f_X12_share
  refine ok_iload_n 1 1 dX12_share_0 rfl rfl rfl ?_
  refine ok_iconst 2 0 dX12_share_1 rfl rfl ?_
  refine ok_sipush 5 9999 dX12_share_2 rfl rfl ?_
  refine ok_callSi (np := 3) (M' := m_X12_isIn) (As := [.int a1, .int 0, .int 9999]) (st := []) 8 dX12_share_5 rfl rfl km_X12_isIn ks_X12_isIn ml_EncoresModel_56 (by decide) rfl rfl (Nat.le_of_ble_eq_true rfl) (c_X12_isIn N (d + 2) a1 0 9999 m) ⟨Nat.le_refl _, Nat.le_refl _⟩ (Or.inl rfl) rfl (fun r_5 m_5 _ => ?_)
  refine ok_if_eq 29 11 dX12_share_8 (by decide) rfl (fun _ => ?_) (fun _ => ?_)
  · refine ok_iconst 30 (-1) dX12_share_29 rfl rfl ?_
    exact ok_iret dX12_share_30 rfl
  · refine ok_aload_n 12 0 dX12_share_11 rfl rfl rfl ?_
    refine ok_iload_n 13 2 dX12_share_12 rfl rfl rfl ?_
    refine ok_callVi (np := 1) (M' := m_X12_isHearer) (As := [.int a2]) (st := []) 16 dX12_share_13 rfl rfl km_X12_isHearer ki_X12_isHearer kv_X12_isHearer ml_EncoresModel_68 (by decide) sg_123 rfl (Nat.le_of_ble_eq_true rfl) rfl rfl rfl (Nat.le_of_ble_eq_true rfl) (c_X12_isHearer N (d + 1) a2 m_5) ⟨Nat.le_refl _, Nat.le_refl _⟩ (Or.inl rfl) rfl (fun r_13 m_13 _ => ?_)
    refine ok_if_eq 29 19 dX12_share_16 (by decide) rfl (fun _ => ?_) (fun _ => ?_)
    · refine ok_iconst 30 (-1) dX12_share_29 rfl rfl ?_
      exact ok_iret dX12_share_30 rfl
    · refine ok_aload_n 20 0 dX12_share_19 rfl rfl rfl ?_
      refine ok_getR 23 dX12_share_20 rfl rfl F_EncoresModel_7 sg_123 rfl (Nat.le_of_ble_eq_true rfl) rfl rfl ?_
      refine ok_bipush 25 7 dX12_share_23 rfl rfl ?_
      refine ok_ialdc 26 7 dX12_share_25 rfl sg_124 (by decide) (by decide) ?_
      refine ok_if_ne 31 29 dX12_share_26 (by decide) rfl (fun _ => ?_) (fun _ => ?_)
      · refine ok_aload_n 32 0 dX12_share_31 rfl rfl rfl ?_
        refine ok_iload_n 33 2 dX12_share_32 rfl rfl rfl ?_
        refine ok_callVi (np := 1) (M' := m_X12_isThere) (As := [.int a2]) (st := []) 36 dX12_share_33 rfl rfl km_X12_isThere ki_X12_isThere kv_X12_isThere ml_EncoresModel_310 (by decide) sg_123 rfl (Nat.le_of_ble_eq_true rfl) rfl rfl rfl (Nat.le_of_ble_eq_true rfl) (c_X12_isThere N (d + 2) a2 m_13) ⟨Nat.le_refl _, Nat.le_refl _⟩ (Or.inl rfl) rfl (fun r_33 m_33 _ => ?_)
        refine ok_if_ne 41 39 dX12_share_36 (by decide) rfl (fun _ => ?_) (fun _ => ?_)
        · refine ok_aload_n 42 0 dX12_share_41 rfl rfl rfl ?_
          refine ok_callVi (np := 0) (M' := m_X12_allWeights) (As := []) (st := []) 45 dX12_share_42 rfl rfl km_X12_allWeights ki_X12_allWeights kv_X12_allWeights ml_EncoresModel_426 (by decide) sg_123 rfl (Nat.le_of_ble_eq_true rfl) rfl rfl rfl (Nat.le_of_ble_eq_true rfl) (c_X12_allWeights N (d + 0) m_33) ⟨Nat.le_refl _, Nat.le_refl _⟩ (Or.inl rfl) rfl (fun r_42 m_42 _ => ?_)
          refine ok_istore_n 46 3 [some (.ref 123), some (.int a1), some (.int a2), some (.int r_42), none, none, none, none] dX12_share_45 rfl rfl (by decide) rfl ?_
          refine ok_iload_n 47 1 dX12_share_46 rfl rfl rfl ?_
          refine ok_istore 49 4 [some (.ref 123), some (.int a1), some (.int a2), some (.int r_42), some (.int a1), none, none, none] dX12_share_47 rfl (by decide) rfl ?_
          refine ok_iconst 50 0 dX12_share_49 rfl rfl ?_
          refine ok_istore 52 5 [some (.ref 123), some (.int a1), some (.int a2), some (.int r_42), some (.int a1), some (.int 0), none, none] dX12_share_50 rfl (by decide) rfl ?_
          refine ok_iconst 53 0 dX12_share_52 rfl rfl ?_
          refine ok_istore 55 6 [some (.ref 123), some (.int a1), some (.int a2), some (.int r_42), some (.int a1), some (.int 0), some (.int 0), none] dX12_share_53 rfl (by decide) rfl ?_
          refine ok_less [some (.ref 123), some (.int a1), some (.int a2), some (.int r_42), some (.int a1), some (.int 0), some (.int 0), none] (And.intro rfl (And.intro rfl (And.intro rfl (And.intro rfl (And.intro rfl (And.intro rfl (And.intro rfl (trivial)))))))) ?_
          exact ok_X12_share_L55 N d a1 a2 r_42 _ (fun k4_136 k5_136 mk136 => by
              refine ok_iload_n 137 1 dX12_share_136 rfl rfl rfl ?_
              refine ok_aload_n 138 0 dX12_share_137 rfl rfl rfl ?_
              refine ok_iload_n 139 2 dX12_share_138 rfl rfl rfl ?_
              refine ok_callVi (np := 1) (M' := m_X12_weightOf) (As := [.int a2]) (st := [.int a1]) 142 dX12_share_139 rfl rfl km_X12_weightOf ki_X12_weightOf kv_X12_weightOf ml_EncoresModel_423 (by decide) sg_123 rfl (Nat.le_of_ble_eq_true rfl) rfl rfl rfl (Nat.le_of_ble_eq_true rfl) (c_X12_weightOf N (d + 1) a2 mk136) ⟨Nat.le_refl _, Nat.le_refl _⟩ (Or.inl rfl) rfl (fun r_139 m_139 _ => ?_)
              refine ok_imul 143 dX12_share_142 rfl ?_
              refine ok_iload_n 144 3 dX12_share_143 rfl rfl rfl ?_
              refine ok_idiv 145 dX12_share_144 rfl ?_
              refine ok_iload 147 5 dX12_share_145 rfl rfl ?_
              refine ok_iload 149 4 dX12_share_147 rfl rfl ?_
              refine ok_icmp_ge 156 152 dX12_share_149 (by decide) rfl (fun _ => ?_) (fun _ => ?_)
              · refine ok_iconst 157 0 dX12_share_156 rfl rfl ?_
                refine ok_iadd 158 dX12_share_157 rfl ?_
                exact ok_iret dX12_share_158 rfl
              · refine ok_iconst 153 1 dX12_share_152 rfl rfl ?_
                refine ok_goto 157 dX12_share_153 (by decide) ?_
                refine ok_iadd 158 dX12_share_157 rfl ?_
                exact ok_iret dX12_share_158 rfl) N a1 0 0 m_42
        · refine ok_iconst 40 0 dX12_share_39 rfl rfl ?_
          exact ok_iret dX12_share_40 rfl
      · refine ok_iconst 30 (-1) dX12_share_29 rfl rfl ?_
        exact ok_iret dX12_share_30 rfl

theorem c_X12_share (N d : Nat) (a1 : Int32) (a2 : Int32)  (m : Mem) : CM (d + 3) m_X12_share SG SG [.ref 123, .int a1, .int a2] m (f_X12_share N a1 a2 m) :=
  CM.ofOk km_X12_share ⟨Nat.le_refl _, Nat.le_refl _⟩ (by simp [Value.category]) (Nat.le_of_ble_eq_true rfl) (ok_X12_share N d a1 a2 m)

def f_X12_paidOnes_L4 (N : Nat)    (X : Int32 → Int32 → Mem → Ans) (s1_4 : Int32) (s2_4 : Int32) (m : Mem) : Ans :=
if (m 124 37) ≤ s2_4 then (some (s1_4, m))
else (bd (f_X12_isThere N s2_4 m) fun r_18 m_18 =>
if r_18 = 0 then (bnd (s1_4 + (0 : Int32)) fun a1_42 =>
X a1_42 (s2_4 + 1) m_18)
else (chk (inb ((9 : Int32) + s2_4) 1707) <|
if (m_18 124 ((9 : Int32) + s2_4).toNatClampNeg) ≤ 0 then (bnd (s1_4 + (0 : Int32)) fun a1_42 =>
X a1_42 (s2_4 + 1) m_18)
else (bnd (s1_4 + (1 : Int32)) fun a1_42 =>
X a1_42 (s2_4 + 1) m_18)))

def f_X12_paidOnes (N : Nat)  (m : Mem) : Ans :=
it2 (f_X12_paidOnes_L4 N ) N 0 0 m

set_option maxRecDepth 100000 in
set_option maxHeartbeats 4000000 in
theorem ok_X12_paidOnes_L4 (N d : Nat)     : ∀ (n : Nat) (s1_4 : Int32) (s2_4 : Int32) (m : Mem), Ok none SG (d + 1) m_X12_paidOnes 4 [some (.ref 123), some (.int s1_4), some (.int s2_4)] [] SG m (it2 (f_X12_paidOnes_L4 N) n s1_4 s2_4 m) :=
  ok_it2 (fun s1_4 s2_4 => [some (.ref 123), some (.int s1_4), some (.int s2_4)]) (fun X hX s1_4 s2_4 m => by
    try unfold f_X12_paidOnes_L4
    refine ok_iload_n 5 2 dX12_paidOnes_4 rfl rfl rfl ?_
    refine ok_aload_n 6 0 dX12_paidOnes_5 rfl rfl rfl ?_
    refine ok_getR 9 dX12_paidOnes_6 rfl rfl F_EncoresModel_7 sg_123 rfl (Nat.le_of_ble_eq_true rfl) rfl rfl ?_
    refine ok_bipush 11 37 dX12_paidOnes_9 rfl rfl ?_
    refine ok_ialdc 12 37 dX12_paidOnes_11 rfl sg_124 (by decide) (by decide) ?_
    refine ok_icmp_ge 49 15 dX12_paidOnes_12 (by decide) rfl (fun _ => ?_) (fun _ => ?_)
    · refine ok_iload_n 50 1 dX12_paidOnes_49 rfl rfl rfl ?_
      exact ok_iret dX12_paidOnes_50 rfl
    · refine ok_iload_n 16 1 dX12_paidOnes_15 rfl rfl rfl ?_
      refine ok_aload_n 17 0 dX12_paidOnes_16 rfl rfl rfl ?_
      refine ok_iload_n 18 2 dX12_paidOnes_17 rfl rfl rfl ?_
      refine ok_callVi (np := 1) (M' := m_X12_isThere) (As := [.int s2_4]) (st := [.int s1_4]) 21 dX12_paidOnes_18 rfl rfl km_X12_isThere ki_X12_isThere kv_X12_isThere ml_EncoresModel_310 (by decide) sg_123 rfl (Nat.le_of_ble_eq_true rfl) rfl rfl rfl (Nat.le_of_ble_eq_true rfl) (c_X12_isThere N (d + 0) s2_4 m) ⟨Nat.le_refl _, Nat.le_refl _⟩ (Or.inl rfl) rfl (fun r_18 m_18 _ => ?_)
      refine ok_if_eq 40 24 dX12_paidOnes_21 (by decide) rfl (fun _ => ?_) (fun _ => ?_)
      · refine ok_iconst 41 0 dX12_paidOnes_40 rfl rfl ?_
        refine ok_iadd 42 dX12_paidOnes_41 rfl ?_
        refine ok_bndI (fun a1_42 => ?_)
        refine ok_istore_n 43 1 [some (.ref 123), some (.int a1_42), some (.int s2_4)] dX12_paidOnes_42 rfl rfl (by decide) rfl ?_
        refine ok_iinc 46 2 1 [some (.ref 123), some (.int a1_42), some (.int (s2_4 + 1))] dX12_paidOnes_43 rfl rfl rfl (by decide) rfl ?_
        refine ok_goto 4 dX12_paidOnes_46 (by decide) ?_
        exact ok_less [some (.ref 123), some (.int a1_42), some (.int (s2_4 + 1))] (And.intro rfl (And.intro rfl (And.intro rfl (trivial)))) (hX a1_42 (s2_4 + 1) m_18)
      · refine ok_aload_n 25 0 dX12_paidOnes_24 rfl rfl rfl ?_
        refine ok_getR 28 dX12_paidOnes_25 rfl rfl F_EncoresModel_7 sg_123 rfl (Nat.le_of_ble_eq_true rfl) rfl rfl ?_
        refine ok_bipush 30 9 dX12_paidOnes_28 rfl rfl ?_
        refine ok_iload_n 31 2 dX12_paidOnes_30 rfl rfl rfl ?_
        refine ok_iadd 32 dX12_paidOnes_31 rfl ?_
        refine ok_iald 33 dX12_paidOnes_32 rfl sg_124 ?_
        refine ok_if_le 40 36 dX12_paidOnes_33 (by decide) rfl (fun _ => ?_) (fun _ => ?_)
        · refine ok_iconst 41 0 dX12_paidOnes_40 rfl rfl ?_
          refine ok_iadd 42 dX12_paidOnes_41 rfl ?_
          refine ok_bndI (fun a1_42 => ?_)
          refine ok_istore_n 43 1 [some (.ref 123), some (.int a1_42), some (.int s2_4)] dX12_paidOnes_42 rfl rfl (by decide) rfl ?_
          refine ok_iinc 46 2 1 [some (.ref 123), some (.int a1_42), some (.int (s2_4 + 1))] dX12_paidOnes_43 rfl rfl rfl (by decide) rfl ?_
          refine ok_goto 4 dX12_paidOnes_46 (by decide) ?_
          exact ok_less [some (.ref 123), some (.int a1_42), some (.int (s2_4 + 1))] (And.intro rfl (And.intro rfl (And.intro rfl (trivial)))) (hX a1_42 (s2_4 + 1) m_18)
        · refine ok_iconst 37 1 dX12_paidOnes_36 rfl rfl ?_
          refine ok_goto 41 dX12_paidOnes_37 (by decide) ?_
          refine ok_iadd 42 dX12_paidOnes_41 rfl ?_
          refine ok_bndI (fun a1_42 => ?_)
          refine ok_istore_n 43 1 [some (.ref 123), some (.int a1_42), some (.int s2_4)] dX12_paidOnes_42 rfl rfl (by decide) rfl ?_
          refine ok_iinc 46 2 1 [some (.ref 123), some (.int a1_42), some (.int (s2_4 + 1))] dX12_paidOnes_43 rfl rfl rfl (by decide) rfl ?_
          refine ok_goto 4 dX12_paidOnes_46 (by decide) ?_
          exact ok_less [some (.ref 123), some (.int a1_42), some (.int (s2_4 + 1))] (And.intro rfl (And.intro rfl (And.intro rfl (trivial)))) (hX a1_42 (s2_4 + 1) m_18))

set_option maxRecDepth 100000 in
set_option maxHeartbeats 4000000 in
theorem ok_X12_paidOnes (N d : Nat)   (m : Mem) : Ok none SG (d + 1) m_X12_paidOnes 0 [some (.ref 123), none, none] [] SG m (f_X12_paidOnes N m) := by
  unfold f_X12_paidOnes
  refine ok_iconst 1 0 dX12_paidOnes_0 rfl rfl ?_
  refine ok_istore_n 2 1 [some (.ref 123), some (.int 0), none] dX12_paidOnes_1 rfl rfl (by decide) rfl ?_
  refine ok_iconst 3 0 dX12_paidOnes_2 rfl rfl ?_
  refine ok_istore_n 4 2 [some (.ref 123), some (.int 0), some (.int 0)] dX12_paidOnes_3 rfl rfl (by decide) rfl ?_
  refine ok_less [some (.ref 123), some (.int 0), some (.int 0)] (And.intro rfl (And.intro rfl (And.intro rfl (trivial)))) ?_
  exact ok_X12_paidOnes_L4 N d     N 0 0 m

theorem c_X12_paidOnes (N d : Nat)   (m : Mem) : CM (d + 1) m_X12_paidOnes SG SG [.ref 123] m (f_X12_paidOnes N m) :=
  CM.ofOk km_X12_paidOnes ⟨Nat.le_refl _, Nat.le_refl _⟩ (by simp [Value.category]) (Nat.le_of_ble_eq_true rfl) (ok_X12_paidOnes N d  m)

def f_X12_brides_L23 (N : Nat)  (r_1 : Int32) (a2_17 : Int32)  (X : Int64 → Int32 → Mem → Ans) (s3_23 : Int64) (s5_23 : Int32) (m : Mem) : Ans :=
bd (f_X12_lesser N r_1 a2_17 m) fun r_27 m_27 =>
if r_27 ≤ s5_23 then (some (s3_23.toInt32, m_27))
else (bd (f_X12_greater N r_1 a2_17 m_27) fun r_36 m_36 =>
bnd (lrm (s3_23 * ((r_36 - s5_23).toInt64)) 1000000007) fun a3_48 =>
X a3_48 (s5_23 + 1) m_36)

def f_X12_brides (N : Nat)  (m : Mem) : Ans :=
bd (f_X12_paidOnes N m) fun r_1 m_1 =>
bd (f_X12_count N (m_1 124 7) m_1) fun r_12 m_12 =>
bnd (r_12 - r_1) fun a2_17 =>
it2 (f_X12_brides_L23 N r_1 a2_17 ) N 1 0 m_12

set_option maxRecDepth 100000 in
set_option maxHeartbeats 4000000 in
theorem ok_X12_brides_L23 (N d : Nat)   (r_1 : Int32) (a2_17 : Int32)  : ∀ (n : Nat) (s3_23 : Int64) (s5_23 : Int32) (m : Mem), Ok none SG (d + 2) m_X12_brides 23 [none, some (.int r_1), some (.int a2_17), some (.long s3_23), none, some (.int s5_23)] [] SG m (it2 (f_X12_brides_L23 N r_1 a2_17) n s3_23 s5_23 m) :=
  ok_it2 (fun s3_23 s5_23 => [none, some (.int r_1), some (.int a2_17), some (.long s3_23), none, some (.int s5_23)]) (fun X hX s3_23 s5_23 m => by
    try unfold f_X12_brides_L23
    refine ok_iload 25 5 dX12_brides_23 rfl rfl ?_
    refine ok_iload_n 26 1 dX12_brides_25 rfl rfl rfl ?_
    refine ok_iload_n 27 2 dX12_brides_26 rfl rfl rfl ?_
    refine ok_callSi (np := 2) (M' := m_X12_lesser) (As := [.int r_1, .int a2_17]) (st := [.int s5_23]) 30 dX12_brides_27 rfl rfl km_X12_lesser ks_X12_lesser ml_EncoresModel_286 (by decide) rfl rfl (Nat.le_of_ble_eq_true rfl) (c_X12_lesser N (d + 1) r_1 a2_17 m) ⟨Nat.le_refl _, Nat.le_refl _⟩ (Or.inl rfl) rfl (fun r_27 m_27 _ => ?_)
    refine ok_icmp_ge 55 33 dX12_brides_30 (by decide) rfl (fun _ => ?_) (fun _ => ?_)
    · refine ok_lload_n 56 3 dX12_brides_55 rfl rfl rfl ?_
      refine ok_l2i 57 dX12_brides_56 rfl ?_
      exact ok_iret dX12_brides_57 rfl
    · refine ok_lload_n 34 3 dX12_brides_33 rfl rfl rfl ?_
      refine ok_iload_n 35 1 dX12_brides_34 rfl rfl rfl ?_
      refine ok_iload_n 36 2 dX12_brides_35 rfl rfl rfl ?_
      refine ok_callSi (np := 2) (M' := m_X12_greater) (As := [.int r_1, .int a2_17]) (st := [.long s3_23]) 39 dX12_brides_36 rfl rfl km_X12_greater ks_X12_greater ml_EncoresModel_290 (by decide) rfl rfl (Nat.le_of_ble_eq_true rfl) (c_X12_greater N (d + 1) r_1 a2_17 m_27) ⟨Nat.le_refl _, Nat.le_refl _⟩ (Or.inl rfl) rfl (fun r_36 m_36 _ => ?_)
      refine ok_iload 41 5 dX12_brides_39 rfl rfl ?_
      refine ok_isub 42 dX12_brides_41 rfl ?_
      refine ok_i2l 43 dX12_brides_42 rfl ?_
      refine ok_lmul 44 dX12_brides_43 rfl ?_
      refine ok_ldc2 47 1000000007 dX12_brides_44 rfl rfl cl_EncoresModel_432 ?_
      refine ok_lremc 48 dX12_brides_47 rfl (by decide) ?_
      refine ok_bndL (fun a3_48 => ?_)
      refine ok_lstore_n 49 3 [none, some (.int r_1), some (.int a2_17), some (.long a3_48), none, some (.int s5_23)] dX12_brides_48 rfl rfl (by decide) rfl ?_
      refine ok_iinc 52 5 1 [none, some (.int r_1), some (.int a2_17), some (.long a3_48), none, some (.int (s5_23 + 1))] dX12_brides_49 rfl rfl rfl (by decide) rfl ?_
      refine ok_goto 23 dX12_brides_52 (by decide) ?_
      exact ok_less [none, some (.int r_1), some (.int a2_17), some (.long a3_48), none, some (.int (s5_23 + 1))] (And.intro rfl (And.intro rfl (And.intro rfl (And.intro rfl (trivial))))) (hX a3_48 (s5_23 + 1) m_36))

set_option maxRecDepth 100000 in
set_option maxHeartbeats 4000000 in
theorem ok_X12_brides (N d : Nat)   (m : Mem) : Ok none SG (d + 2) m_X12_brides 0 [some (.ref 123), none, none, none, none, none] [] SG m (f_X12_brides N m) := by
  unfold f_X12_brides
  refine ok_aload_n 1 0 dX12_brides_0 rfl rfl rfl ?_
  refine ok_callVi (np := 0) (M' := m_X12_paidOnes) (As := []) (st := []) 4 dX12_brides_1 rfl rfl km_X12_paidOnes ki_X12_paidOnes kv_X12_paidOnes ml_EncoresModel_429 (by decide) sg_123 rfl (Nat.le_of_ble_eq_true rfl) rfl rfl rfl (Nat.le_of_ble_eq_true rfl) (c_X12_paidOnes N (d + 0) m) ⟨Nat.le_refl _, Nat.le_refl _⟩ (Or.inl rfl) rfl (fun r_1 m_1 _ => ?_)
  refine ok_istore_n 5 1 [some (.ref 123), some (.int r_1), none, none, none, none] dX12_brides_4 rfl rfl (by decide) rfl ?_
  refine ok_aload_n 6 0 dX12_brides_5 rfl rfl rfl ?_
  refine ok_getR 9 dX12_brides_6 rfl rfl F_EncoresModel_7 sg_123 rfl (Nat.le_of_ble_eq_true rfl) rfl rfl ?_
  refine ok_bipush 11 7 dX12_brides_9 rfl rfl ?_
  refine ok_ialdc 12 7 dX12_brides_11 rfl sg_124 (by decide) (by decide) ?_
  refine ok_callSi (np := 1) (M' := m_X12_count) (As := [.int (m_1 124 7)]) (st := []) 15 dX12_brides_12 rfl rfl km_X12_count ks_X12_count ml_EncoresModel_319 (by decide) rfl rfl (Nat.le_of_ble_eq_true rfl) (c_X12_count N (d + 1) (m_1 124 7) m_1) ⟨Nat.le_refl _, Nat.le_refl _⟩ (Or.inl rfl) rfl (fun r_12 m_12 _ => ?_)
  refine ok_iload_n 16 1 dX12_brides_15 rfl rfl rfl ?_
  refine ok_isub 17 dX12_brides_16 rfl ?_
  refine ok_bndI (fun a2_17 => ?_)
  refine ok_istore_n 18 2 [some (.ref 123), some (.int r_1), some (.int a2_17), none, none, none] dX12_brides_17 rfl rfl (by decide) rfl ?_
  refine ok_lconst 19 1 dX12_brides_18 rfl rfl ?_
  refine ok_lstore_n 20 3 [some (.ref 123), some (.int r_1), some (.int a2_17), some (.long 1), none, none] dX12_brides_19 rfl rfl (by decide) rfl ?_
  refine ok_iconst 21 0 dX12_brides_20 rfl rfl ?_
  refine ok_istore 23 5 [some (.ref 123), some (.int r_1), some (.int a2_17), some (.long 1), none, some (.int 0)] dX12_brides_21 rfl (by decide) rfl ?_
  refine ok_less [none, some (.int r_1), some (.int a2_17), some (.long 1), none, some (.int 0)] (And.intro rfl (And.intro rfl (And.intro rfl (And.intro rfl (trivial))))) ?_
  exact ok_X12_brides_L23 N d  r_1 a2_17   N 1 0 m_12

theorem c_X12_brides (N d : Nat)   (m : Mem) : CM (d + 2) m_X12_brides SG SG [.ref 123] m (f_X12_brides N m) :=
  CM.ofOk km_X12_brides ⟨Nat.le_refl _, Nat.le_refl _⟩ (by simp [Value.category]) (Nat.le_of_ble_eq_true rfl) (ok_X12_brides N d  m)

def f_X12_laysNims_L78 (N : Nat)  (s1_69 : Int32) (a2_70 : Int32) (K105 : Mem → Ans) (X : Mem → Ans)  (m : Mem) : Ans :=
chk (inb s1_69 61) <|
if ((a2_70 >>> ((m 137 s1_69.toNatClampNeg) &&& 31)) &&& (1 : Int32)) = (1 : Int32) then (chk (inb s1_69 61) <|
chk (inb s1_69 61) <|
bnd (mset m 137 s1_69.toNatClampNeg ((m 137 s1_69.toNatClampNeg) + (1 : Int32))) fun m_101 =>
X m_101)
else (K105 m)

def f_X12_laysNims_J69 (N : Nat)    (X : Int32 → Mem → Ans) (s1_69 : Int32) (t0_69 : Int32) (t1_69 : Int32) (m : Mem) : Ans :=
bnd (t1_69 ||| t0_69) fun a2_70 =>
chk (inb s1_69 61) <|
bnd (mset m 137 s1_69.toNatClampNeg 0) fun m_77 =>
it0 (f_X12_laysNims_L78 N s1_69 a2_70 (fun mk105 => X (s1_69 + 1) mk105)) N m_77

def f_X12_laysNims_J47 (N : Nat)    (X : Int32 → Mem → Ans) (s1_47 : Int32) (t0_47 : Int32) (t1_47 : Int32) (m : Mem) : Ans :=
bnd (t1_47 ||| t0_47) fun a2_48 =>
if s1_47 ≤ (3 : Int32) then (f_X12_laysNims_J69 N  X s1_47 0 a2_48 m)
else (chk (inb (s1_47 - (4 : Int32)) 61) <|
f_X12_laysNims_J69 N  X s1_47 ((1 : Int32) <<< ((m 137 (s1_47 - (4 : Int32)).toNatClampNeg) &&& 31)) a2_48 m)

def f_X12_laysNims_J26 (N : Nat)    (X : Int32 → Mem → Ans) (s1_26 : Int32) (t0_26 : Int32) (m : Mem) : Ans :=
if s1_26 ≤ (2 : Int32) then (f_X12_laysNims_J47 N  X s1_26 0 t0_26 m)
else (chk (inb (s1_26 - (3 : Int32)) 61) <|
f_X12_laysNims_J47 N  X s1_26 ((1 : Int32) <<< ((m 137 (s1_26 - (3 : Int32)).toNatClampNeg) &&& 31)) t0_26 m)

def f_X12_laysNims_L2 (N : Nat)    (X : Int32 → Mem → Ans) (s1_2 : Int32) (m : Mem) : Ans :=
if (60 : Int32) < s1_2 then (some (0, m))
else (if s1_2 ≤ 0 then (f_X12_laysNims_J26 N  X s1_2 0 m)
else (chk (inb (s1_2 - (1 : Int32)) 61) <|
f_X12_laysNims_J26 N  X s1_2 ((1 : Int32) <<< ((m 137 (s1_2 - (1 : Int32)).toNatClampNeg) &&& 31)) m))

def f_X12_laysNims (N : Nat)  (m : Mem) : Ans :=
it1 (f_X12_laysNims_L2 N ) N 0 m

set_option maxRecDepth 100000 in
set_option maxHeartbeats 4000000 in
theorem ok_X12_laysNims_L78 (N d : Nat)   (s1_69 : Int32) (a2_70 : Int32) (K105 : Mem → Ans) (hK105 : ∀  (m : Mem), Ok none SG (d + 0) m_X12_laysNims 105 [some (.ref 123), some (.int s1_69), none] [] SG m (K105 m)) : ∀ (n : Nat) (m : Mem), Ok none SG (d + 0) m_X12_laysNims 78 [some (.ref 123), some (.int s1_69), some (.int a2_70)] [] SG m (it0 (f_X12_laysNims_L78 N s1_69 a2_70 K105) n m) :=
  ok_it0 [some (.ref 123), some (.int s1_69), some (.int a2_70)] (fun X hX m => by
    try unfold f_X12_laysNims_L78
    refine ok_iload_n 79 2 dX12_laysNims_78 rfl rfl rfl ?_
    refine ok_aload_n 80 0 dX12_laysNims_79 rfl rfl rfl ?_
    refine ok_getR 83 dX12_laysNims_80 rfl rfl F_EncoresModel_53 sg_123 rfl (Nat.le_of_ble_eq_true rfl) rfl rfl ?_
    refine ok_iload_n 84 1 dX12_laysNims_83 rfl rfl rfl ?_
    refine ok_iald 85 dX12_laysNims_84 rfl sg_137 ?_
    refine ok_ishr 86 dX12_laysNims_85 rfl ?_
    refine ok_iconst 87 1 dX12_laysNims_86 rfl rfl ?_
    refine ok_iand 88 dX12_laysNims_87 rfl ?_
    refine ok_iconst 89 1 dX12_laysNims_88 rfl rfl ?_
    refine ok_icmp_ne 105 92 dX12_laysNims_89 (by decide) rfl (fun _ => ?_) (fun _ => ?_)
    · exact ok_less [some (.ref 123), some (.int s1_69), none] (And.intro rfl (And.intro rfl (trivial))) (hK105 m)
    · refine ok_aload_n 93 0 dX12_laysNims_92 rfl rfl rfl ?_
      refine ok_getR 96 dX12_laysNims_93 rfl rfl F_EncoresModel_53 sg_123 rfl (Nat.le_of_ble_eq_true rfl) rfl rfl ?_
      refine ok_iload_n 97 1 dX12_laysNims_96 rfl rfl rfl ?_
      refine ok_dup2 98 dX12_laysNims_97 rfl rfl rfl ?_
      refine ok_iald 99 dX12_laysNims_98 rfl sg_137 ?_
      refine ok_iconst 100 1 dX12_laysNims_99 rfl rfl ?_
      refine ok_iadd 101 dX12_laysNims_100 rfl ?_
      refine ok_iast 102 dX12_laysNims_101 rfl sg_137 ?_
      refine ok_bndM (fun m_101 => ?_)
      refine ok_goto 78 dX12_laysNims_102 (by decide) ?_
      exact ok_less [some (.ref 123), some (.int s1_69), some (.int a2_70)] (And.intro rfl (And.intro rfl (And.intro rfl (trivial)))) (hX m_101))

set_option maxRecDepth 100000 in
set_option maxHeartbeats 4000000 in
theorem ok_X12_laysNims_J69 (N d : Nat)     (X : Int32 → Mem → Ans) (hX : ∀ (k1 : Int32) (m : Mem), Ok none SG (d + 0) m_X12_laysNims 2 [some (.ref 123), some (.int k1), none] [] SG m (X k1 m)) (s1_69 : Int32) (t0_69 : Int32) (t1_69 : Int32) (m : Mem) : Ok none SG (d + 0) m_X12_laysNims 69 [some (.ref 123), some (.int s1_69), none] [.int t0_69, .int t1_69] SG m (f_X12_laysNims_J69 N  X s1_69 t0_69 t1_69 m) := by
  unfold f_X12_laysNims_J69
  refine ok_ior 70 dX12_laysNims_69 rfl ?_
  refine ok_bndI (fun a2_70 => ?_)
  refine ok_istore_n 71 2 [some (.ref 123), some (.int s1_69), some (.int a2_70)] dX12_laysNims_70 rfl rfl (by decide) rfl ?_
  refine ok_aload_n 72 0 dX12_laysNims_71 rfl rfl rfl ?_
  refine ok_getR 75 dX12_laysNims_72 rfl rfl F_EncoresModel_53 sg_123 rfl (Nat.le_of_ble_eq_true rfl) rfl rfl ?_
  refine ok_iload_n 76 1 dX12_laysNims_75 rfl rfl rfl ?_
  refine ok_iconst 77 0 dX12_laysNims_76 rfl rfl ?_
  refine ok_iast 78 dX12_laysNims_77 rfl sg_137 ?_
  refine ok_bndM (fun m_77 => ?_)
  refine ok_less [some (.ref 123), some (.int s1_69), some (.int a2_70)] (And.intro rfl (And.intro rfl (And.intro rfl (trivial)))) ?_
  exact ok_X12_laysNims_L78 N d  s1_69 a2_70 _ (fun mk105 => by
      refine ok_iinc 108 1 1 [some (.ref 123), some (.int (s1_69 + 1)), none] dX12_laysNims_105 rfl rfl rfl (by decide) rfl ?_
      refine ok_goto 2 dX12_laysNims_108 (by decide) ?_
      exact ok_less [some (.ref 123), some (.int (s1_69 + 1)), none] (And.intro rfl (And.intro rfl (trivial))) (hX (s1_69 + 1) mk105)) N m_77

set_option maxRecDepth 100000 in
set_option maxHeartbeats 4000000 in
theorem ok_X12_laysNims_J47 (N d : Nat)     (X : Int32 → Mem → Ans) (hX : ∀ (k1 : Int32) (m : Mem), Ok none SG (d + 0) m_X12_laysNims 2 [some (.ref 123), some (.int k1), none] [] SG m (X k1 m)) (s1_47 : Int32) (t0_47 : Int32) (t1_47 : Int32) (m : Mem) : Ok none SG (d + 0) m_X12_laysNims 47 [some (.ref 123), some (.int s1_47), none] [.int t0_47, .int t1_47] SG m (f_X12_laysNims_J47 N  X s1_47 t0_47 t1_47 m) := by
  unfold f_X12_laysNims_J47
  refine ok_ior 48 dX12_laysNims_47 rfl ?_
  refine ok_bndI (fun a2_48 => ?_)
  refine ok_istore_n 49 2 [some (.ref 123), some (.int s1_47), some (.int a2_48)] dX12_laysNims_48 rfl rfl (by decide) rfl ?_
  refine ok_iload_n 50 2 dX12_laysNims_49 rfl rfl rfl ?_
  refine ok_iload_n 51 1 dX12_laysNims_50 rfl rfl rfl ?_
  refine ok_iconst 52 3 dX12_laysNims_51 rfl rfl ?_
  refine ok_icmp_le 68 55 dX12_laysNims_52 (by decide) rfl (fun _ => ?_) (fun _ => ?_)
  · refine ok_iconst 69 0 dX12_laysNims_68 rfl rfl ?_
    exact ok_less [some (.ref 123), some (.int s1_47), none] (And.intro rfl (And.intro rfl (trivial))) (ok_X12_laysNims_J69 N d    X hX s1_47 0 a2_48 m)
  · refine ok_iconst 56 1 dX12_laysNims_55 rfl rfl ?_
    refine ok_aload_n 57 0 dX12_laysNims_56 rfl rfl rfl ?_
    refine ok_getR 60 dX12_laysNims_57 rfl rfl F_EncoresModel_53 sg_123 rfl (Nat.le_of_ble_eq_true rfl) rfl rfl ?_
    refine ok_iload_n 61 1 dX12_laysNims_60 rfl rfl rfl ?_
    refine ok_iconst 62 4 dX12_laysNims_61 rfl rfl ?_
    refine ok_isub 63 dX12_laysNims_62 rfl ?_
    refine ok_iald 64 dX12_laysNims_63 rfl sg_137 ?_
    refine ok_ishl 65 dX12_laysNims_64 rfl ?_
    refine ok_goto 69 dX12_laysNims_65 (by decide) ?_
    exact ok_less [some (.ref 123), some (.int s1_47), none] (And.intro rfl (And.intro rfl (trivial))) (ok_X12_laysNims_J69 N d    X hX s1_47 ((1 : Int32) <<< ((m 137 (s1_47 - (4 : Int32)).toNatClampNeg) &&& 31)) a2_48 m)

set_option maxRecDepth 100000 in
set_option maxHeartbeats 4000000 in
theorem ok_X12_laysNims_J26 (N d : Nat)     (X : Int32 → Mem → Ans) (hX : ∀ (k1 : Int32) (m : Mem), Ok none SG (d + 0) m_X12_laysNims 2 [some (.ref 123), some (.int k1), none] [] SG m (X k1 m)) (s1_26 : Int32) (t0_26 : Int32) (m : Mem) : Ok none SG (d + 0) m_X12_laysNims 26 [some (.ref 123), some (.int s1_26), none] [.int t0_26] SG m (f_X12_laysNims_J26 N  X s1_26 t0_26 m) := by
  unfold f_X12_laysNims_J26
  refine ok_istore_n 27 2 [some (.ref 123), some (.int s1_26), some (.int t0_26)] dX12_laysNims_26 rfl rfl (by decide) rfl ?_
  refine ok_iload_n 28 2 dX12_laysNims_27 rfl rfl rfl ?_
  refine ok_iload_n 29 1 dX12_laysNims_28 rfl rfl rfl ?_
  refine ok_iconst 30 2 dX12_laysNims_29 rfl rfl ?_
  refine ok_icmp_le 46 33 dX12_laysNims_30 (by decide) rfl (fun _ => ?_) (fun _ => ?_)
  · refine ok_iconst 47 0 dX12_laysNims_46 rfl rfl ?_
    exact ok_less [some (.ref 123), some (.int s1_26), none] (And.intro rfl (And.intro rfl (trivial))) (ok_X12_laysNims_J47 N d    X hX s1_26 0 t0_26 m)
  · refine ok_iconst 34 1 dX12_laysNims_33 rfl rfl ?_
    refine ok_aload_n 35 0 dX12_laysNims_34 rfl rfl rfl ?_
    refine ok_getR 38 dX12_laysNims_35 rfl rfl F_EncoresModel_53 sg_123 rfl (Nat.le_of_ble_eq_true rfl) rfl rfl ?_
    refine ok_iload_n 39 1 dX12_laysNims_38 rfl rfl rfl ?_
    refine ok_iconst 40 3 dX12_laysNims_39 rfl rfl ?_
    refine ok_isub 41 dX12_laysNims_40 rfl ?_
    refine ok_iald 42 dX12_laysNims_41 rfl sg_137 ?_
    refine ok_ishl 43 dX12_laysNims_42 rfl ?_
    refine ok_goto 47 dX12_laysNims_43 (by decide) ?_
    exact ok_less [some (.ref 123), some (.int s1_26), none] (And.intro rfl (And.intro rfl (trivial))) (ok_X12_laysNims_J47 N d    X hX s1_26 ((1 : Int32) <<< ((m 137 (s1_26 - (3 : Int32)).toNatClampNeg) &&& 31)) t0_26 m)

set_option maxRecDepth 100000 in
set_option maxHeartbeats 4000000 in
theorem ok_X12_laysNims_L2 (N d : Nat)     : ∀ (n : Nat) (s1_2 : Int32) (m : Mem), Ok none SG (d + 0) m_X12_laysNims 2 [some (.ref 123), some (.int s1_2), none] [] SG m (it1 (f_X12_laysNims_L2 N) n s1_2 m) :=
  ok_it1 (fun s1_2 => [some (.ref 123), some (.int s1_2), none]) (fun X hX s1_2 m => by
    try unfold f_X12_laysNims_L2
    refine ok_iload_n 3 1 dX12_laysNims_2 rfl rfl rfl ?_
    refine ok_bipush 5 60 dX12_laysNims_3 rfl rfl ?_
    refine ok_icmp_gt 111 8 dX12_laysNims_5 (by decide) rfl (fun _ => ?_) (fun _ => ?_)
    · exact ok_vret dX12_laysNims_111 rfl
    · refine ok_iload_n 9 1 dX12_laysNims_8 rfl rfl rfl ?_
      refine ok_if_le 25 12 dX12_laysNims_9 (by decide) rfl (fun _ => ?_) (fun _ => ?_)
      · refine ok_iconst 26 0 dX12_laysNims_25 rfl rfl ?_
        exact ok_less [some (.ref 123), some (.int s1_2), none] (And.intro rfl (And.intro rfl (trivial))) (ok_X12_laysNims_J26 N d    X hX s1_2 0 m)
      · refine ok_iconst 13 1 dX12_laysNims_12 rfl rfl ?_
        refine ok_aload_n 14 0 dX12_laysNims_13 rfl rfl rfl ?_
        refine ok_getR 17 dX12_laysNims_14 rfl rfl F_EncoresModel_53 sg_123 rfl (Nat.le_of_ble_eq_true rfl) rfl rfl ?_
        refine ok_iload_n 18 1 dX12_laysNims_17 rfl rfl rfl ?_
        refine ok_iconst 19 1 dX12_laysNims_18 rfl rfl ?_
        refine ok_isub 20 dX12_laysNims_19 rfl ?_
        refine ok_iald 21 dX12_laysNims_20 rfl sg_137 ?_
        refine ok_ishl 22 dX12_laysNims_21 rfl ?_
        refine ok_goto 26 dX12_laysNims_22 (by decide) ?_
        exact ok_less [some (.ref 123), some (.int s1_2), none] (And.intro rfl (And.intro rfl (trivial))) (ok_X12_laysNims_J26 N d    X hX s1_2 ((1 : Int32) <<< ((m 137 (s1_2 - (1 : Int32)).toNatClampNeg) &&& 31)) m))

set_option maxRecDepth 100000 in
set_option maxHeartbeats 4000000 in
theorem ok_X12_laysNims (N d : Nat)   (m : Mem) : Ok none SG (d + 0) m_X12_laysNims 0 [some (.ref 123), none, none] [] SG m (f_X12_laysNims N m) := by
  unfold f_X12_laysNims
  refine ok_iconst 1 0 dX12_laysNims_0 rfl rfl ?_
  refine ok_istore_n 2 1 [some (.ref 123), some (.int 0), none] dX12_laysNims_1 rfl rfl (by decide) rfl ?_
  refine ok_less [some (.ref 123), some (.int 0), none] (And.intro rfl (And.intro rfl (trivial))) ?_
  exact ok_X12_laysNims_L2 N d     N 0 m

theorem c_X12_laysNims (N d : Nat)   (m : Mem) : CM (d + 0) m_X12_laysNims SG SG [.ref 123] m (f_X12_laysNims N m) :=
  CM.ofOk km_X12_laysNims ⟨Nat.le_refl _, Nat.le_refl _⟩ (by simp [Value.category]) (Nat.le_of_ble_eq_true rfl) (ok_X12_laysNims N d  m)

def f_X12_game_L19 (N : Nat) (a1 : Int32)  (K53 : Int32 → Mem → Ans) (X : Int32 → Int32 → Mem → Ans) (s2_19 : Int32) (s3_19 : Int32) (m : Mem) : Ans :=
if (m 124 38) ≤ s3_19 then (K53 s2_19 m)
else (chk (inb ((89 : Int32) + s3_19) 1707) <|
chk (inb (m 124 ((89 : Int32) + s3_19).toNatClampNeg) 61) <|
bnd (s2_19 ^^^ (m 137 (m 124 ((89 : Int32) + s3_19).toNatClampNeg).toNatClampNeg)) fun a2_46 =>
X a2_46 (s3_19 + 1) m)

def f_X12_game_L80 (N : Nat) (a1 : Int32) (k2_53 : Int32) (s3_55 : Int32) (a4_75 : Int32) (K136 : Mem → Ans) (X : Int32 → Mem → Ans) (s5_80 : Int32) (m : Mem) : Ans :=
bd (f_X12_lesser N 4 a4_75 m) fun r_85 m_85 =>
if r_85 < s5_80 then (K136 m_85)
else (if s5_80 = (2 : Int32) then (X (s5_80 + 1) m_85)
else (chk (inb a4_75 61) <|
chk (inb (a4_75 - s5_80) 61) <|
if (k2_53 ^^^ (m_85 137 a4_75.toNatClampNeg)) = (m_85 137 (a4_75 - s5_80).toNatClampNeg) then (if a1 = 0 then (some (s3_55, m_85))
else (some (s5_80, m_85)))
else (X (s5_80 + 1) m_85)))

def f_X12_game_L55 (N : Nat) (a1 : Int32) (k2_53 : Int32)  (X : Int32 → Mem → Ans) (s3_55 : Int32) (m : Mem) : Ans :=
if (m 124 38) ≤ s3_55 then (some ((-1), m))
else (chk (inb ((89 : Int32) + s3_55) 1707) <|
bnd (m 124 ((89 : Int32) + s3_55).toNatClampNeg) fun a4_75 =>
it1 (f_X12_game_L80 N a1 k2_53 s3_55 a4_75 (fun mk136 => X (s3_55 + 1) mk136)) N 1 m)

def f_X12_game (N : Nat) (a1 : Int32) (m : Mem) : Ans :=
bd (f_X12_isIn N a1 0 1 m) fun r_3 m_3 =>
if r_3 = 0 then (some ((-1), m_3))
else (bd (f_X12_laysNims N m_3) fun _ m_12 =>
it2 (f_X12_game_L19 N a1 (fun k2_53 mk53 => it1 (f_X12_game_L55 N a1 k2_53 ) N 0 mk53)) N 0 0 m_12)

set_option maxRecDepth 100000 in
set_option maxHeartbeats 4000000 in
theorem ok_X12_game_L19 (N d : Nat) (a1 : Int32)   (K53 : Int32 → Mem → Ans) (hK53 : ∀ (k2 : Int32) (m : Mem), Ok none SG (d + 1) m_X12_game 53 [some (.ref 123), some (.int a1), some (.int k2), none, none, none] [] SG m (K53 k2 m)) : ∀ (n : Nat) (s2_19 : Int32) (s3_19 : Int32) (m : Mem), Ok none SG (d + 1) m_X12_game 19 [some (.ref 123), some (.int a1), some (.int s2_19), some (.int s3_19), none, none] [] SG m (it2 (f_X12_game_L19 N a1 K53) n s2_19 s3_19 m) :=
  ok_it2 (fun s2_19 s3_19 => [some (.ref 123), some (.int a1), some (.int s2_19), some (.int s3_19), none, none]) (fun X hX s2_19 s3_19 m => by
    try unfold f_X12_game_L19
    refine ok_iload_n 20 3 dX12_game_19 rfl rfl rfl ?_
    refine ok_aload_n 21 0 dX12_game_20 rfl rfl rfl ?_
    refine ok_getR 24 dX12_game_21 rfl rfl F_EncoresModel_7 sg_123 rfl (Nat.le_of_ble_eq_true rfl) rfl rfl ?_
    refine ok_bipush 26 38 dX12_game_24 rfl rfl ?_
    refine ok_ialdc 27 38 dX12_game_26 rfl sg_124 (by decide) (by decide) ?_
    refine ok_icmp_ge 53 30 dX12_game_27 (by decide) rfl (fun _ => ?_) (fun _ => ?_)
    · exact ok_less [some (.ref 123), some (.int a1), some (.int s2_19), none, none, none] (And.intro rfl (And.intro rfl (And.intro rfl (trivial)))) (hK53 s2_19 m)
    · refine ok_iload_n 31 2 dX12_game_30 rfl rfl rfl ?_
      refine ok_aload_n 32 0 dX12_game_31 rfl rfl rfl ?_
      refine ok_getR 35 dX12_game_32 rfl rfl F_EncoresModel_53 sg_123 rfl (Nat.le_of_ble_eq_true rfl) rfl rfl ?_
      refine ok_aload_n 36 0 dX12_game_35 rfl rfl rfl ?_
      refine ok_getR 39 dX12_game_36 rfl rfl F_EncoresModel_7 sg_123 rfl (Nat.le_of_ble_eq_true rfl) rfl rfl ?_
      refine ok_bipush 41 89 dX12_game_39 rfl rfl ?_
      refine ok_iload_n 42 3 dX12_game_41 rfl rfl rfl ?_
      refine ok_iadd 43 dX12_game_42 rfl ?_
      refine ok_iald 44 dX12_game_43 rfl sg_124 ?_
      refine ok_iald 45 dX12_game_44 rfl sg_137 ?_
      refine ok_ixor 46 dX12_game_45 rfl ?_
      refine ok_bndI (fun a2_46 => ?_)
      refine ok_istore_n 47 2 [some (.ref 123), some (.int a1), some (.int a2_46), some (.int s3_19), none, none] dX12_game_46 rfl rfl (by decide) rfl ?_
      refine ok_iinc 50 3 1 [some (.ref 123), some (.int a1), some (.int a2_46), some (.int (s3_19 + 1)), none, none] dX12_game_47 rfl rfl rfl (by decide) rfl ?_
      refine ok_goto 19 dX12_game_50 (by decide) ?_
      exact ok_less [some (.ref 123), some (.int a1), some (.int a2_46), some (.int (s3_19 + 1)), none, none] (And.intro rfl (And.intro rfl (And.intro rfl (And.intro rfl (trivial))))) (hX a2_46 (s3_19 + 1) m))

set_option maxRecDepth 100000 in
set_option maxHeartbeats 4000000 in
theorem ok_X12_game_L80 (N d : Nat) (a1 : Int32)  (k2_53 : Int32) (s3_55 : Int32) (a4_75 : Int32) (K136 : Mem → Ans) (hK136 : ∀  (m : Mem), Ok none SG (d + 1) m_X12_game 136 [some (.ref 123), some (.int a1), some (.int k2_53), some (.int s3_55), none, none] [] SG m (K136 m)) : ∀ (n : Nat) (s5_80 : Int32) (m : Mem), Ok none SG (d + 1) m_X12_game 80 [some (.ref 123), some (.int a1), some (.int k2_53), some (.int s3_55), some (.int a4_75), some (.int s5_80)] [] SG m (it1 (f_X12_game_L80 N a1 k2_53 s3_55 a4_75 K136) n s5_80 m) :=
  ok_it1 (fun s5_80 => [some (.ref 123), some (.int a1), some (.int k2_53), some (.int s3_55), some (.int a4_75), some (.int s5_80)]) (fun X hX s5_80 m => by
    try unfold f_X12_game_L80
    refine ok_iload 82 5 dX12_game_80 rfl rfl ?_
    refine ok_iconst 83 4 dX12_game_82 rfl rfl ?_
    refine ok_iload 85 4 dX12_game_83 rfl rfl ?_
    refine ok_callSi (np := 2) (M' := m_X12_lesser) (As := [.int 4, .int a4_75]) (st := [.int s5_80]) 88 dX12_game_85 rfl rfl km_X12_lesser ks_X12_lesser ml_EncoresModel_286 (by decide) rfl rfl (Nat.le_of_ble_eq_true rfl) (c_X12_lesser N (d + 0) 4 a4_75 m) ⟨Nat.le_refl _, Nat.le_refl _⟩ (Or.inl rfl) rfl (fun r_85 m_85 _ => ?_)
    refine ok_icmp_gt 136 91 dX12_game_88 (by decide) rfl (fun _ => ?_) (fun _ => ?_)
    · exact ok_less [some (.ref 123), some (.int a1), some (.int k2_53), some (.int s3_55), none, none] (And.intro rfl (And.intro rfl (And.intro rfl (And.intro rfl (trivial))))) (hK136 m_85)
    · refine ok_iload 93 5 dX12_game_91 rfl rfl ?_
      refine ok_iconst 94 2 dX12_game_93 rfl rfl ?_
      refine ok_icmp_eq 130 97 dX12_game_94 (by decide) rfl (fun _ => ?_) (fun _ => ?_)
      · refine ok_iinc 133 5 1 [some (.ref 123), some (.int a1), some (.int k2_53), some (.int s3_55), some (.int a4_75), some (.int (s5_80 + 1))] dX12_game_130 rfl rfl rfl (by decide) rfl ?_
        refine ok_goto 80 dX12_game_133 (by decide) ?_
        exact ok_less [some (.ref 123), some (.int a1), some (.int k2_53), some (.int s3_55), some (.int a4_75), some (.int (s5_80 + 1))] (And.intro rfl (And.intro rfl (And.intro rfl (And.intro rfl (And.intro rfl (And.intro rfl (trivial))))))) (hX (s5_80 + 1) m_85)
      · refine ok_iload_n 98 2 dX12_game_97 rfl rfl rfl ?_
        refine ok_aload_n 99 0 dX12_game_98 rfl rfl rfl ?_
        refine ok_getR 102 dX12_game_99 rfl rfl F_EncoresModel_53 sg_123 rfl (Nat.le_of_ble_eq_true rfl) rfl rfl ?_
        refine ok_iload 104 4 dX12_game_102 rfl rfl ?_
        refine ok_iald 105 dX12_game_104 rfl sg_137 ?_
        refine ok_ixor 106 dX12_game_105 rfl ?_
        refine ok_aload_n 107 0 dX12_game_106 rfl rfl rfl ?_
        refine ok_getR 110 dX12_game_107 rfl rfl F_EncoresModel_53 sg_123 rfl (Nat.le_of_ble_eq_true rfl) rfl rfl ?_
        refine ok_iload 112 4 dX12_game_110 rfl rfl ?_
        refine ok_iload 114 5 dX12_game_112 rfl rfl ?_
        refine ok_isub 115 dX12_game_114 rfl ?_
        refine ok_iald 116 dX12_game_115 rfl sg_137 ?_
        refine ok_icmp_ne 130 119 dX12_game_116 (by decide) rfl (fun _ => ?_) (fun _ => ?_)
        · refine ok_iinc 133 5 1 [some (.ref 123), some (.int a1), some (.int k2_53), some (.int s3_55), some (.int a4_75), some (.int (s5_80 + 1))] dX12_game_130 rfl rfl rfl (by decide) rfl ?_
          refine ok_goto 80 dX12_game_133 (by decide) ?_
          exact ok_less [some (.ref 123), some (.int a1), some (.int k2_53), some (.int s3_55), some (.int a4_75), some (.int (s5_80 + 1))] (And.intro rfl (And.intro rfl (And.intro rfl (And.intro rfl (And.intro rfl (And.intro rfl (trivial))))))) (hX (s5_80 + 1) m_85)
        · refine ok_iload_n 120 1 dX12_game_119 rfl rfl rfl ?_
          refine ok_if_ne 127 123 dX12_game_120 (by decide) rfl (fun _ => ?_) (fun _ => ?_)
          · refine ok_iload 129 5 dX12_game_127 rfl rfl ?_
            exact ok_iret dX12_game_129 rfl
          · refine ok_iload_n 124 3 dX12_game_123 rfl rfl rfl ?_
            refine ok_goto 129 dX12_game_124 (by decide) ?_
            exact ok_iret dX12_game_129 rfl)

set_option maxRecDepth 100000 in
set_option maxHeartbeats 4000000 in
theorem ok_X12_game_L55 (N d : Nat) (a1 : Int32)  (k2_53 : Int32)  : ∀ (n : Nat) (s3_55 : Int32) (m : Mem), Ok none SG (d + 1) m_X12_game 55 [some (.ref 123), some (.int a1), some (.int k2_53), some (.int s3_55), none, none] [] SG m (it1 (f_X12_game_L55 N a1 k2_53) n s3_55 m) :=
  ok_it1 (fun s3_55 => [some (.ref 123), some (.int a1), some (.int k2_53), some (.int s3_55), none, none]) (fun X hX s3_55 m => by
    try unfold f_X12_game_L55
    refine ok_iload_n 56 3 dX12_game_55 rfl rfl rfl ?_
    refine ok_aload_n 57 0 dX12_game_56 rfl rfl rfl ?_
    refine ok_getR 60 dX12_game_57 rfl rfl F_EncoresModel_7 sg_123 rfl (Nat.le_of_ble_eq_true rfl) rfl rfl ?_
    refine ok_bipush 62 38 dX12_game_60 rfl rfl ?_
    refine ok_ialdc 63 38 dX12_game_62 rfl sg_124 (by decide) (by decide) ?_
    refine ok_icmp_ge 142 66 dX12_game_63 (by decide) rfl (fun _ => ?_) (fun _ => ?_)
    · refine ok_iconst 143 (-1) dX12_game_142 rfl rfl ?_
      exact ok_iret dX12_game_143 rfl
    · refine ok_aload_n 67 0 dX12_game_66 rfl rfl rfl ?_
      refine ok_getR 70 dX12_game_67 rfl rfl F_EncoresModel_7 sg_123 rfl (Nat.le_of_ble_eq_true rfl) rfl rfl ?_
      refine ok_bipush 72 89 dX12_game_70 rfl rfl ?_
      refine ok_iload_n 73 3 dX12_game_72 rfl rfl rfl ?_
      refine ok_iadd 74 dX12_game_73 rfl ?_
      refine ok_iald 75 dX12_game_74 rfl sg_124 ?_
      refine ok_bndI (fun a4_75 => ?_)
      refine ok_istore 77 4 [some (.ref 123), some (.int a1), some (.int k2_53), some (.int s3_55), some (.int a4_75), none] dX12_game_75 rfl (by decide) rfl ?_
      refine ok_iconst 78 1 dX12_game_77 rfl rfl ?_
      refine ok_istore 80 5 [some (.ref 123), some (.int a1), some (.int k2_53), some (.int s3_55), some (.int a4_75), some (.int 1)] dX12_game_78 rfl (by decide) rfl ?_
      refine ok_less [some (.ref 123), some (.int a1), some (.int k2_53), some (.int s3_55), some (.int a4_75), some (.int 1)] (And.intro rfl (And.intro rfl (And.intro rfl (And.intro rfl (And.intro rfl (And.intro rfl (trivial))))))) ?_
      exact ok_X12_game_L80 N d a1 k2_53 s3_55 a4_75 _ (fun mk136 => by
          refine ok_iinc 139 3 1 [some (.ref 123), some (.int a1), some (.int k2_53), some (.int (s3_55 + 1)), none, none] dX12_game_136 rfl rfl rfl (by decide) rfl ?_
          refine ok_goto 55 dX12_game_139 (by decide) ?_
          exact ok_less [some (.ref 123), some (.int a1), some (.int k2_53), some (.int (s3_55 + 1)), none, none] (And.intro rfl (And.intro rfl (And.intro rfl (And.intro rfl (trivial))))) (hX (s3_55 + 1) mk136)) N 1 m)

set_option maxRecDepth 100000 in
set_option maxHeartbeats 4000000 in
theorem ok_X12_game (N d : Nat) (a1 : Int32)  (m : Mem) : Ok none SG (d + 1) m_X12_game 0 [some (.ref 123), some (.int a1), none, none, none, none] [] SG m (f_X12_game N a1 m) := by
  unfold f_X12_game
  refine ok_iload_n 1 1 dX12_game_0 rfl rfl rfl ?_
  refine ok_iconst 2 0 dX12_game_1 rfl rfl ?_
  refine ok_iconst 3 1 dX12_game_2 rfl rfl ?_
  refine ok_callSi (np := 3) (M' := m_X12_isIn) (As := [.int a1, .int 0, .int 1]) (st := []) 6 dX12_game_3 rfl rfl km_X12_isIn ks_X12_isIn ml_EncoresModel_56 (by decide) rfl rfl (Nat.le_of_ble_eq_true rfl) (c_X12_isIn N (d + 0) a1 0 1 m) ⟨Nat.le_refl _, Nat.le_refl _⟩ (Or.inl rfl) rfl (fun r_3 m_3 _ => ?_)
  refine ok_if_ne 11 9 dX12_game_6 (by decide) rfl (fun _ => ?_) (fun _ => ?_)
  · refine ok_aload_n 12 0 dX12_game_11 rfl rfl rfl ?_
    refine ok_callVv (np := 0) (M' := m_X12_laysNims) (As := []) (st := []) 15 dX12_game_12 rfl rfl km_X12_laysNims ki_X12_laysNims kv_X12_laysNims ml_EncoresModel_434 (by decide) sg_123 rfl (Nat.le_of_ble_eq_true rfl) rfl rfl rfl (Nat.le_of_ble_eq_true rfl) (c_X12_laysNims N (d + 0) m_3) ⟨Nat.le_refl _, Nat.le_refl _⟩ (Or.inl rfl) rfl (fun _ m_12 _ => ?_)
    refine ok_iconst 16 0 dX12_game_15 rfl rfl ?_
    refine ok_istore_n 17 2 [some (.ref 123), some (.int a1), some (.int 0), none, none, none] dX12_game_16 rfl rfl (by decide) rfl ?_
    refine ok_iconst 18 0 dX12_game_17 rfl rfl ?_
    refine ok_istore_n 19 3 [some (.ref 123), some (.int a1), some (.int 0), some (.int 0), none, none] dX12_game_18 rfl rfl (by decide) rfl ?_
    refine ok_less [some (.ref 123), some (.int a1), some (.int 0), some (.int 0), none, none] (And.intro rfl (And.intro rfl (And.intro rfl (And.intro rfl (trivial))))) ?_
    exact ok_X12_game_L19 N d a1  _ (fun k2_53 mk53 => by
        refine ok_iconst 54 0 dX12_game_53 rfl rfl ?_
        refine ok_istore_n 55 3 [some (.ref 123), some (.int a1), some (.int k2_53), some (.int 0), none, none] dX12_game_54 rfl rfl (by decide) rfl ?_
        refine ok_less [some (.ref 123), some (.int a1), some (.int k2_53), some (.int 0), none, none] (And.intro rfl (And.intro rfl (And.intro rfl (And.intro rfl (trivial))))) ?_
        exact ok_X12_game_L55 N d a1 k2_53   N 0 mk53) N 0 0 m_12
  · refine ok_iconst 10 (-1) dX12_game_9 rfl rfl ?_
    exact ok_iret dX12_game_10 rfl

theorem c_X12_game (N d : Nat) (a1 : Int32)  (m : Mem) : CM (d + 1) m_X12_game SG SG [.ref 123, .int a1] m (f_X12_game N a1 m) :=
  CM.ofOk km_X12_game ⟨Nat.le_refl _, Nat.le_refl _⟩ (by simp [Value.category]) (Nat.le_of_ble_eq_true rfl) (ok_X12_game N d a1 m)

