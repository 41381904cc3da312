def f_X11_tires_L29 (N : Nat) (a1 : Int32)  (K66 : Int32 → Mem → Ans) (X : Int32 → Mem → Ans) (s2_29 : Int32) (m : Mem) : Ans :=
if (99 : Int32) ≤ s2_29 then (K66 s2_29 m)
else (bd (f_X9_at N 5 a1 3 m) fun r_44 m_44 =>
if (99 : Int32) ≤ r_44 then (K66 s2_29 m_44)
else (bd (f_X8_begin N a1 m_44) fun _ m_57 =>
X (s2_29 + 1) m_57))

def f_X11_tires_J88 (N : Nat) (a1 : Int32)   (s2_88 : Int32) (t0_88 : Int32) (m : Mem) : Ans :=
bd (f_X3_back N 92 m) fun _ m_97 =>
if t0_88 = 0 then (some ((-1), m_97))
else (some (s2_88, m_97))

def f_X11_tires_J66 (N : Nat) (a1 : Int32)   (s2_66 : Int32) (m : Mem) : Ans :=
bd (f_X9_at N 5 a1 3 m) fun r_75 m_75 =>
if r_75 < (99 : Int32) then (f_X11_tires_J88 N a1 s2_66 0 m_75)
else (f_X11_tires_J88 N a1 s2_66 1 m_75)

def f_X11_tires (N : Nat) (a1 : Int32) (m : Mem) : Ans :=
bd (f_X9_has N 5 a1 m) fun r_8 m_8 =>
if r_8 = 0 then (some ((-1), m_8))
else (bd (f_X3_keep N 92 m_8) fun _ m_24 =>
it1 (f_X11_tires_L29 N a1 (fun k2_66 mk66 => f_X11_tires_J66 N a1 k2_66 mk66)) N 0 m_24)

set_option maxRecDepth 100000 in
set_option maxHeartbeats 4000000 in
theorem ok_X11_tires_L29 (N d : Nat) (a1 : Int32)   (K66 : Int32 → Mem → Ans) (hK66 : ∀ (k2 : Int32) (m : Mem), Ok none SG (d + 5) m_X11_tires 66 [some (.ref 0), some (.int a1), some (.int k2), none] [] SG m (K66 k2 m)) : ∀ (n : Nat) (s2_29 : Int32) (m : Mem), Ok none SG (d + 5) m_X11_tires 29 [some (.ref 0), some (.int a1), some (.int s2_29), none] [] SG m (it1 (f_X11_tires_L29 N a1 K66) n s2_29 m) :=
  ok_it1 (fun s2_29 => [some (.ref 0), some (.int a1), some (.int s2_29), none]) (fun X hX s2_29 m => by
    try unfold f_X11_tires_L29
    refine ok_iload_n 30 2 dX11_tires_29 rfl rfl rfl ?_
    refine ok_bipush 32 99 dX11_tires_30 rfl rfl ?_
    refine ok_icmp_ge 66 35 dX11_tires_32 (by decide) rfl (fun _ => ?_) (fun _ => ?_)
    · exact ok_less [some (.ref 0), some (.int a1), some (.int s2_29), none] (And.intro rfl (And.intro rfl (And.intro rfl (trivial)))) (hK66 s2_29 m)
    · refine ok_aload_n 36 0 dX11_tires_35 rfl rfl rfl ?_
      refine ok_getR 39 dX11_tires_36 rfl rfl F_Encores_16 sg_0 rfl (Nat.le_of_ble_eq_true rfl) rfl rfl ?_
      refine ok_getR 42 dX11_tires_39 rfl rfl F_Encores_131 sg_2 rfl (Nat.le_of_ble_eq_true rfl) rfl rfl ?_
      refine ok_iload_n 43 1 dX11_tires_42 rfl rfl rfl ?_
      refine ok_iconst 44 3 dX11_tires_43 rfl rfl ?_
      refine ok_callVi (np := 2) (M' := m_X9_at) (As := [.int a1, .int 3]) (st := []) 47 dX11_tires_44 rfl rfl km_X9_at ki_X9_at kv_X9_at ml_Encores_142 (by decide) sg_5 rfl (Nat.le_of_ble_eq_true rfl) rfl rfl rfl (Nat.le_of_ble_eq_true rfl) (c_X9_at N (d + 4) 5 a1 3 tg_5 m) ⟨Nat.le_refl _, Nat.le_refl _⟩ (Or.inl rfl) rfl (fun r_44 m_44 _ => ?_)
      refine ok_bipush 49 99 dX11_tires_47 rfl rfl ?_
      refine ok_icmp_ge 66 52 dX11_tires_49 (by decide) rfl (fun _ => ?_) (fun _ => ?_)
      · exact ok_less [some (.ref 0), some (.int a1), some (.int s2_29), none] (And.intro rfl (And.intro rfl (And.intro rfl (trivial)))) (hK66 s2_29 m_44)
      · refine ok_aload_n 53 0 dX11_tires_52 rfl rfl rfl ?_
        refine ok_getR 56 dX11_tires_53 rfl rfl F_Encores_71 sg_0 rfl (Nat.le_of_ble_eq_true rfl) rfl rfl ?_
        refine ok_iload_n 57 1 dX11_tires_56 rfl rfl rfl ?_
        refine ok_callVv (np := 1) (M' := m_X8_begin) (As := [.int a1]) (st := []) 60 dX11_tires_57 rfl rfl km_X8_begin ki_X8_begin kv_X8_begin ml_Encores_252 (by decide) sg_113 rfl (Nat.le_of_ble_eq_true rfl) rfl rfl rfl (Nat.le_of_ble_eq_true rfl) (c_X8_begin N (d + 0) a1 m_44) ⟨Nat.le_refl _, Nat.le_refl _⟩ (Or.inl rfl) rfl (fun _ m_57 _ => ?_)
        refine ok_iinc 63 2 1 [some (.ref 0), some (.int a1), some (.int (s2_29 + 1)), none] dX11_tires_60 rfl rfl rfl (by decide) rfl ?_
        refine ok_goto 29 dX11_tires_63 (by decide) ?_
        exact ok_less [some (.ref 0), some (.int a1), some (.int (s2_29 + 1)), none] (And.intro rfl (And.intro rfl (And.intro rfl (trivial)))) (hX (s2_29 + 1) m_57))

set_option maxRecDepth 100000 in
set_option maxHeartbeats 4000000 in
theorem ok_X11_tires_J88 (N d : Nat) (a1 : Int32)    (s2_88 : Int32) (t0_88 : Int32) (m : Mem) : Ok none SG (d + 5) m_X11_tires 88 [some (.ref 0), none, some (.int s2_88), none] [.int t0_88] SG m (f_X11_tires_J88 N a1 s2_88 t0_88 m) := by
  unfold f_X11_tires_J88
  refine ok_istore_n 89 3 [some (.ref 0), none, some (.int s2_88), some (.int t0_88)] dX11_tires_88 rfl rfl (by decide) rfl ?_
  refine ok_aload_n 90 0 dX11_tires_89 rfl rfl rfl ?_
  refine ok_getR 93 dX11_tires_90 rfl rfl F_Encores_37 sg_0 rfl (Nat.le_of_ble_eq_true rfl) rfl rfl ?_
  refine ok_aload_n 94 0 dX11_tires_93 rfl rfl rfl ?_
  refine ok_getR 97 dX11_tires_94 rfl rfl F_Encores_16 sg_0 rfl (Nat.le_of_ble_eq_true rfl) rfl rfl ?_
  refine ok_callVv (np := 1) (M' := m_X3_back) (As := [.ref 2]) (st := []) 100 dX11_tires_97 rfl rfl km_X3_back ki_X3_back kv_X3_back ml_Encores_240 (by decide) sg_92 rfl (Nat.le_of_ble_eq_true rfl) rfl rfl rfl (Nat.le_of_ble_eq_true rfl) (c_X3_back N (d + 2) 92 tg_92 m) ⟨Nat.le_refl _, Nat.le_refl _⟩ (Or.inl rfl) rfl (fun _ m_97 _ => ?_)
  refine ok_iload_n 101 3 dX11_tires_100 rfl rfl rfl ?_
  refine ok_if_eq 108 104 dX11_tires_101 (by decide) rfl (fun _ => ?_) (fun _ => ?_)
  · refine ok_iconst 109 (-1) dX11_tires_108 rfl rfl ?_
    exact ok_iret dX11_tires_109 rfl
  · refine ok_iload_n 105 2 dX11_tires_104 rfl rfl rfl ?_
    refine ok_goto 109 dX11_tires_105 (by decide) ?_
    exact ok_iret dX11_tires_109 rfl

set_option maxRecDepth 100000 in
set_option maxHeartbeats 4000000 in
theorem ok_X11_tires_J66 (N d : Nat) (a1 : Int32)    (s2_66 : Int32) (m : Mem) : Ok none SG (d + 5) m_X11_tires 66 [some (.ref 0), some (.int a1), some (.int s2_66), none] [] SG m (f_X11_tires_J66 N a1 s2_66 m) := by
  unfold f_X11_tires_J66
  refine ok_aload_n 67 0 dX11_tires_66 rfl rfl rfl ?_
  refine ok_getR 70 dX11_tires_67 rfl rfl F_Encores_16 sg_0 rfl (Nat.le_of_ble_eq_true rfl) rfl rfl ?_
  refine ok_getR 73 dX11_tires_70 rfl rfl F_Encores_131 sg_2 rfl (Nat.le_of_ble_eq_true rfl) rfl rfl ?_
  refine ok_iload_n 74 1 dX11_tires_73 rfl rfl rfl ?_
  refine ok_iconst 75 3 dX11_tires_74 rfl rfl ?_
  refine ok_callVi (np := 2) (M' := m_X9_at) (As := [.int a1, .int 3]) (st := []) 78 dX11_tires_75 rfl rfl km_X9_at ki_X9_at kv_X9_at ml_Encores_142 (by decide) sg_5 rfl (Nat.le_of_ble_eq_true rfl) rfl rfl rfl (Nat.le_of_ble_eq_true rfl) (c_X9_at N (d + 4) 5 a1 3 tg_5 m) ⟨Nat.le_refl _, Nat.le_refl _⟩ (Or.inl rfl) rfl (fun r_75 m_75 _ => ?_)
  refine ok_bipush 80 99 dX11_tires_78 rfl rfl ?_
  refine ok_icmp_lt 87 83 dX11_tires_80 (by decide) rfl (fun _ => ?_) (fun _ => ?_)
  · refine ok_iconst 88 0 dX11_tires_87 rfl rfl ?_
    exact ok_less [some (.ref 0), none, some (.int s2_66), none] (And.intro rfl (And.intro rfl (trivial))) (ok_X11_tires_J88 N d a1   s2_66 0 m_75)
  · refine ok_iconst 84 1 dX11_tires_83 rfl rfl ?_
    refine ok_goto 88 dX11_tires_84 (by decide) ?_
    exact ok_less [some (.ref 0), none, some (.int s2_66), none] (And.intro rfl (And.intro rfl (trivial))) (ok_X11_tires_J88 N d a1   s2_66 1 m_75)

set_option maxRecDepth 100000 in
set_option maxHeartbeats 4000000 in
theorem ok_X11_tires (N d : Nat) (a1 : Int32)  (m : Mem) : Ok none SG (d + 5) m_X11_tires 0 [some (.ref 0), some (.int a1), none, none] [] SG m (f_X11_tires N a1 m) := by
  unfold f_X11_tires
  refine ok_aload_n 1 0 dX11_tires_0 rfl rfl rfl ?_
  refine ok_getR 4 dX11_tires_1 rfl rfl F_Encores_16 sg_0 rfl (Nat.le_of_ble_eq_true rfl) rfl rfl ?_
  refine ok_getR 7 dX11_tires_4 rfl rfl F_Encores_131 sg_2 rfl (Nat.le_of_ble_eq_true rfl) rfl rfl ?_
  refine ok_iload_n 8 1 dX11_tires_7 rfl rfl rfl ?_
  refine ok_callVi (np := 1) (M' := m_X9_has) (As := [.int a1]) (st := []) 11 dX11_tires_8 rfl rfl km_X9_has ki_X9_has kv_X9_has ml_Encores_138 (by decide) sg_5 rfl (Nat.le_of_ble_eq_true rfl) rfl rfl rfl (Nat.le_of_ble_eq_true rfl) (c_X9_has N (d + 4) 5 a1 tg_5 m) ⟨Nat.le_refl _, Nat.le_refl _⟩ (Or.inl rfl) rfl (fun r_8 m_8 _ => ?_)
  refine ok_if_ne 16 14 dX11_tires_11 (by decide) rfl (fun _ => ?_) (fun _ => ?_)
  · refine ok_aload_n 17 0 dX11_tires_16 rfl rfl rfl ?_
    refine ok_getR 20 dX11_tires_17 rfl rfl F_Encores_37 sg_0 rfl (Nat.le_of_ble_eq_true rfl) rfl rfl ?_
    refine ok_aload_n 21 0 dX11_tires_20 rfl rfl rfl ?_
    refine ok_getR 24 dX11_tires_21 rfl rfl F_Encores_16 sg_0 rfl (Nat.le_of_ble_eq_true rfl) rfl rfl ?_
    refine ok_callVv (np := 1) (M' := m_X3_keep) (As := [.ref 2]) (st := []) 27 dX11_tires_24 rfl rfl km_X3_keep ki_X3_keep kv_X3_keep ml_Encores_236 (by decide) sg_92 rfl (Nat.le_of_ble_eq_true rfl) rfl rfl rfl (Nat.le_of_ble_eq_true rfl) (c_X3_keep N (d + 2) 92 tg_92 m_8) ⟨Nat.le_refl _, Nat.le_refl _⟩ (Or.inl rfl) rfl (fun _ m_24 _ => ?_)
    refine ok_iconst 28 0 dX11_tires_27 rfl rfl ?_
    refine ok_istore_n 29 2 [some (.ref 0), some (.int a1), some (.int 0), none] dX11_tires_28 rfl rfl (by decide) rfl ?_
    refine ok_less [some (.ref 0), some (.int a1), some (.int 0), none] (And.intro rfl (And.intro rfl (And.intro rfl (trivial)))) ?_
    exact ok_X11_tires_L29 N d a1  _ (fun k2_66 mk66 => by
        exact ok_less [some (.ref 0), some (.int a1), some (.int k2_66), none] (And.intro rfl (And.intro rfl (And.intro rfl (trivial)))) (ok_X11_tires_J66 N d a1   k2_66 mk66)) N 0 m_24
  · refine ok_iconst 15 (-1) dX11_tires_14 rfl rfl ?_
    exact ok_iret dX11_tires_15 rfl

theorem c_X11_tires (N d : Nat) (a1 : Int32)  (m : Mem) : CM (d + 5) m_X11_tires SG SG [.ref 0, .int a1] m (f_X11_tires N a1 m) :=
  CM.ofOk km_X11_tires ⟨Nat.le_refl _, Nat.le_refl _⟩ (by simp [Value.category]) (Nat.le_of_ble_eq_true rfl) (ok_X11_tires N d a1 m)

def f_X11_eager_L54 (N : Nat) (a1 : Int32) (a2 : Int32) (a5_49 : Int32)  (X : Int32 → Int32 → Int32 → Mem → Ans) (s3_54 : Int32) (s4_54 : Int32) (s6_54 : Int32) (m : Mem) : Ans :=
if (m 3 3) ≤ s6_54 then (if a2 = 0 then (some (s3_54, m))
else (some (s4_54, m)))
else (bd (f_X11_isIn N s6_54 a5_49 m) fun r_73 m_73 =>
if r_73 = 0 then (X s3_54 s4_54 (s6_54 + 1) m_73)
else (bd (f_X2_clap N s6_54 a1 0 m_73) fun r_87 m_87 =>
if r_87 ≤ s4_54 then (X s3_54 s4_54 (s6_54 + 1) m_87)
else (X s6_54 r_87 (s6_54 + 1) m_87)))

def f_X11_eager (N : Nat) (a1 : Int32) (a2 : Int32) (m : Mem) : Ans :=
bd (f_X9_has N 5 a1 m) fun r_8 m_8 =>
if r_8 = 0 then (some ((-1), m_8))
else (bd (f_X11_within N a2 0 1 m_8) fun r_17 m_17 =>
if r_17 = 0 then (some ((-1), m_17))
else (bd (f_X1_those N 3 m_17) fun r_35 m_35 =>
bd (f_X1_those N 4 m_35) fun r_43 m_43 =>
bnd (r_35 &&& (r_43 ^^^ (-1 : Int32))) fun a5_49 =>
it3 (f_X11_eager_L54 N a1 a2 a5_49 ) N (-1) (-1) 0 m_43))

set_option maxRecDepth 100000 in
set_option maxHeartbeats 4000000 in
theorem ok_X11_eager_L54 (N d : Nat) (a1 : Int32) (a2 : Int32)  (a5_49 : Int32)  : ∀ (n : Nat) (s3_54 : Int32) (s4_54 : Int32) (s6_54 : Int32) (m : Mem), Ok none SG (d + 4) m_X11_eager 54 [some (.ref 0), some (.int a1), some (.int a2), some (.int s3_54), some (.int s4_54), some (.int a5_49), some (.int s6_54), none] [] SG m (it3 (f_X11_eager_L54 N a1 a2 a5_49) n s3_54 s4_54 s6_54 m) :=
  ok_it3 (fun s3_54 s4_54 s6_54 => [some (.ref 0), some (.int a1), some (.int a2), some (.int s3_54), some (.int s4_54), some (.int a5_49), some (.int s6_54), none]) (fun X hX s3_54 s4_54 s6_54 m => by
    try unfold f_X11_eager_L54
    refine ok_iload 56 6 dX11_eager_54 rfl rfl ?_
    refine ok_aload_n 57 0 dX11_eager_56 rfl rfl rfl ?_
    refine ok_getR 60 dX11_eager_57 rfl rfl F_Encores_16 sg_0 rfl (Nat.le_of_ble_eq_true rfl) rfl rfl ?_
    refine ok_getR 63 dX11_eager_60 rfl rfl F_Encores_113 sg_2 rfl (Nat.le_of_ble_eq_true rfl) rfl rfl ?_
    refine ok_getI 66 dX11_eager_63 rfl rfl F_Encores_117 sg_3 rfl (Nat.le_of_ble_eq_true rfl) rfl ?_
    refine ok_icmp_ge 112 69 dX11_eager_66 (by decide) rfl (fun _ => ?_) (fun _ => ?_)
    · refine ok_iload_n 113 2 dX11_eager_112 rfl rfl rfl ?_
      refine ok_if_ne 120 116 dX11_eager_113 (by decide) rfl (fun _ => ?_) (fun _ => ?_)
      · refine ok_iload 122 4 dX11_eager_120 rfl rfl ?_
        exact ok_iret dX11_eager_122 rfl
      · refine ok_iload_n 117 3 dX11_eager_116 rfl rfl rfl ?_
        refine ok_goto 122 dX11_eager_117 (by decide) ?_
        exact ok_iret dX11_eager_122 rfl
    · refine ok_iload 71 6 dX11_eager_69 rfl rfl ?_
      refine ok_iload 73 5 dX11_eager_71 rfl rfl ?_
      refine ok_callSi (np := 2) (M' := m_X11_isIn) (As := [.int s6_54, .int a5_49]) (st := []) 76 dX11_eager_73 rfl rfl km_X11_isIn ks_X11_isIn ml_Encores_278 (by decide) rfl rfl (Nat.le_of_ble_eq_true rfl) (c_X11_isIn N (d + 3) s6_54 a5_49 m) ⟨Nat.le_refl _, Nat.le_refl _⟩ (Or.inl rfl) rfl (fun r_73 m_73 _ => ?_)
      refine ok_if_eq 106 79 dX11_eager_76 (by decide) rfl (fun _ => ?_) (fun _ => ?_)
      · refine ok_iinc 109 6 1 [some (.ref 0), some (.int a1), some (.int a2), some (.int s3_54), some (.int s4_54), some (.int a5_49), some (.int (s6_54 + 1)), none] dX11_eager_106 rfl rfl rfl (by decide) rfl ?_
        refine ok_goto 54 dX11_eager_109 (by decide) ?_
        exact ok_less [some (.ref 0), some (.int a1), some (.int a2), some (.int s3_54), some (.int s4_54), some (.int a5_49), some (.int (s6_54 + 1)), none] (And.intro rfl (And.intro rfl (And.intro rfl (And.intro rfl (And.intro rfl (And.intro rfl (And.intro rfl (trivial)))))))) (hX s3_54 s4_54 (s6_54 + 1) m_73)
      · refine ok_aload_n 80 0 dX11_eager_79 rfl rfl rfl ?_
        refine ok_getR 83 dX11_eager_80 rfl rfl F_Encores_62 sg_0 rfl (Nat.le_of_ble_eq_true rfl) rfl rfl ?_
        refine ok_iload 85 6 dX11_eager_83 rfl rfl ?_
        refine ok_iload_n 86 1 dX11_eager_85 rfl rfl rfl ?_
        refine ok_iconst 87 0 dX11_eager_86 rfl rfl ?_
        refine ok_callVi (np := 3) (M' := m_X2_clap) (As := [.int s6_54, .int a1, .int 0]) (st := []) 90 dX11_eager_87 rfl rfl km_X2_clap ki_X2_clap kv_X2_clap ml_Encores_196 (by decide) sg_110 rfl (Nat.le_of_ble_eq_true rfl) rfl rfl rfl (Nat.le_of_ble_eq_true rfl) (c_X2_clap N (d + 0) s6_54 a1 0 m_73) ⟨Nat.le_refl _, Nat.le_refl _⟩ (Or.inl rfl) rfl (fun r_87 m_87 _ => ?_)
        refine ok_istore 92 7 [some (.ref 0), some (.int a1), some (.int a2), some (.int s3_54), some (.int s4_54), some (.int a5_49), some (.int s6_54), some (.int r_87)] dX11_eager_90 rfl (by decide) rfl ?_
        refine ok_iload 94 7 dX11_eager_92 rfl rfl ?_
        refine ok_iload 96 4 dX11_eager_94 rfl rfl ?_
        refine ok_icmp_le 106 99 dX11_eager_96 (by decide) rfl (fun _ => ?_) (fun _ => ?_)
        · refine ok_iinc 109 6 1 [some (.ref 0), some (.int a1), some (.int a2), some (.int s3_54), some (.int s4_54), some (.int a5_49), some (.int (s6_54 + 1)), some (.int r_87)] dX11_eager_106 rfl rfl rfl (by decide) rfl ?_
          refine ok_goto 54 dX11_eager_109 (by decide) ?_
          exact ok_less [some (.ref 0), some (.int a1), some (.int a2), some (.int s3_54), some (.int s4_54), some (.int a5_49), some (.int (s6_54 + 1)), none] (And.intro rfl (And.intro rfl (And.intro rfl (And.intro rfl (And.intro rfl (And.intro rfl (And.intro rfl (trivial)))))))) (hX s3_54 s4_54 (s6_54 + 1) m_87)
        · refine ok_iload 101 7 dX11_eager_99 rfl rfl ?_
          refine ok_istore 103 4 [some (.ref 0), some (.int a1), some (.int a2), some (.int s3_54), some (.int r_87), some (.int a5_49), some (.int s6_54), some (.int r_87)] dX11_eager_101 rfl (by decide) rfl ?_
          refine ok_iload 105 6 dX11_eager_103 rfl rfl ?_
          refine ok_istore_n 106 3 [some (.ref 0), some (.int a1), some (.int a2), some (.int s6_54), some (.int r_87), some (.int a5_49), some (.int s6_54), some (.int r_87)] dX11_eager_105 rfl rfl (by decide) rfl ?_
          refine ok_iinc 109 6 1 [some (.ref 0), some (.int a1), some (.int a2), some (.int s6_54), some (.int r_87), some (.int a5_49), some (.int (s6_54 + 1)), some (.int r_87)] dX11_eager_106 rfl rfl rfl (by decide) rfl ?_
          refine ok_goto 54 dX11_eager_109 (by decide) ?_
          exact ok_less [some (.ref 0), some (.int a1), some (.int a2), some (.int s6_54), some (.int r_87), some (.int a5_49), some (.int (s6_54 + 1)), none] (And.intro rfl (And.intro rfl (And.intro rfl (And.intro rfl (And.intro rfl (And.intro rfl (And.intro rfl (trivial)))))))) (hX s6_54 r_87 (s6_54 + 1) m_87))

set_option maxRecDepth 100000 in
set_option maxHeartbeats 4000000 in
theorem ok_X11_eager (N d : Nat) (a1 : Int32) (a2 : Int32)  (m : Mem) : Ok none SG (d + 4) m_X11_eager 0 [some (.ref 0), some (.int a1), some (.int a2), none, none, none, none, none] [] SG m (f_X11_eager N a1 a2 m) := by
  unfold f_X11_eager
  refine ok_aload_n 1 0 dX11_eager_0 rfl rfl rfl ?_
  refine ok_getR 4 dX11_eager_1 rfl rfl F_Encores_16 sg_0 rfl (Nat.le_of_ble_eq_true rfl) rfl rfl ?_
  refine ok_getR 7 dX11_eager_4 rfl rfl F_Encores_131 sg_2 rfl (Nat.le_of_ble_eq_true rfl) rfl rfl ?_
  refine ok_iload_n 8 1 dX11_eager_7 rfl rfl rfl ?_
  refine ok_callVi (np := 1) (M' := m_X9_has) (As := [.int a1]) (st := []) 11 dX11_eager_8 rfl rfl km_X9_has ki_X9_has kv_X9_has ml_Encores_138 (by decide) sg_5 rfl (Nat.le_of_ble_eq_true rfl) rfl rfl rfl (Nat.le_of_ble_eq_true rfl) (c_X9_has N (d + 3) 5 a1 tg_5 m) ⟨Nat.le_refl _, Nat.le_refl _⟩ (Or.inl rfl) rfl (fun r_8 m_8 _ => ?_)
  refine ok_if_eq 23 14 dX11_eager_11 (by decide) rfl (fun _ => ?_) (fun _ => ?_)
  · refine ok_iconst 24 (-1) dX11_eager_23 rfl rfl ?_
    exact ok_iret dX11_eager_24 rfl
  · refine ok_iload_n 15 2 dX11_eager_14 rfl rfl rfl ?_
    refine ok_iconst 16 0 dX11_eager_15 rfl rfl ?_
    refine ok_iconst 17 1 dX11_eager_16 rfl rfl ?_
    refine ok_callSi (np := 3) (M' := m_X11_within) (As := [.int a2, .int 0, .int 1]) (st := []) 20 dX11_eager_17 rfl rfl km_X11_within ks_X11_within ml_Encores_109 (by decide) rfl rfl (Nat.le_of_ble_eq_true rfl) (c_X11_within N (d + 3) a2 0 1 m_8) ⟨Nat.le_refl _, Nat.le_refl _⟩ (Or.inl rfl) rfl (fun r_17 m_17 _ => ?_)
    refine ok_if_ne 25 23 dX11_eager_20 (by decide) rfl (fun _ => ?_) (fun _ => ?_)
    · refine ok_iconst 26 (-1) dX11_eager_25 rfl rfl ?_
      refine ok_istore_n 27 3 [some (.ref 0), some (.int a1), some (.int a2), some (.int (-1)), none, none, none, none] dX11_eager_26 rfl rfl (by decide) rfl ?_
      refine ok_iconst 28 (-1) dX11_eager_27 rfl rfl ?_
      refine ok_istore 30 4 [some (.ref 0), some (.int a1), some (.int a2), some (.int (-1)), some (.int (-1)), none, none, none] dX11_eager_28 rfl (by decide) rfl ?_
      refine ok_aload_n 31 0 dX11_eager_30 rfl rfl rfl ?_
      refine ok_getR 34 dX11_eager_31 rfl rfl F_Encores_16 sg_0 rfl (Nat.le_of_ble_eq_true rfl) rfl rfl ?_
      refine ok_iconst 35 3 dX11_eager_34 rfl rfl ?_
      refine ok_callVi (np := 1) (M' := m_X1_those) (As := [.int 3]) (st := []) 38 dX11_eager_35 rfl rfl km_X1_those ki_X1_those kv_X1_those ml_Encores_215 (by decide) sg_2 rfl (Nat.le_of_ble_eq_true rfl) rfl rfl rfl (Nat.le_of_ble_eq_true rfl) (c_X1_those N (d + 2) 3 m_17) ⟨Nat.le_refl _, Nat.le_refl _⟩ (Or.inl rfl) rfl (fun r_35 m_35 _ => ?_)
      refine ok_aload_n 39 0 dX11_eager_38 rfl rfl rfl ?_
      refine ok_getR 42 dX11_eager_39 rfl rfl F_Encores_16 sg_0 rfl (Nat.le_of_ble_eq_true rfl) rfl rfl ?_
      refine ok_iconst 43 4 dX11_eager_42 rfl rfl ?_
      refine ok_callVi (np := 1) (M' := m_X1_those) (As := [.int 4]) (st := [.int r_35]) 46 dX11_eager_43 rfl rfl km_X1_those ki_X1_those kv_X1_those ml_Encores_215 (by decide) sg_2 rfl (Nat.le_of_ble_eq_true rfl) rfl rfl rfl (Nat.le_of_ble_eq_true rfl) (c_X1_those N (d + 2) 4 m_35) ⟨Nat.le_refl _, Nat.le_refl _⟩ (Or.inl rfl) rfl (fun r_43 m_43 _ => ?_)
      refine ok_iconst 47 (-1) dX11_eager_46 rfl rfl ?_
      refine ok_ixor 48 dX11_eager_47 rfl ?_
      refine ok_iand 49 dX11_eager_48 rfl ?_
      refine ok_bndI (fun a5_49 => ?_)
      refine ok_istore 51 5 [some (.ref 0), some (.int a1), some (.int a2), some (.int (-1)), some (.int (-1)), some (.int a5_49), none, none] dX11_eager_49 rfl (by decide) rfl ?_
      refine ok_iconst 52 0 dX11_eager_51 rfl rfl ?_
      refine ok_istore 54 6 [some (.ref 0), some (.int a1), some (.int a2), some (.int (-1)), some (.int (-1)), some (.int a5_49), some (.int 0), none] dX11_eager_52 rfl (by decide) rfl ?_
      refine ok_less [some (.ref 0), some (.int a1), some (.int a2), some (.int (-1)), some (.int (-1)), some (.int a5_49), some (.int 0), none] (And.intro rfl (And.intro rfl (And.intro rfl (And.intro rfl (And.intro rfl (And.intro rfl (And.intro rfl (trivial)))))))) ?_
      exact ok_X11_eager_L54 N d a1 a2 a5_49   N (-1) (-1) 0 m_43
    · refine ok_iconst 24 (-1) dX11_eager_23 rfl rfl ?_
      exact ok_iret dX11_eager_24 rfl

theorem c_X11_eager (N d : Nat) (a1 : Int32) (a2 : Int32)  (m : Mem) : CM (d + 4) m_X11_eager SG SG [.ref 0, .int a1, .int a2] m (f_X11_eager N a1 a2 m) :=
  CM.ofOk km_X11_eager ⟨Nat.le_refl _, Nat.le_refl _⟩ (by simp [Value.category]) (Nat.le_of_ble_eq_true rfl) (ok_X11_eager N d a1 a2 m)

def f_X11_price_L46 (N : Nat) (a1 : Int32) (a2 : Int32) (r_39 : Int32)  (X : Int32 → Mem → Ans) (s4_46 : Int32) (m : Mem) : Ans :=
if ((99 : Int32) - r_39) < s4_46 then (some ((-1), m))
else (bd (f_X2_clapIfPaid N a1 a2 (r_39 + s4_46) m) fun r_65 m_65 =>
if r_65 ≤ (500 : Int32) then (X (s4_46 + 1) m_65)
else (some (s4_46, m_65)))

def f_X11_price (N : Nat) (a1 : Int32) (a2 : Int32) (m : Mem) : Ans :=
bd (f_X9_has N 3 a1 m) fun r_8 m_8 =>
if r_8 = 0 then (some ((-1), m_8))
else (bd (f_X9_has N 5 a2 m_8) fun r_22 m_22 =>
if r_22 = 0 then (some ((-1), m_22))
else (bd (f_X9_at N 3 a1 5 m_22) fun r_39 m_39 =>
it1 (f_X11_price_L46 N a1 a2 r_39 ) N 0 m_39))

set_option maxRecDepth 100000 in
set_option maxHeartbeats 4000000 in
theorem ok_X11_price_L46 (N d : Nat) (a1 : Int32) (a2 : Int32)  (r_39 : Int32)  : ∀ (n : Nat) (s4_46 : Int32) (m : Mem), Ok none SG (d + 4) m_X11_price 46 [some (.ref 0), some (.int a1), some (.int a2), some (.int r_39), some (.int s4_46)] [] SG m (it1 (f_X11_price_L46 N a1 a2 r_39) n s4_46 m) :=
  ok_it1 (fun s4_46 => [some (.ref 0), some (.int a1), some (.int a2), some (.int r_39), some (.int s4_46)]) (fun X hX s4_46 m => by
    try unfold f_X11_price_L46
    refine ok_iload 48 4 dX11_price_46 rfl rfl ?_
    refine ok_bipush 50 99 dX11_price_48 rfl rfl ?_
    refine ok_iload_n 51 3 dX11_price_50 rfl rfl rfl ?_
    refine ok_isub 52 dX11_price_51 rfl ?_
    refine ok_icmp_gt 83 55 dX11_price_52 (by decide) rfl (fun _ => ?_) (fun _ => ?_)
    · refine ok_iconst 84 (-1) dX11_price_83 rfl rfl ?_
      exact ok_iret dX11_price_84 rfl
    · refine ok_aload_n 56 0 dX11_price_55 rfl rfl rfl ?_
      refine ok_getR 59 dX11_price_56 rfl rfl F_Encores_62 sg_0 rfl (Nat.le_of_ble_eq_true rfl) rfl rfl ?_
      refine ok_iload_n 60 1 dX11_price_59 rfl rfl rfl ?_
      refine ok_iload_n 61 2 dX11_price_60 rfl rfl rfl ?_
      refine ok_iload_n 62 3 dX11_price_61 rfl rfl rfl ?_
      refine ok_iload 64 4 dX11_price_62 rfl rfl ?_
      refine ok_iadd 65 dX11_price_64 rfl ?_
      refine ok_callVi (np := 3) (M' := m_X2_clapIfPaid) (As := [.int a1, .int a2, .int (r_39 + s4_46)]) (st := []) 68 dX11_price_65 rfl rfl km_X2_clapIfPaid ki_X2_clapIfPaid kv_X2_clapIfPaid ml_Encores_282 (by decide) sg_110 rfl (Nat.le_of_ble_eq_true rfl) rfl rfl rfl (Nat.le_of_ble_eq_true rfl) (c_X2_clapIfPaid N (d + 0) a1 a2 (r_39 + s4_46) m) ⟨Nat.le_refl _, Nat.le_refl _⟩ (Or.inl rfl) rfl (fun r_65 m_65 _ => ?_)
      refine ok_sipush 71 500 dX11_price_68 rfl rfl ?_
      refine ok_icmp_le 77 74 dX11_price_71 (by decide) rfl (fun _ => ?_) (fun _ => ?_)
      · refine ok_iinc 80 4 1 [some (.ref 0), some (.int a1), some (.int a2), some (.int r_39), some (.int (s4_46 + 1))] dX11_price_77 rfl rfl rfl (by decide) rfl ?_
        refine ok_goto 46 dX11_price_80 (by decide) ?_
        exact ok_less [some (.ref 0), some (.int a1), some (.int a2), some (.int r_39), some (.int (s4_46 + 1))] (And.intro rfl (And.intro rfl (And.intro rfl (And.intro rfl (And.intro rfl (trivial)))))) (hX (s4_46 + 1) m_65)
      · refine ok_iload 76 4 dX11_price_74 rfl rfl ?_
        exact ok_iret dX11_price_76 rfl)

set_option maxRecDepth 100000 in
set_option maxHeartbeats 4000000 in
theorem ok_X11_price (N d : Nat) (a1 : Int32) (a2 : Int32)  (m : Mem) : Ok none SG (d + 4) m_X11_price 0 [some (.ref 0), some (.int a1), some (.int a2), none, none] [] SG m (f_X11_price N a1 a2 m) := by
  unfold f_X11_price
  refine ok_aload_n 1 0 dX11_price_0 rfl rfl rfl ?_
  refine ok_getR 4 dX11_price_1 rfl rfl F_Encores_16 sg_0 rfl (Nat.le_of_ble_eq_true rfl) rfl rfl ?_
  refine ok_getR 7 dX11_price_4 rfl rfl F_Encores_113 sg_2 rfl (Nat.le_of_ble_eq_true rfl) rfl rfl ?_
  refine ok_iload_n 8 1 dX11_price_7 rfl rfl rfl ?_
  refine ok_callVi (np := 1) (M' := m_X9_has) (As := [.int a1]) (st := []) 11 dX11_price_8 rfl rfl km_X9_has ki_X9_has kv_X9_has ml_Encores_138 (by decide) sg_3 rfl (Nat.le_of_ble_eq_true rfl) rfl rfl rfl (Nat.le_of_ble_eq_true rfl) (c_X9_has N (d + 3) 3 a1 tg_3 m) ⟨Nat.le_refl _, Nat.le_refl _⟩ (Or.inl rfl) rfl (fun r_8 m_8 _ => ?_)
  refine ok_if_eq 28 14 dX11_price_11 (by decide) rfl (fun _ => ?_) (fun _ => ?_)
  · refine ok_iconst 29 (-1) dX11_price_28 rfl rfl ?_
    exact ok_iret dX11_price_29 rfl
  · refine ok_aload_n 15 0 dX11_price_14 rfl rfl rfl ?_
    refine ok_getR 18 dX11_price_15 rfl rfl F_Encores_16 sg_0 rfl (Nat.le_of_ble_eq_true rfl) rfl rfl ?_
    refine ok_getR 21 dX11_price_18 rfl rfl F_Encores_131 sg_2 rfl (Nat.le_of_ble_eq_true rfl) rfl rfl ?_
    refine ok_iload_n 22 2 dX11_price_21 rfl rfl rfl ?_
    refine ok_callVi (np := 1) (M' := m_X9_has) (As := [.int a2]) (st := []) 25 dX11_price_22 rfl rfl km_X9_has ki_X9_has kv_X9_has ml_Encores_138 (by decide) sg_5 rfl (Nat.le_of_ble_eq_true rfl) rfl rfl rfl (Nat.le_of_ble_eq_true rfl) (c_X9_has N (d + 3) 5 a2 tg_5 m_8) ⟨Nat.le_refl _, Nat.le_refl _⟩ (Or.inl rfl) rfl (fun r_22 m_22 _ => ?_)
    refine ok_if_ne 30 28 dX11_price_25 (by decide) rfl (fun _ => ?_) (fun _ => ?_)
    · refine ok_aload_n 31 0 dX11_price_30 rfl rfl rfl ?_
      refine ok_getR 34 dX11_price_31 rfl rfl F_Encores_16 sg_0 rfl (Nat.le_of_ble_eq_true rfl) rfl rfl ?_
      refine ok_getR 37 dX11_price_34 rfl rfl F_Encores_113 sg_2 rfl (Nat.le_of_ble_eq_true rfl) rfl rfl ?_
      refine ok_iload_n 38 1 dX11_price_37 rfl rfl rfl ?_
      refine ok_iconst 39 5 dX11_price_38 rfl rfl ?_
      refine ok_callVi (np := 2) (M' := m_X9_at) (As := [.int a1, .int 5]) (st := []) 42 dX11_price_39 rfl rfl km_X9_at ki_X9_at kv_X9_at ml_Encores_142 (by decide) sg_3 rfl (Nat.le_of_ble_eq_true rfl) rfl rfl rfl (Nat.le_of_ble_eq_true rfl) (c_X9_at N (d + 3) 3 a1 5 tg_3 m_22) ⟨Nat.le_refl _, Nat.le_refl _⟩ (Or.inl rfl) rfl (fun r_39 m_39 _ => ?_)
      refine ok_istore_n 43 3 [some (.ref 0), some (.int a1), some (.int a2), some (.int r_39), none] dX11_price_42 rfl rfl (by decide) rfl ?_
      refine ok_iconst 44 0 dX11_price_43 rfl rfl ?_
      refine ok_istore 46 4 [some (.ref 0), some (.int a1), some (.int a2), some (.int r_39), some (.int 0)] dX11_price_44 rfl (by decide) rfl ?_
      refine ok_less [some (.ref 0), some (.int a1), some (.int a2), some (.int r_39), some (.int 0)] (And.intro rfl (And.intro rfl (And.intro rfl (And.intro rfl (And.intro rfl (trivial)))))) ?_
      exact ok_X11_price_L46 N d a1 a2 r_39   N 0 m_39
    · refine ok_iconst 29 (-1) dX11_price_28 rfl rfl ?_
      exact ok_iret dX11_price_29 rfl

theorem c_X11_price (N d : Nat) (a1 : Int32) (a2 : Int32)  (m : Mem) : CM (d + 4) m_X11_price SG SG [.ref 0, .int a1, .int a2] m (f_X11_price N a1 a2 m) :=
  CM.ofOk km_X11_price ⟨Nat.le_refl _, Nat.le_refl _⟩ (by simp [Value.category]) (Nat.le_of_ble_eq_true rfl) (ok_X11_price N d a1 a2 m)

def f_X11_fills (N : Nat) (a1 : Int32) (a2 : Int32) (m : Mem) : Ans :=
bd (f_X11_within N a1 1 999 m) fun r_5 m_5 =>
if r_5 = 0 then (some ((-1), m_5))
else (bd (f_X11_within N a2 0 1 m_5) fun r_14 m_14 =>
if r_14 = 0 then (some ((-1), m_14))
else (bd (f_X5_fullest N a1 m_14) fun r_27 m_27 =>
if a2 = (1 : Int32) then (some (r_27, m_27))
else (bd (f_X5_sumOf N 0 r_27 m_27) fun r_46 m_46 =>
some (r_46, m_46))))

set_option maxRecDepth 100000 in
set_option maxHeartbeats 4000000 in
theorem ok_X11_fills (N d : Nat) (a1 : Int32) (a2 : Int32)  (m : Mem) : Ok none SG (d + 3) m_X11_fills 0 [some (.ref 0), some (.int a1), some (.int a2), none] [] SG m (f_X11_fills N a1 a2 m) := by
  unfold f_X11_fills
  refine ok_iload_n 1 1 dX11_fills_0 rfl rfl rfl ?_
  refine ok_iconst 2 1 dX11_fills_1 rfl rfl ?_
  refine ok_sipush 5 999 dX11_fills_2 rfl rfl ?_
  refine ok_callSi (np := 3) (M' := m_X11_within) (As := [.int a1, .int 1, .int 999]) (st := []) 8 dX11_fills_5 rfl rfl km_X11_within ks_X11_within ml_Encores_109 (by decide) rfl rfl (Nat.le_of_ble_eq_true rfl) (c_X11_within N (d + 2) a1 1 999 m) ⟨Nat.le_refl _, Nat.le_refl _⟩ (Or.inl rfl) rfl (fun r_5 m_5 _ => ?_)
  refine ok_if_eq 20 11 dX11_fills_8 (by decide) rfl (fun _ => ?_) (fun _ => ?_)
  · refine ok_iconst 21 (-1) dX11_fills_20 rfl rfl ?_
    exact ok_iret dX11_fills_21 rfl
  · refine ok_iload_n 12 2 dX11_fills_11 rfl rfl rfl ?_
    refine ok_iconst 13 0 dX11_fills_12 rfl rfl ?_
    refine ok_iconst 14 1 dX11_fills_13 rfl rfl ?_
    refine ok_callSi (np := 3) (M' := m_X11_within) (As := [.int a2, .int 0, .int 1]) (st := []) 17 dX11_fills_14 rfl rfl km_X11_within ks_X11_within ml_Encores_109 (by decide) rfl rfl (Nat.le_of_ble_eq_true rfl) (c_X11_within N (d + 2) a2 0 1 m_5) ⟨Nat.le_refl _, Nat.le_refl _⟩ (Or.inl rfl) rfl (fun r_14 m_14 _ => ?_)
    refine ok_if_ne 22 20 dX11_fills_17 (by decide) rfl (fun _ => ?_) (fun _ => ?_)
    · refine ok_aload_n 23 0 dX11_fills_22 rfl rfl rfl ?_
      refine ok_getR 26 dX11_fills_23 rfl rfl F_Encores_94 sg_0 rfl (Nat.le_of_ble_eq_true rfl) rfl rfl ?_
      refine ok_iload_n 27 1 dX11_fills_26 rfl rfl rfl ?_
      refine ok_callVi (np := 1) (M' := m_X5_fullest) (As := [.int a1]) (st := []) 30 dX11_fills_27 rfl rfl km_X5_fullest ki_X5_fullest kv_X5_fullest ml_Encores_285 (by decide) sg_122 rfl (Nat.le_of_ble_eq_true rfl) rfl rfl rfl (Nat.le_of_ble_eq_true rfl) (c_X5_fullest N (d + 0) a1 m_14) ⟨Nat.le_refl _, Nat.le_refl _⟩ (Or.inl rfl) rfl (fun r_27 m_27 _ => ?_)
      refine ok_istore_n 31 3 [some (.ref 0), some (.int a1), some (.int a2), some (.int r_27)] dX11_fills_30 rfl rfl (by decide) rfl ?_
      refine ok_iload_n 32 2 dX11_fills_31 rfl rfl rfl ?_
      refine ok_iconst 33 1 dX11_fills_32 rfl rfl ?_
      refine ok_icmp_ne 40 36 dX11_fills_33 (by decide) rfl (fun _ => ?_) (fun _ => ?_)
      · refine ok_aload_n 41 0 dX11_fills_40 rfl rfl rfl ?_
        refine ok_getR 44 dX11_fills_41 rfl rfl F_Encores_94 sg_0 rfl (Nat.le_of_ble_eq_true rfl) rfl rfl ?_
        refine ok_iconst 45 0 dX11_fills_44 rfl rfl ?_
        refine ok_iload_n 46 3 dX11_fills_45 rfl rfl rfl ?_
        refine ok_callVi (np := 2) (M' := m_X5_sumOf) (As := [.int 0, .int r_27]) (st := []) 49 dX11_fills_46 rfl rfl km_X5_sumOf ki_X5_sumOf kv_X5_sumOf ml_Encores_288 (by decide) sg_122 rfl (Nat.le_of_ble_eq_true rfl) rfl rfl rfl (Nat.le_of_ble_eq_true rfl) (c_X5_sumOf N (d + 1) 0 r_27 m_27) ⟨Nat.le_refl _, Nat.le_refl _⟩ (Or.inl rfl) rfl (fun r_46 m_46 _ => ?_)
        exact ok_iret dX11_fills_49 rfl
      · refine ok_iload_n 37 3 dX11_fills_36 rfl rfl rfl ?_
        refine ok_goto 49 dX11_fills_37 (by decide) ?_
        exact ok_iret dX11_fills_49 rfl
    · refine ok_iconst 21 (-1) dX11_fills_20 rfl rfl ?_
      exact ok_iret dX11_fills_21 rfl

theorem c_X11_fills (N d : Nat) (a1 : Int32) (a2 : Int32)  (m : Mem) : CM (d + 3) m_X11_fills SG SG [.ref 0, .int a1, .int a2] m (f_X11_fills N a1 a2 m) :=
  CM.ofOk km_X11_fills ⟨Nat.le_refl _, Nat.le_refl _⟩ (by simp [Value.category]) (Nat.le_of_ble_eq_true rfl) (ok_X11_fills N d a1 a2 m)

def f_X11_lines (N : Nat) (a1 : Int32) (a2 : Int32) (m : Mem) : Ans :=
if a1 < 0 then (some ((-1), m))
else (if ((1 : Int32) <<< ((m 5 3) &&& 31)) ≤ a1 then (some ((-1), m))
else (bd (f_X11_within N a2 0 1 m) fun r_23 m_23 =>
if r_23 = 0 then (some ((-1), m_23))
else (if a2 = 0 then (bd (f_X5_leastSum N a1 m_23) fun r_40 m_40 =>
some (r_40, m_40))
else (bd (f_X5_firstOf N a1 m_23) fun r_51 m_51 =>
some (r_51, m_51)))))

set_option maxRecDepth 100000 in
set_option maxHeartbeats 4000000 in
theorem ok_X11_lines (N d : Nat) (a1 : Int32) (a2 : Int32)  (m : Mem) : Ok none SG (d + 4) m_X11_lines 0 [some (.ref 0), some (.int a1), some (.int a2)] [] SG m (f_X11_lines N a1 a2 m) := by
  unfold f_X11_lines
  refine ok_iload_n 1 1 dX11_lines_0 rfl rfl rfl ?_
  refine ok_if_lt 29 4 dX11_lines_1 (by decide) rfl (fun _ => ?_) (fun _ => ?_)
  · refine ok_iconst 30 (-1) dX11_lines_29 rfl rfl ?_
    exact ok_iret dX11_lines_30 rfl
  · refine ok_iload_n 5 1 dX11_lines_4 rfl rfl rfl ?_
    refine ok_iconst 6 1 dX11_lines_5 rfl rfl ?_
    refine ok_aload_n 7 0 dX11_lines_6 rfl rfl rfl ?_
    refine ok_getR 10 dX11_lines_7 rfl rfl F_Encores_16 sg_0 rfl (Nat.le_of_ble_eq_true rfl) rfl rfl ?_
    refine ok_getR 13 dX11_lines_10 rfl rfl F_Encores_131 sg_2 rfl (Nat.le_of_ble_eq_true rfl) rfl rfl ?_
    refine ok_getI 16 dX11_lines_13 rfl rfl F_Encores_117 sg_5 rfl (Nat.le_of_ble_eq_true rfl) rfl ?_
    refine ok_ishl 17 dX11_lines_16 rfl ?_
    refine ok_icmp_ge 29 20 dX11_lines_17 (by decide) rfl (fun _ => ?_) (fun _ => ?_)
    · refine ok_iconst 30 (-1) dX11_lines_29 rfl rfl ?_
      exact ok_iret dX11_lines_30 rfl
    · refine ok_iload_n 21 2 dX11_lines_20 rfl rfl rfl ?_
      refine ok_iconst 22 0 dX11_lines_21 rfl rfl ?_
      refine ok_iconst 23 1 dX11_lines_22 rfl rfl ?_
      refine ok_callSi (np := 3) (M' := m_X11_within) (As := [.int a2, .int 0, .int 1]) (st := []) 26 dX11_lines_23 rfl rfl km_X11_within ks_X11_within ml_Encores_109 (by decide) rfl rfl (Nat.le_of_ble_eq_true rfl) (c_X11_within N (d + 3) a2 0 1 m) ⟨Nat.le_refl _, Nat.le_refl _⟩ (Or.inl rfl) rfl (fun r_23 m_23 _ => ?_)
      refine ok_if_ne 31 29 dX11_lines_26 (by decide) rfl (fun _ => ?_) (fun _ => ?_)
      · refine ok_iload_n 32 2 dX11_lines_31 rfl rfl rfl ?_
        refine ok_if_ne 46 35 dX11_lines_32 (by decide) rfl (fun _ => ?_) (fun _ => ?_)
        · refine ok_aload_n 47 0 dX11_lines_46 rfl rfl rfl ?_
          refine ok_getR 50 dX11_lines_47 rfl rfl F_Encores_94 sg_0 rfl (Nat.le_of_ble_eq_true rfl) rfl rfl ?_
          refine ok_iload_n 51 1 dX11_lines_50 rfl rfl rfl ?_
          refine ok_callVi (np := 1) (M' := m_X5_firstOf) (As := [.int a1]) (st := []) 54 dX11_lines_51 rfl rfl km_X5_firstOf ki_X5_firstOf kv_X5_firstOf ml_Encores_294 (by decide) sg_122 rfl (Nat.le_of_ble_eq_true rfl) rfl rfl rfl (Nat.le_of_ble_eq_true rfl) (c_X5_firstOf N (d + 1) a1 m_23) ⟨Nat.le_refl _, Nat.le_refl _⟩ (Or.inl rfl) rfl (fun r_51 m_51 _ => ?_)
          exact ok_iret dX11_lines_54 rfl
        · refine ok_aload_n 36 0 dX11_lines_35 rfl rfl rfl ?_
          refine ok_getR 39 dX11_lines_36 rfl rfl F_Encores_94 sg_0 rfl (Nat.le_of_ble_eq_true rfl) rfl rfl ?_
          refine ok_iload_n 40 1 dX11_lines_39 rfl rfl rfl ?_
          refine ok_callVi (np := 1) (M' := m_X5_leastSum) (As := [.int a1]) (st := []) 43 dX11_lines_40 rfl rfl km_X5_leastSum ki_X5_leastSum kv_X5_leastSum ml_Encores_291 (by decide) sg_122 rfl (Nat.le_of_ble_eq_true rfl) rfl rfl rfl (Nat.le_of_ble_eq_true rfl) (c_X5_leastSum N (d + 0) a1 m_23) ⟨Nat.le_refl _, Nat.le_refl _⟩ (Or.inl rfl) rfl (fun r_40 m_40 _ => ?_)
          refine ok_goto 54 dX11_lines_43 (by decide) ?_
          exact ok_iret dX11_lines_54 rfl
      · refine ok_iconst 30 (-1) dX11_lines_29 rfl rfl ?_
        exact ok_iret dX11_lines_30 rfl

theorem c_X11_lines (N d : Nat) (a1 : Int32) (a2 : Int32)  (m : Mem) : CM (d + 4) m_X11_lines SG SG [.ref 0, .int a1, .int a2] m (f_X11_lines N a1 a2 m) :=
  CM.ofOk km_X11_lines ⟨Nat.le_refl _, Nat.le_refl _⟩ (by simp [Value.category]) (Nat.le_of_ble_eq_true rfl) (ok_X11_lines N d a1 a2 m)

def f_X11_bargain (N : Nat) (a1 : Int32) (m : Mem) : Ans :=
bd (f_X11_within N a1 0 1 m) fun r_3 m_3 =>
if r_3 = 0 then (some ((-1), m_3))
else (bd (f_X5_firstOf N (((1 : Int32) <<< ((m_3 5 3) &&& 31)) - (1 : Int32)) m_3) fun r_29 m_29 =>
bd (f_X9_at N 5 r_29 1 m_29) fun r_42 m_42 =>
if a1 = 0 then (some (r_29, m_42))
else (if (1 : Int32) ≤ r_42 then (bd (f_X9_at N 5 r_29 0 m_42) fun r_66 m_66 =>
chk (decide (r_42 ≠ 0)) <|
some (((r_66 * (60 : Int32)) / r_42), m_66))
else (some (r_29, m_42))))

set_option maxRecDepth 100000 in
set_option maxHeartbeats 4000000 in
theorem ok_X11_bargain (N d : Nat) (a1 : Int32)  (m : Mem) : Ok none SG (d + 3) m_X11_bargain 0 [some (.ref 0), some (.int a1), none, none] [] SG m (f_X11_bargain N a1 m) := by
  unfold f_X11_bargain
  refine ok_iload_n 1 1 dX11_bargain_0 rfl rfl rfl ?_
  refine ok_iconst 2 0 dX11_bargain_1 rfl rfl ?_
  refine ok_iconst 3 1 dX11_bargain_2 rfl rfl ?_
  refine ok_callSi (np := 3) (M' := m_X11_within) (As := [.int a1, .int 0, .int 1]) (st := []) 6 dX11_bargain_3 rfl rfl km_X11_within ks_X11_within ml_Encores_109 (by decide) rfl rfl (Nat.le_of_ble_eq_true rfl) (c_X11_within N (d + 2) a1 0 1 m) ⟨Nat.le_refl _, Nat.le_refl _⟩ (Or.inl rfl) rfl (fun r_3 m_3 _ => ?_)
  refine ok_if_ne 11 9 dX11_bargain_6 (by decide) rfl (fun _ => ?_) (fun _ => ?_)
  · refine ok_aload_n 12 0 dX11_bargain_11 rfl rfl rfl ?_
    refine ok_getR 15 dX11_bargain_12 rfl rfl F_Encores_94 sg_0 rfl (Nat.le_of_ble_eq_true rfl) rfl rfl ?_
    refine ok_iconst 16 1 dX11_bargain_15 rfl rfl ?_
    refine ok_aload_n 17 0 dX11_bargain_16 rfl rfl rfl ?_
    refine ok_getR 20 dX11_bargain_17 rfl rfl F_Encores_16 sg_0 rfl (Nat.le_of_ble_eq_true rfl) rfl rfl ?_
    refine ok_getR 23 dX11_bargain_20 rfl rfl F_Encores_131 sg_2 rfl (Nat.le_of_ble_eq_true rfl) rfl rfl ?_
    refine ok_getI 26 dX11_bargain_23 rfl rfl F_Encores_117 sg_5 rfl (Nat.le_of_ble_eq_true rfl) rfl ?_
    refine ok_ishl 27 dX11_bargain_26 rfl ?_
    refine ok_iconst 28 1 dX11_bargain_27 rfl rfl ?_
    refine ok_isub 29 dX11_bargain_28 rfl ?_
    refine ok_callVi (np := 1) (M' := m_X5_firstOf) (As := [.int (((1 : Int32) <<< ((m_3 5 3) &&& 31)) - (1 : Int32))]) (st := []) 32 dX11_bargain_29 rfl rfl km_X5_firstOf ki_X5_firstOf kv_X5_firstOf ml_Encores_294 (by decide) sg_122 rfl (Nat.le_of_ble_eq_true rfl) rfl rfl rfl (Nat.le_of_ble_eq_true rfl) (c_X5_firstOf N (d + 0) (((1 : Int32) <<< ((m_3 5 3) &&& 31)) - (1 : Int32)) m_3) ⟨Nat.le_refl _, Nat.le_refl _⟩ (Or.inl rfl) rfl (fun r_29 m_29 _ => ?_)
    refine ok_istore_n 33 2 [some (.ref 0), some (.int a1), some (.int r_29), none] dX11_bargain_32 rfl rfl (by decide) rfl ?_
    refine ok_aload_n 34 0 dX11_bargain_33 rfl rfl rfl ?_
    refine ok_getR 37 dX11_bargain_34 rfl rfl F_Encores_16 sg_0 rfl (Nat.le_of_ble_eq_true rfl) rfl rfl ?_
    refine ok_getR 40 dX11_bargain_37 rfl rfl F_Encores_131 sg_2 rfl (Nat.le_of_ble_eq_true rfl) rfl rfl ?_
    refine ok_iload_n 41 2 dX11_bargain_40 rfl rfl rfl ?_
    refine ok_iconst 42 1 dX11_bargain_41 rfl rfl ?_
    refine ok_callVi (np := 2) (M' := m_X9_at) (As := [.int r_29, .int 1]) (st := []) 45 dX11_bargain_42 rfl rfl km_X9_at ki_X9_at kv_X9_at ml_Encores_142 (by decide) sg_5 rfl (Nat.le_of_ble_eq_true rfl) rfl rfl rfl (Nat.le_of_ble_eq_true rfl) (c_X9_at N (d + 2) 5 r_29 1 tg_5 m_29) ⟨Nat.le_refl _, Nat.le_refl _⟩ (Or.inl rfl) rfl (fun r_42 m_42 _ => ?_)
    refine ok_istore_n 46 3 [some (.ref 0), some (.int a1), some (.int r_29), some (.int r_42)] dX11_bargain_45 rfl rfl (by decide) rfl ?_
    refine ok_iload_n 47 1 dX11_bargain_46 rfl rfl rfl ?_
    refine ok_if_eq 55 50 dX11_bargain_47 (by decide) rfl (fun _ => ?_) (fun _ => ?_)
    · refine ok_iload_n 56 2 dX11_bargain_55 rfl rfl rfl ?_
      exact ok_iret dX11_bargain_56 rfl
    · refine ok_iload_n 51 3 dX11_bargain_50 rfl rfl rfl ?_
      refine ok_iconst 52 1 dX11_bargain_51 rfl rfl ?_
      refine ok_icmp_ge 57 55 dX11_bargain_52 (by decide) rfl (fun _ => ?_) (fun _ => ?_)
      · refine ok_aload_n 58 0 dX11_bargain_57 rfl rfl rfl ?_
        refine ok_getR 61 dX11_bargain_58 rfl rfl F_Encores_16 sg_0 rfl (Nat.le_of_ble_eq_true rfl) rfl rfl ?_
        refine ok_getR 64 dX11_bargain_61 rfl rfl F_Encores_131 sg_2 rfl (Nat.le_of_ble_eq_true rfl) rfl rfl ?_
        refine ok_iload_n 65 2 dX11_bargain_64 rfl rfl rfl ?_
        refine ok_iconst 66 0 dX11_bargain_65 rfl rfl ?_
        refine ok_callVi (np := 2) (M' := m_X9_at) (As := [.int r_29, .int 0]) (st := []) 69 dX11_bargain_66 rfl rfl km_X9_at ki_X9_at kv_X9_at ml_Encores_142 (by decide) sg_5 rfl (Nat.le_of_ble_eq_true rfl) rfl rfl rfl (Nat.le_of_ble_eq_true rfl) (c_X9_at N (d + 2) 5 r_29 0 tg_5 m_42) ⟨Nat.le_refl _, Nat.le_refl _⟩ (Or.inl rfl) rfl (fun r_66 m_66 _ => ?_)
        refine ok_bipush 71 60 dX11_bargain_69 rfl rfl ?_
        refine ok_imul 72 dX11_bargain_71 rfl ?_
        refine ok_iload_n 73 3 dX11_bargain_72 rfl rfl rfl ?_
        refine ok_idiv 74 dX11_bargain_73 rfl ?_
        exact ok_iret dX11_bargain_74 rfl
      · refine ok_iload_n 56 2 dX11_bargain_55 rfl rfl rfl ?_
        exact ok_iret dX11_bargain_56 rfl
  · refine ok_iconst 10 (-1) dX11_bargain_9 rfl rfl ?_
    exact ok_iret dX11_bargain_10 rfl

theorem c_X11_bargain (N d : Nat) (a1 : Int32)  (m : Mem) : CM (d + 3) m_X11_bargain SG SG [.ref 0, .int a1] m (f_X11_bargain N a1 m) :=
  CM.ofOk km_X11_bargain ⟨Nat.le_refl _, Nat.le_refl _⟩ (by simp [Value.category]) (Nat.le_of_ble_eq_true rfl) (ok_X11_bargain N d a1 m)

def f_X11_game (N : Nat) (a1 : Int32) (m : Mem) : Ans :=
bd (f_X11_within N a1 0 1 m) fun r_3 m_3 =>
if r_3 = 0 then (some ((-1), m_3))
else (bd (f_X5_winningHeap N m_3) fun r_15 m_15 =>
if a1 = 0 then (some (r_15, m_15))
else (if r_15 = (-1 : Int32) then (some (r_15, m_15))
else (bd (f_X5_winningTake N r_15 m_15) fun r_37 m_37 =>
some (r_37, m_37))))

set_option maxRecDepth 100000 in
set_option maxHeartbeats 4000000 in
theorem ok_X11_game (N d : Nat) (a1 : Int32)  (m : Mem) : Ok none SG (d + 3) m_X11_game 0 [some (.ref 0), some (.int a1), none] [] SG m (f_X11_game N a1 m) := by
  unfold f_X11_game
  refine ok_iload_n 1 1 dX11_game_0 rfl rfl rfl ?_
  refine ok_iconst 2 0 dX11_game_1 rfl rfl ?_
  refine ok_iconst 3 1 dX11_game_2 rfl rfl ?_
  refine ok_callSi (np := 3) (M' := m_X11_within) (As := [.int a1, .int 0, .int 1]) (st := []) 6 dX11_game_3 rfl rfl km_X11_within ks_X11_within ml_Encores_109 (by decide) rfl rfl (Nat.le_of_ble_eq_true rfl) (c_X11_within N (d + 2) a1 0 1 m) ⟨Nat.le_refl _, Nat.le_refl _⟩ (Or.inl rfl) rfl (fun r_3 m_3 _ => ?_)
  refine ok_if_ne 11 9 dX11_game_6 (by decide) rfl (fun _ => ?_) (fun _ => ?_)
  · refine ok_aload_n 12 0 dX11_game_11 rfl rfl rfl ?_
    refine ok_getR 15 dX11_game_12 rfl rfl F_Encores_94 sg_0 rfl (Nat.le_of_ble_eq_true rfl) rfl rfl ?_
    refine ok_callVi (np := 0) (M' := m_X5_winningHeap) (As := []) (st := []) 18 dX11_game_15 rfl rfl km_X5_winningHeap ki_X5_winningHeap kv_X5_winningHeap ml_Encores_297 (by decide) sg_122 rfl (Nat.le_of_ble_eq_true rfl) rfl rfl rfl (Nat.le_of_ble_eq_true rfl) (c_X5_winningHeap N (d + 0) m_3) ⟨Nat.le_refl _, Nat.le_refl _⟩ (Or.inl rfl) rfl (fun r_15 m_15 _ => ?_)
    refine ok_istore_n 19 2 [some (.ref 0), some (.int a1), some (.int r_15)] dX11_game_18 rfl rfl (by decide) rfl ?_
    refine ok_iload_n 20 1 dX11_game_19 rfl rfl rfl ?_
    refine ok_if_eq 28 23 dX11_game_20 (by decide) rfl (fun _ => ?_) (fun _ => ?_)
    · refine ok_iload_n 29 2 dX11_game_28 rfl rfl rfl ?_
      refine ok_goto 40 dX11_game_29 (by decide) ?_
      exact ok_iret dX11_game_40 rfl
    · refine ok_iload_n 24 2 dX11_game_23 rfl rfl rfl ?_
      refine ok_iconst 25 (-1) dX11_game_24 rfl rfl ?_
      refine ok_icmp_ne 32 28 dX11_game_25 (by decide) rfl (fun _ => ?_) (fun _ => ?_)
      · refine ok_aload_n 33 0 dX11_game_32 rfl rfl rfl ?_
        refine ok_getR 36 dX11_game_33 rfl rfl F_Encores_94 sg_0 rfl (Nat.le_of_ble_eq_true rfl) rfl rfl ?_
        refine ok_iload_n 37 2 dX11_game_36 rfl rfl rfl ?_
        refine ok_callVi (np := 1) (M' := m_X5_winningTake) (As := [.int r_15]) (st := []) 40 dX11_game_37 rfl rfl km_X5_winningTake ki_X5_winningTake kv_X5_winningTake ml_Encores_300 (by decide) sg_122 rfl (Nat.le_of_ble_eq_true rfl) rfl rfl rfl (Nat.le_of_ble_eq_true rfl) (c_X5_winningTake N (d + 1) r_15 m_15) ⟨Nat.le_refl _, Nat.le_refl _⟩ (Or.inl rfl) rfl (fun r_37 m_37 _ => ?_)
        exact ok_iret dX11_game_40 rfl
      · refine ok_iload_n 29 2 dX11_game_28 rfl rfl rfl ?_
        refine ok_goto 40 dX11_game_29 (by decide) ?_
        exact ok_iret dX11_game_40 rfl
  · refine ok_iconst 10 (-1) dX11_game_9 rfl rfl ?_
    exact ok_iret dX11_game_10 rfl

theorem c_X11_game (N d : Nat) (a1 : Int32)  (m : Mem) : CM (d + 3) m_X11_game SG SG [.ref 0, .int a1] m (f_X11_game N a1 m) :=
  CM.ofOk km_X11_game ⟨Nat.le_refl _, Nat.le_refl _⟩ (by simp [Value.category]) (Nat.le_of_ble_eq_true rfl) (ok_X11_game N d a1 m)

def f_X11_claque (N : Nat) (a1 : Int32) (a2 : Int32) (m : Mem) : Ans :=
if a1 = (-1 : Int32) then (bnd (mset m 21 3 0) fun m_13 =>
some (0, m_13))
else (if a1 < 0 then (some ((-1), m))
else (if ((1 : Int32) <<< ((m 3 3) &&& 31)) ≤ a1 then (some ((-1), m))
else (bd (f_X11_within N a2 0 12 m) fun r_42 m_42 =>
if r_42 = 0 then (some ((-1), m_42))
else (bd (f_X9_add N 21 a1 a2 0 0 m_42) fun r_61 m_61 =>
if r_61 = 0 then (some ((-1), m_61))
else (some (m_61 21 3, m_61))))))

set_option maxRecDepth 100000 in
set_option maxHeartbeats 4000000 in
theorem ok_X11_claque (N d : Nat) (a1 : Int32) (a2 : Int32)  (m : Mem) : Ok none SG (d + 1) m_X11_claque 0 [some (.ref 0), some (.int a1), some (.int a2)] [] SG m (f_X11_claque N a1 a2 m) := by
  unfold f_X11_claque
  refine ok_iload_n 1 1 dX11_claque_0 rfl rfl rfl ?_
  refine ok_iconst 2 (-1) dX11_claque_1 rfl rfl ?_
  refine ok_icmp_ne 18 5 dX11_claque_2 (by decide) rfl (fun _ => ?_) (fun _ => ?_)
  · refine ok_iload_n 19 1 dX11_claque_18 rfl rfl rfl ?_
    refine ok_if_lt 48 22 dX11_claque_19 (by decide) rfl (fun _ => ?_) (fun _ => ?_)
    · refine ok_iconst 49 (-1) dX11_claque_48 rfl rfl ?_
      exact ok_iret dX11_claque_49 rfl
    · refine ok_iload_n 23 1 dX11_claque_22 rfl rfl rfl ?_
      refine ok_iconst 24 1 dX11_claque_23 rfl rfl ?_
      refine ok_aload_n 25 0 dX11_claque_24 rfl rfl rfl ?_
      refine ok_getR 28 dX11_claque_25 rfl rfl F_Encores_16 sg_0 rfl (Nat.le_of_ble_eq_true rfl) rfl rfl ?_
      refine ok_getR 31 dX11_claque_28 rfl rfl F_Encores_113 sg_2 rfl (Nat.le_of_ble_eq_true rfl) rfl rfl ?_
      refine ok_getI 34 dX11_claque_31 rfl rfl F_Encores_117 sg_3 rfl (Nat.le_of_ble_eq_true rfl) rfl ?_
      refine ok_ishl 35 dX11_claque_34 rfl ?_
      refine ok_icmp_ge 48 38 dX11_claque_35 (by decide) rfl (fun _ => ?_) (fun _ => ?_)
      · refine ok_iconst 49 (-1) dX11_claque_48 rfl rfl ?_
        exact ok_iret dX11_claque_49 rfl
      · refine ok_iload_n 39 2 dX11_claque_38 rfl rfl rfl ?_
        refine ok_iconst 40 0 dX11_claque_39 rfl rfl ?_
        refine ok_bipush 42 12 dX11_claque_40 rfl rfl ?_
        refine ok_callSi (np := 3) (M' := m_X11_within) (As := [.int a2, .int 0, .int 12]) (st := []) 45 dX11_claque_42 rfl rfl km_X11_within ks_X11_within ml_Encores_109 (by decide) rfl rfl (Nat.le_of_ble_eq_true rfl) (c_X11_within N (d + 0) a2 0 12 m) ⟨Nat.le_refl _, Nat.le_refl _⟩ (Or.inl rfl) rfl (fun r_42 m_42 _ => ?_)
        refine ok_if_ne 50 48 dX11_claque_45 (by decide) rfl (fun _ => ?_) (fun _ => ?_)
        · refine ok_aload_n 51 0 dX11_claque_50 rfl rfl rfl ?_
          refine ok_getR 54 dX11_claque_51 rfl rfl F_Encores_16 sg_0 rfl (Nat.le_of_ble_eq_true rfl) rfl rfl ?_
          refine ok_getR 57 dX11_claque_54 rfl rfl F_Encores_229 sg_2 rfl (Nat.le_of_ble_eq_true rfl) rfl rfl ?_
          refine ok_iload_n 58 1 dX11_claque_57 rfl rfl rfl ?_
          refine ok_iload_n 59 2 dX11_claque_58 rfl rfl rfl ?_
          refine ok_iconst 60 0 dX11_claque_59 rfl rfl ?_
          refine ok_iconst 61 0 dX11_claque_60 rfl rfl ?_
          refine ok_callVi (np := 4) (M' := m_X9_add) (As := [.int a1, .int a2, .int 0, .int 0]) (st := []) 64 dX11_claque_61 rfl rfl km_X9_add ki_X9_add kv_X9_add ml_Encores_123 (by decide) sg_21 rfl (Nat.le_of_ble_eq_true rfl) rfl rfl rfl (Nat.le_of_ble_eq_true rfl) (c_X9_add N (d + 0) 21 a1 a2 0 0 tg_21 m_42) ⟨Nat.le_refl _, Nat.le_refl _⟩ (Or.inl rfl) rfl (fun r_61 m_61 _ => ?_)
          refine ok_if_eq 80 67 dX11_claque_64 (by decide) rfl (fun _ => ?_) (fun _ => ?_)
          · refine ok_iconst 81 (-1) dX11_claque_80 rfl rfl ?_
            exact ok_iret dX11_claque_81 rfl
          · refine ok_aload_n 68 0 dX11_claque_67 rfl rfl rfl ?_
            refine ok_getR 71 dX11_claque_68 rfl rfl F_Encores_16 sg_0 rfl (Nat.le_of_ble_eq_true rfl) rfl rfl ?_
            refine ok_getR 74 dX11_claque_71 rfl rfl F_Encores_229 sg_2 rfl (Nat.le_of_ble_eq_true rfl) rfl rfl ?_
            refine ok_getI 77 dX11_claque_74 rfl rfl F_Encores_117 sg_21 rfl (Nat.le_of_ble_eq_true rfl) rfl ?_
            refine ok_goto 81 dX11_claque_77 (by decide) ?_
            exact ok_iret dX11_claque_81 rfl
        · refine ok_iconst 49 (-1) dX11_claque_48 rfl rfl ?_
          exact ok_iret dX11_claque_49 rfl
  · refine ok_aload_n 6 0 dX11_claque_5 rfl rfl rfl ?_
    refine ok_getR 9 dX11_claque_6 rfl rfl F_Encores_16 sg_0 rfl (Nat.le_of_ble_eq_true rfl) rfl rfl ?_
    refine ok_getR 12 dX11_claque_9 rfl rfl F_Encores_229 sg_2 rfl (Nat.le_of_ble_eq_true rfl) rfl rfl ?_
    refine ok_iconst 13 0 dX11_claque_12 rfl rfl ?_
    refine ok_putI 16 dX11_claque_13 rfl rfl F_Encores_117 sg_21 rfl (Nat.le_of_ble_eq_true rfl) rfl rfl pZ_9_3 rfl rfl ?_
    refine ok_bndM (fun m_13 => ?_)
    refine ok_iconst 17 0 dX11_claque_16 rfl rfl ?_
    exact ok_iret dX11_claque_17 rfl

theorem c_X11_claque (N d : Nat) (a1 : Int32) (a2 : Int32)  (m : Mem) : CM (d + 1) m_X11_claque SG SG [.ref 0, .int a1, .int a2] m (f_X11_claque N a1 a2 m) :=
  CM.ofOk km_X11_claque ⟨Nat.le_refl _, Nat.le_refl _⟩ (by simp [Value.category]) (Nat.le_of_ble_eq_true rfl) (ok_X11_claque N d a1 a2 m)

def f_X11_clearWith_L2 (N : Nat)    (X : Int32 → Mem → Ans) (s1_2 : Int32) (m : Mem) : Ans :=
if (12 : Int32) ≤ s1_2 then (some (0, m))
else (chk (inb s1_2 12) <|
bnd (mset m 1 s1_2.toNatClampNeg 0) fun m_17 =>
X (s1_2 + 1) m_17)

def f_X11_clearWith (N : Nat)  (m : Mem) : Ans :=
it1 (f_X11_clearWith_L2 N ) N 0 m

set_option maxRecDepth 100000 in
set_option maxHeartbeats 4000000 in
theorem ok_X11_clearWith_L2 (N d : Nat)     : ∀ (n : Nat) (s1_2 : Int32) (m : Mem), Ok none SG (d + 0) m_X11_clearWith 2 [some (.ref 0), some (.int s1_2)] [] SG m (it1 (f_X11_clearWith_L2 N) n s1_2 m) :=
  ok_it1 (fun s1_2 => [some (.ref 0), some (.int s1_2)]) (fun X hX s1_2 m => by
    try unfold f_X11_clearWith_L2
    refine ok_iload_n 3 1 dX11_clearWith_2 rfl rfl rfl ?_
    refine ok_aload_n 4 0 dX11_clearWith_3 rfl rfl rfl ?_
    refine ok_getR 7 dX11_clearWith_4 rfl rfl F_Encores_9 sg_0 rfl (Nat.le_of_ble_eq_true rfl) rfl rfl ?_
    refine ok_alen 8 dX11_clearWith_7 rfl sg_1 ?_
    rw [show Int32.ofNat 12 = 12 from rfl]
    refine ok_icmp_ge 24 11 dX11_clearWith_8 (by decide) rfl (fun _ => ?_) (fun _ => ?_)
    · exact ok_vret dX11_clearWith_24 rfl
    · refine ok_aload_n 12 0 dX11_clearWith_11 rfl rfl rfl ?_
      refine ok_getR 15 dX11_clearWith_12 rfl rfl F_Encores_9 sg_0 rfl (Nat.le_of_ble_eq_true rfl) rfl rfl ?_
      refine ok_iload_n 16 1 dX11_clearWith_15 rfl rfl rfl ?_
      refine ok_iconst 17 0 dX11_clearWith_16 rfl rfl ?_
      refine ok_iast 18 dX11_clearWith_17 rfl sg_1 ?_
      refine ok_bndM (fun m_17 => ?_)
      refine ok_iinc 21 1 1 [some (.ref 0), some (.int (s1_2 + 1))] dX11_clearWith_18 rfl rfl rfl (by decide) rfl ?_
      refine ok_goto 2 dX11_clearWith_21 (by decide) ?_
      exact ok_less [some (.ref 0), some (.int (s1_2 + 1))] (And.intro rfl (And.intro rfl (trivial))) (hX (s1_2 + 1) m_17))

set_option maxRecDepth 100000 in
set_option maxHeartbeats 4000000 in
theorem ok_X11_clearWith (N d : Nat)   (m : Mem) : Ok none SG (d + 0) m_X11_clearWith 0 [some (.ref 0), none] [] SG m (f_X11_clearWith N m) := by
  unfold f_X11_clearWith
  refine ok_iconst 1 0 dX11_clearWith_0 rfl rfl ?_
  refine ok_istore_n 2 1 [some (.ref 0), some (.int 0)] dX11_clearWith_1 rfl rfl (by decide) rfl ?_
  refine ok_less [some (.ref 0), some (.int 0)] (And.intro rfl (And.intro rfl (trivial))) ?_
  exact ok_X11_clearWith_L2 N d     N 0 m

theorem c_X11_clearWith (N d : Nat)   (m : Mem) : CM (d + 0) m_X11_clearWith SG SG [.ref 0] m (f_X11_clearWith N m) :=
  CM.ofOk km_X11_clearWith ⟨Nat.le_refl _, Nat.le_refl _⟩ (by simp [Value.category]) (Nat.le_of_ble_eq_true rfl) (ok_X11_clearWith N d  m)

def f_X11_couldBePaid_L2 (N : Nat) (a1 : Int32)   (X : Int32 → Mem → Ans) (s2_2 : Int32) (m : Mem) : Ans :=
if (m 21 3) ≤ s2_2 then (some (1, m))
else (bd (f_X9_at N 21 s2_2 0 m) fun r_26 m_26 =>
bd (f_J6_bitCount_0f7a4 N (a1 &&& r_26) m_26) fun r_30 m_30 =>
bd (f_X9_at N 21 s2_2 1 m_30) fun r_42 m_42 =>
if r_30 = r_42 then (X (s2_2 + 1) m_42)
else (some (0, m_42)))

def f_X11_couldBePaid (N : Nat) (a1 : Int32) (m : Mem) : Ans :=
it1 (f_X11_couldBePaid_L2 N a1 ) N 0 m

set_option maxRecDepth 100000 in
set_option maxHeartbeats 4000000 in
theorem ok_X11_couldBePaid_L2 (N d : Nat) (a1 : Int32)    : ∀ (n : Nat) (s2_2 : Int32) (m : Mem), Ok none SG (d + 1) m_X11_couldBePaid 2 [some (.ref 0), some (.int a1), some (.int s2_2)] [] SG m (it1 (f_X11_couldBePaid_L2 N a1) n s2_2 m) :=
  ok_it1 (fun s2_2 => [some (.ref 0), some (.int a1), some (.int s2_2)]) (fun X hX s2_2 m => by
    try unfold f_X11_couldBePaid_L2
    refine ok_iload_n 3 2 dX11_couldBePaid_2 rfl rfl rfl ?_
    refine ok_aload_n 4 0 dX11_couldBePaid_3 rfl rfl rfl ?_
    refine ok_getR 7 dX11_couldBePaid_4 rfl rfl F_Encores_16 sg_0 rfl (Nat.le_of_ble_eq_true rfl) rfl rfl ?_
    refine ok_getR 10 dX11_couldBePaid_7 rfl rfl F_Encores_229 sg_2 rfl (Nat.le_of_ble_eq_true rfl) rfl rfl ?_
    refine ok_getI 13 dX11_couldBePaid_10 rfl rfl F_Encores_117 sg_21 rfl (Nat.le_of_ble_eq_true rfl) rfl ?_
    refine ok_icmp_ge 56 16 dX11_couldBePaid_13 (by decide) rfl (fun _ => ?_) (fun _ => ?_)
    · refine ok_iconst 57 1 dX11_couldBePaid_56 rfl rfl ?_
      exact ok_zretc dX11_couldBePaid_57 rfl rfl
    · refine ok_iload_n 17 1 dX11_couldBePaid_16 rfl rfl rfl ?_
      refine ok_aload_n 18 0 dX11_couldBePaid_17 rfl rfl rfl ?_
      refine ok_getR 21 dX11_couldBePaid_18 rfl rfl F_Encores_16 sg_0 rfl (Nat.le_of_ble_eq_true rfl) rfl rfl ?_
      refine ok_getR 24 dX11_couldBePaid_21 rfl rfl F_Encores_229 sg_2 rfl (Nat.le_of_ble_eq_true rfl) rfl rfl ?_
      refine ok_iload_n 25 2 dX11_couldBePaid_24 rfl rfl rfl ?_
      refine ok_iconst 26 0 dX11_couldBePaid_25 rfl rfl ?_
      refine ok_callVi (np := 2) (M' := m_X9_at) (As := [.int s2_2, .int 0]) (st := [.int a1]) 29 dX11_couldBePaid_26 rfl rfl km_X9_at ki_X9_at kv_X9_at ml_Encores_142 (by decide) sg_21 rfl (Nat.le_of_ble_eq_true rfl) rfl rfl rfl (Nat.le_of_ble_eq_true rfl) (c_X9_at N (d + 0) 21 s2_2 0 tg_21 m) ⟨Nat.le_refl _, Nat.le_refl _⟩ (Or.inl rfl) rfl (fun r_26 m_26 _ => ?_)
      refine ok_iand 30 dX11_couldBePaid_29 rfl ?_
      refine ok_callSi (np := 1) (M' := m_J6_bitCount_0f7a4) (As := [.int (a1 &&& r_26)]) (st := []) 33 dX11_couldBePaid_30 rfl rfl km_J6_bitCount_0f7a4 ks_J6_bitCount_0f7a4 ml_Encores_273 (by decide) rfl rfl (Nat.le_of_ble_eq_true rfl) (c_J6_bitCount_0f7a4 N (d + 0) (a1 &&& r_26) m_26) ⟨Nat.le_refl _, Nat.le_refl _⟩ (Or.inl rfl) rfl (fun r_30 m_30 _ => ?_)
      refine ok_aload_n 34 0 dX11_couldBePaid_33 rfl rfl rfl ?_
      refine ok_getR 37 dX11_couldBePaid_34 rfl rfl F_Encores_16 sg_0 rfl (Nat.le_of_ble_eq_true rfl) rfl rfl ?_
      refine ok_getR 40 dX11_couldBePaid_37 rfl rfl F_Encores_229 sg_2 rfl (Nat.le_of_ble_eq_true rfl) rfl rfl ?_
      refine ok_iload_n 41 2 dX11_couldBePaid_40 rfl rfl rfl ?_
      refine ok_iconst 42 1 dX11_couldBePaid_41 rfl rfl ?_
      refine ok_callVi (np := 2) (M' := m_X9_at) (As := [.int s2_2, .int 1]) (st := [.int r_30]) 45 dX11_couldBePaid_42 rfl rfl km_X9_at ki_X9_at kv_X9_at ml_Encores_142 (by decide) sg_21 rfl (Nat.le_of_ble_eq_true rfl) rfl rfl rfl (Nat.le_of_ble_eq_true rfl) (c_X9_at N (d + 0) 21 s2_2 1 tg_21 m_30) ⟨Nat.le_refl _, Nat.le_refl _⟩ (Or.inl rfl) rfl (fun r_42 m_42 _ => ?_)
      refine ok_icmp_eq 50 48 dX11_couldBePaid_45 (by decide) rfl (fun _ => ?_) (fun _ => ?_)
      · refine ok_iinc 53 2 1 [some (.ref 0), some (.int a1), some (.int (s2_2 + 1))] dX11_couldBePaid_50 rfl rfl rfl (by decide) rfl ?_
        refine ok_goto 2 dX11_couldBePaid_53 (by decide) ?_
        exact ok_less [some (.ref 0), some (.int a1), some (.int (s2_2 + 1))] (And.intro rfl (And.intro rfl (And.intro rfl (trivial)))) (hX (s2_2 + 1) m_42)
      · refine ok_iconst 49 0 dX11_couldBePaid_48 rfl rfl ?_
        exact ok_zretc dX11_couldBePaid_49 rfl rfl)

set_option maxRecDepth 100000 in
set_option maxHeartbeats 4000000 in
theorem ok_X11_couldBePaid (N d : Nat) (a1 : Int32)  (m : Mem) : Ok none SG (d + 1) m_X11_couldBePaid 0 [some (.ref 0), some (.int a1), none] [] SG m (f_X11_couldBePaid N a1 m) := by
  unfold f_X11_couldBePaid
  refine ok_iconst 1 0 dX11_couldBePaid_0 rfl rfl ?_
  refine ok_istore_n 2 2 [some (.ref 0), some (.int a1), some (.int 0)] dX11_couldBePaid_1 rfl rfl (by decide) rfl ?_
  refine ok_less [some (.ref 0), some (.int a1), some (.int 0)] (And.intro rfl (And.intro rfl (And.intro rfl (trivial)))) ?_
  exact ok_X11_couldBePaid_L2 N d a1    N 0 m

theorem c_X11_couldBePaid (N d : Nat) (a1 : Int32)  (m : Mem) : CM (d + 1) m_X11_couldBePaid SG SG [.ref 0, .int a1] m (f_X11_couldBePaid N a1 m) :=
  CM.ofOk km_X11_couldBePaid ⟨Nat.le_refl _, Nat.le_refl _⟩ (by simp [Value.category]) (Nat.le_of_ble_eq_true rfl) (ok_X11_couldBePaid N d a1 m)

def f_X11_countWith_L2 (N : Nat) (a1 : Int32)   (X : Int32 → Mem → Ans) (s2_2 : Int32) (m : Mem) : Ans :=
if (12 : Int32) ≤ s2_2 then (some (0, m))
else (chk (inb s2_2 12) <|
bd (f_X11_isIn N s2_2 a1 m) fun r_20 m_20 =>
if r_20 = 0 then (chk (inb s2_2 12) <|
bnd (mset m_20 1 s2_2.toNatClampNeg ((m 1 s2_2.toNatClampNeg) + (0 : Int32))) fun m_32 =>
X (s2_2 + 1) m_32)
else (chk (inb s2_2 12) <|
bnd (mset m_20 1 s2_2.toNatClampNeg ((m 1 s2_2.toNatClampNeg) + (1 : Int32))) fun m_32 =>
X (s2_2 + 1) m_32))

def f_X11_countWith (N : Nat) (a1 : Int32) (m : Mem) : Ans :=
it1 (f_X11_countWith_L2 N a1 ) N 0 m

set_option maxRecDepth 100000 in
set_option maxHeartbeats 4000000 in
theorem ok_X11_countWith_L2 (N d : Nat) (a1 : Int32)    : ∀ (n : Nat) (s2_2 : Int32) (m : Mem), Ok none SG (d + 1) m_X11_countWith 2 [some (.ref 0), some (.int a1), some (.int s2_2)] [] SG m (it1 (f_X11_countWith_L2 N a1) n s2_2 m) :=
  ok_it1 (fun s2_2 => [some (.ref 0), some (.int a1), some (.int s2_2)]) (fun X hX s2_2 m => by
    try unfold f_X11_countWith_L2
    refine ok_iload_n 3 2 dX11_countWith_2 rfl rfl rfl ?_
    refine ok_aload_n 4 0 dX11_countWith_3 rfl rfl rfl ?_
    refine ok_getR 7 dX11_countWith_4 rfl rfl F_Encores_9 sg_0 rfl (Nat.le_of_ble_eq_true rfl) rfl rfl ?_
    refine ok_alen 8 dX11_countWith_7 rfl sg_1 ?_
    rw [show Int32.ofNat 12 = 12 from rfl]
    refine ok_icmp_ge 39 11 dX11_countWith_8 (by decide) rfl (fun _ => ?_) (fun _ => ?_)
    · exact ok_vret dX11_countWith_39 rfl
    · refine ok_aload_n 12 0 dX11_countWith_11 rfl rfl rfl ?_
      refine ok_getR 15 dX11_countWith_12 rfl rfl F_Encores_9 sg_0 rfl (Nat.le_of_ble_eq_true rfl) rfl rfl ?_
      refine ok_iload_n 16 2 dX11_countWith_15 rfl rfl rfl ?_
      refine ok_dup2 17 dX11_countWith_16 rfl rfl rfl ?_
      refine ok_iald 18 dX11_countWith_17 rfl sg_1 ?_
      refine ok_iload_n 19 2 dX11_countWith_18 rfl rfl rfl ?_
      refine ok_iload_n 20 1 dX11_countWith_19 rfl rfl rfl ?_
      refine ok_callSi (np := 2) (M' := m_X11_isIn) (As := [.int s2_2, .int a1]) (st := [.int (m 1 s2_2.toNatClampNeg), .int s2_2, .ref 1]) 23 dX11_countWith_20 rfl rfl km_X11_isIn ks_X11_isIn ml_Encores_278 (by decide) rfl rfl (Nat.le_of_ble_eq_true rfl) (c_X11_isIn N (d + 0) s2_2 a1 m) ⟨Nat.le_refl _, Nat.le_refl _⟩ (Or.inl rfl) rfl (fun r_20 m_20 _ => ?_)
      refine ok_if_eq 30 26 dX11_countWith_23 (by decide) rfl (fun _ => ?_) (fun _ => ?_)
      · refine ok_iconst 31 0 dX11_countWith_30 rfl rfl ?_
        refine ok_iadd 32 dX11_countWith_31 rfl ?_
        refine ok_iast 33 dX11_countWith_32 rfl sg_1 ?_
        refine ok_bndM (fun m_32 => ?_)
        refine ok_iinc 36 2 1 [some (.ref 0), some (.int a1), some (.int (s2_2 + 1))] dX11_countWith_33 rfl rfl rfl (by decide) rfl ?_
        refine ok_goto 2 dX11_countWith_36 (by decide) ?_
        exact ok_less [some (.ref 0), some (.int a1), some (.int (s2_2 + 1))] (And.intro rfl (And.intro rfl (And.intro rfl (trivial)))) (hX (s2_2 + 1) m_32)
      · refine ok_iconst 27 1 dX11_countWith_26 rfl rfl ?_
        refine ok_goto 31 dX11_countWith_27 (by decide) ?_
        refine ok_iadd 32 dX11_countWith_31 rfl ?_
        refine ok_iast 33 dX11_countWith_32 rfl sg_1 ?_
        refine ok_bndM (fun m_32 => ?_)
        refine ok_iinc 36 2 1 [some (.ref 0), some (.int a1), some (.int (s2_2 + 1))] dX11_countWith_33 rfl rfl rfl (by decide) rfl ?_
        refine ok_goto 2 dX11_countWith_36 (by decide) ?_
        exact ok_less [some (.ref 0), some (.int a1), some (.int (s2_2 + 1))] (And.intro rfl (And.intro rfl (And.intro rfl (trivial)))) (hX (s2_2 + 1) m_32))

set_option maxRecDepth 100000 in
set_option maxHeartbeats 4000000 in
theorem ok_X11_countWith (N d : Nat) (a1 : Int32)  (m : Mem) : Ok none SG (d + 1) m_X11_countWith 0 [some (.ref 0), some (.int a1), none] [] SG m (f_X11_countWith N a1 m) := by
  unfold f_X11_countWith
  refine ok_iconst 1 0 dX11_countWith_0 rfl rfl ?_
  refine ok_istore_n 2 2 [some (.ref 0), some (.int a1), some (.int 0)] dX11_countWith_1 rfl rfl (by decide) rfl ?_
  refine ok_less [some (.ref 0), some (.int a1), some (.int 0)] (And.intro rfl (And.intro rfl (And.intro rfl (trivial)))) ?_
  exact ok_X11_countWith_L2 N d a1    N 0 m

theorem c_X11_countWith (N d : Nat) (a1 : Int32)  (m : Mem) : CM (d + 1) m_X11_countWith SG SG [.ref 0, .int a1] m (f_X11_countWith N a1 m) :=
  CM.ofOk km_X11_countWith ⟨Nat.le_refl _, Nat.le_refl _⟩ (by simp [Value.category]) (Nat.le_of_ble_eq_true rfl) (ok_X11_countWith N d a1 m)

def f_X11_whomToAsk_L7 (N : Nat) (a1 : Int32)   (X : Int32 → Int32 → Int32 → Mem → Ans) (s2_7 : Int32) (s3_7 : Int32) (s4_7 : Int32) (m : Mem) : Ans :=
if (m 3 3) ≤ s4_7 then (some (s2_7, m))
else (if (12 : Int32) ≤ s4_7 then (some (s2_7, m))
else (chk (inb s4_7 12) <|
chk (inb s4_7 12) <|
bnd (if (m 1 s4_7.toNatClampNeg) < (a1 - (m 1 s4_7.toNatClampNeg)) then (a1 - (m 1 s4_7.toNatClampNeg)) else (m 1 s4_7.toNatClampNeg)) fun a5_51 =>
if s3_7 ≤ a5_51 then (X s2_7 s3_7 (s4_7 + 1) m)
else (X s4_7 a5_51 (s4_7 + 1) m)))

def f_X11_whomToAsk (N : Nat) (a1 : Int32) (m : Mem) : Ans :=
it3 (f_X11_whomToAsk_L7 N a1 ) N (-1) a1 0 m

set_option maxRecDepth 100000 in
set_option maxHeartbeats 4000000 in
theorem ok_X11_whomToAsk_L7 (N d : Nat) (a1 : Int32)    : ∀ (n : Nat) (s2_7 : Int32) (s3_7 : Int32) (s4_7 : Int32) (m : Mem), Ok none SG (d + 1) m_X11_whomToAsk 7 [some (.ref 0), some (.int a1), some (.int s2_7), some (.int s3_7), some (.int s4_7), none] [] SG m (it3 (f_X11_whomToAsk_L7 N a1) n s2_7 s3_7 s4_7 m) :=
  ok_it3 (fun s2_7 s3_7 s4_7 => [some (.ref 0), some (.int a1), some (.int s2_7), some (.int s3_7), some (.int s4_7), none]) (fun X hX s2_7 s3_7 s4_7 m => by
    try unfold f_X11_whomToAsk_L7
    refine ok_iload 9 4 dX11_whomToAsk_7 rfl rfl ?_
    refine ok_aload_n 10 0 dX11_whomToAsk_9 rfl rfl rfl ?_
    refine ok_getR 13 dX11_whomToAsk_10 rfl rfl F_Encores_16 sg_0 rfl (Nat.le_of_ble_eq_true rfl) rfl rfl ?_
    refine ok_getR 16 dX11_whomToAsk_13 rfl rfl F_Encores_113 sg_2 rfl (Nat.le_of_ble_eq_true rfl) rfl rfl ?_
    refine ok_getI 19 dX11_whomToAsk_16 rfl rfl F_Encores_117 sg_3 rfl (Nat.le_of_ble_eq_true rfl) rfl ?_
    refine ok_icmp_ge 71 22 dX11_whomToAsk_19 (by decide) rfl (fun _ => ?_) (fun _ => ?_)
    · refine ok_iload_n 72 2 dX11_whomToAsk_71 rfl rfl rfl ?_
      exact ok_iret dX11_whomToAsk_72 rfl
    · refine ok_iload 24 4 dX11_whomToAsk_22 rfl rfl ?_
      refine ok_aload_n 25 0 dX11_whomToAsk_24 rfl rfl rfl ?_
      refine ok_getR 28 dX11_whomToAsk_25 rfl rfl F_Encores_9 sg_0 rfl (Nat.le_of_ble_eq_true rfl) rfl rfl ?_
      refine ok_alen 29 dX11_whomToAsk_28 rfl sg_1 ?_
      rw [show Int32.ofNat 12 = 12 from rfl]
      refine ok_icmp_ge 71 32 dX11_whomToAsk_29 (by decide) rfl (fun _ => ?_) (fun _ => ?_)
      · refine ok_iload_n 72 2 dX11_whomToAsk_71 rfl rfl rfl ?_
        exact ok_iret dX11_whomToAsk_72 rfl
      · refine ok_aload_n 33 0 dX11_whomToAsk_32 rfl rfl rfl ?_
        refine ok_getR 36 dX11_whomToAsk_33 rfl rfl F_Encores_9 sg_0 rfl (Nat.le_of_ble_eq_true rfl) rfl rfl ?_
        refine ok_iload 38 4 dX11_whomToAsk_36 rfl rfl ?_
        refine ok_iald 39 dX11_whomToAsk_38 rfl sg_1 ?_
        refine ok_iload_n 40 1 dX11_whomToAsk_39 rfl rfl rfl ?_
        refine ok_aload_n 41 0 dX11_whomToAsk_40 rfl rfl rfl ?_
        refine ok_getR 44 dX11_whomToAsk_41 rfl rfl F_Encores_9 sg_0 rfl (Nat.le_of_ble_eq_true rfl) rfl rfl ?_
        refine ok_iload 46 4 dX11_whomToAsk_44 rfl rfl ?_
        refine ok_iald 47 dX11_whomToAsk_46 rfl sg_1 ?_
        refine ok_isub 48 dX11_whomToAsk_47 rfl ?_
        refine ok_max 51 ⟨Nat.le_refl _, Nat.le_refl _⟩ dX11_whomToAsk_48 rfl rfl ml_Encores_315 (Nat.le_of_ble_eq_true rfl) ?_
        refine ok_bndI (fun a5_51 => ?_)
        refine ok_istore 53 5 [some (.ref 0), some (.int a1), some (.int s2_7), some (.int s3_7), some (.int s4_7), some (.int a5_51)] dX11_whomToAsk_51 rfl (by decide) rfl ?_
        refine ok_iload 55 5 dX11_whomToAsk_53 rfl rfl ?_
        refine ok_iload_n 56 3 dX11_whomToAsk_55 rfl rfl rfl ?_
        refine ok_icmp_ge 65 59 dX11_whomToAsk_56 (by decide) rfl (fun _ => ?_) (fun _ => ?_)
        · refine ok_iinc 68 4 1 [some (.ref 0), some (.int a1), some (.int s2_7), some (.int s3_7), some (.int (s4_7 + 1)), some (.int a5_51)] dX11_whomToAsk_65 rfl rfl rfl (by decide) rfl ?_
          refine ok_goto 7 dX11_whomToAsk_68 (by decide) ?_
          exact ok_less [some (.ref 0), some (.int a1), some (.int s2_7), some (.int s3_7), some (.int (s4_7 + 1)), none] (And.intro rfl (And.intro rfl (And.intro rfl (And.intro rfl (And.intro rfl (trivial)))))) (hX s2_7 s3_7 (s4_7 + 1) m)
        · refine ok_iload 61 5 dX11_whomToAsk_59 rfl rfl ?_
          refine ok_istore_n 62 3 [some (.ref 0), some (.int a1), some (.int s2_7), some (.int a5_51), some (.int s4_7), some (.int a5_51)] dX11_whomToAsk_61 rfl rfl (by decide) rfl ?_
          refine ok_iload 64 4 dX11_whomToAsk_62 rfl rfl ?_
          refine ok_istore_n 65 2 [some (.ref 0), some (.int a1), some (.int s4_7), some (.int a5_51), some (.int s4_7), some (.int a5_51)] dX11_whomToAsk_64 rfl rfl (by decide) rfl ?_
          refine ok_iinc 68 4 1 [some (.ref 0), some (.int a1), some (.int s4_7), some (.int a5_51), some (.int (s4_7 + 1)), some (.int a5_51)] dX11_whomToAsk_65 rfl rfl rfl (by decide) rfl ?_
          refine ok_goto 7 dX11_whomToAsk_68 (by decide) ?_
          exact ok_less [some (.ref 0), some (.int a1), some (.int s4_7), some (.int a5_51), some (.int (s4_7 + 1)), none] (And.intro rfl (And.intro rfl (And.intro rfl (And.intro rfl (And.intro rfl (trivial)))))) (hX s4_7 a5_51 (s4_7 + 1) m))

set_option maxRecDepth 100000 in
set_option maxHeartbeats 4000000 in
theorem ok_X11_whomToAsk (N d : Nat) (a1 : Int32)  (m : Mem) : Ok none SG (d + 1) m_X11_whomToAsk 0 [some (.ref 0), some (.int a1), none, none, none, none] [] SG m (f_X11_whomToAsk N a1 m) := by
  unfold f_X11_whomToAsk
  refine ok_iconst 1 (-1) dX11_whomToAsk_0 rfl rfl ?_
  refine ok_istore_n 2 2 [some (.ref 0), some (.int a1), some (.int (-1)), none, none, none] dX11_whomToAsk_1 rfl rfl (by decide) rfl ?_
  refine ok_iload_n 3 1 dX11_whomToAsk_2 rfl rfl rfl ?_
  refine ok_istore_n 4 3 [some (.ref 0), some (.int a1), some (.int (-1)), some (.int a1), none, none] dX11_whomToAsk_3 rfl rfl (by decide) rfl ?_
  refine ok_iconst 5 0 dX11_whomToAsk_4 rfl rfl ?_
  refine ok_istore 7 4 [some (.ref 0), some (.int a1), some (.int (-1)), some (.int a1), some (.int 0), none] dX11_whomToAsk_5 rfl (by decide) rfl ?_
  refine ok_less [some (.ref 0), some (.int a1), some (.int (-1)), some (.int a1), some (.int 0), none] (And.intro rfl (And.intro rfl (And.intro rfl (And.intro rfl (And.intro rfl (trivial)))))) ?_
  exact ok_X11_whomToAsk_L7 N d a1    N (-1) a1 0 m

theorem c_X11_whomToAsk (N d : Nat) (a1 : Int32)  (m : Mem) : CM (d + 1) m_X11_whomToAsk SG SG [.ref 0, .int a1] m (f_X11_whomToAsk N a1 m) :=
  CM.ofOk km_X11_whomToAsk ⟨Nat.le_refl _, Nat.le_refl _⟩ (by simp [Value.category]) (Nat.le_of_ble_eq_true rfl) (ok_X11_whomToAsk N d a1 m)

def f_X11_fits_L25 (N : Nat) (a1 : Int32)  (K82 : Int32 → Int32 → Int32 → Mem → Ans) (X : Int32 → Int32 → Int32 → Int32 → Mem → Ans) (s2_25 : Int32) (s3_25 : Int32) (s4_25 : Int32) (s5_25 : Int32) (m : Mem) : Ans :=
if ((1 : Int32) <<< ((m 3 3) &&& 31)) ≤ s5_25 then (K82 s2_25 s3_25 s4_25 m)
else (bd (f_X11_couldBePaid N s5_25 m) fun r_45 m_45 =>
if r_45 = 0 then (X s2_25 s3_25 s4_25 (s5_25 + 1) m_45)
else (if s3_25 = (-1 : Int32) then (bd (f_X11_countWith N s5_25 m_45) fun _ m_73 =>
X (s2_25 + 1) s5_25 s5_25 (s5_25 + 1) m_73)
else (bd (f_X11_countWith N s5_25 m_45) fun _ m_73 =>
X (s2_25 + 1) s3_25 s5_25 (s5_25 + 1) m_73)))

def f_X11_fits (N : Nat) (a1 : Int32) (m : Mem) : Ans :=
bd (f_X11_within N a1 0 3 m) fun r_3 m_3 =>
if r_3 = 0 then (some ((-1), m_3))
else (bd (f_X11_clearWith N m_3) fun _ m_12 =>
it4 (f_X11_fits_L25 N a1 (fun k2_82 k3_82 k4_82 mk82 => swt (Int32.toInt a1 - (0)) [(some (k2_82, mk82)),
(some (k3_82, mk82)),
(some (k4_82, mk82))] (if (2 : Int32) ≤ k2_82 then (bd (f_X11_whomToAsk N k2_82 mk82) fun r_126 m_126 =>
some (r_126, m_126))
else (some ((-1), mk82))))) N 0 (-1) (-1) 0 m_12)

set_option maxRecDepth 100000 in
set_option maxHeartbeats 4000000 in
theorem ok_X11_fits_L25 (N d : Nat) (a1 : Int32)   (K82 : Int32 → Int32 → Int32 → Mem → Ans) (hK82 : ∀ (k2 : Int32) (k3 : Int32) (k4 : Int32) (m : Mem), Ok none SG (d + 2) m_X11_fits 82 [some (.ref 0), some (.int a1), some (.int k2), some (.int k3), some (.int k4), none] [] SG m (K82 k2 k3 k4 m)) : ∀ (n : Nat) (s2_25 : Int32) (s3_25 : Int32) (s4_25 : Int32) (s5_25 : Int32) (m : Mem), Ok none SG (d + 2) m_X11_fits 25 [some (.ref 0), some (.int a1), some (.int s2_25), some (.int s3_25), some (.int s4_25), some (.int s5_25)] [] SG m (it4 (f_X11_fits_L25 N a1 K82) n s2_25 s3_25 s4_25 s5_25 m) :=
  ok_it4 (fun s2_25 s3_25 s4_25 s5_25 => [some (.ref 0), some (.int a1), some (.int s2_25), some (.int s3_25), some (.int s4_25), some (.int s5_25)]) (fun X hX s2_25 s3_25 s4_25 s5_25 m => by
    try unfold f_X11_fits_L25
    refine ok_iload 27 5 dX11_fits_25 rfl rfl ?_
    refine ok_iconst 28 1 dX11_fits_27 rfl rfl ?_
    refine ok_aload_n 29 0 dX11_fits_28 rfl rfl rfl ?_
    refine ok_getR 32 dX11_fits_29 rfl rfl F_Encores_16 sg_0 rfl (Nat.le_of_ble_eq_true rfl) rfl rfl ?_
    refine ok_getR 35 dX11_fits_32 rfl rfl F_Encores_113 sg_2 rfl (Nat.le_of_ble_eq_true rfl) rfl rfl ?_
    refine ok_getI 38 dX11_fits_35 rfl rfl F_Encores_117 sg_3 rfl (Nat.le_of_ble_eq_true rfl) rfl ?_
    refine ok_ishl 39 dX11_fits_38 rfl ?_
    refine ok_icmp_ge 82 42 dX11_fits_39 (by decide) rfl (fun _ => ?_) (fun _ => ?_)
    · exact ok_less [some (.ref 0), some (.int a1), some (.int s2_25), some (.int s3_25), some (.int s4_25), none] (And.intro rfl (And.intro rfl (And.intro rfl (And.intro rfl (And.intro rfl (trivial)))))) (hK82 s2_25 s3_25 s4_25 m)
    · refine ok_aload_n 43 0 dX11_fits_42 rfl rfl rfl ?_
      refine ok_iload 45 5 dX11_fits_43 rfl rfl ?_
      refine ok_callVi (np := 1) (M' := m_X11_couldBePaid) (As := [.int s5_25]) (st := []) 48 dX11_fits_45 rfl rfl km_X11_couldBePaid ki_X11_couldBePaid kv_X11_couldBePaid ml_Encores_306 (by decide) sg_0 rfl (Nat.le_of_ble_eq_true rfl) rfl rfl rfl (Nat.le_of_ble_eq_true rfl) (c_X11_couldBePaid N (d + 0) s5_25 m) ⟨Nat.le_refl _, Nat.le_refl _⟩ (Or.inl rfl) rfl (fun r_45 m_45 _ => ?_)
      refine ok_if_eq 76 51 dX11_fits_48 (by decide) rfl (fun _ => ?_) (fun _ => ?_)
      · refine ok_iinc 79 5 1 [some (.ref 0), some (.int a1), some (.int s2_25), some (.int s3_25), some (.int s4_25), some (.int (s5_25 + 1))] dX11_fits_76 rfl rfl rfl (by decide) rfl ?_
        refine ok_goto 25 dX11_fits_79 (by decide) ?_
        exact ok_less [some (.ref 0), some (.int a1), some (.int s2_25), some (.int s3_25), some (.int s4_25), some (.int (s5_25 + 1))] (And.intro rfl (And.intro rfl (And.intro rfl (And.intro rfl (And.intro rfl (And.intro rfl (trivial))))))) (hX s2_25 s3_25 s4_25 (s5_25 + 1) m_45)
      · refine ok_iinc 54 2 1 [some (.ref 0), some (.int a1), some (.int (s2_25 + 1)), some (.int s3_25), some (.int s4_25), some (.int s5_25)] dX11_fits_51 rfl rfl rfl (by decide) rfl ?_
        refine ok_iload_n 55 3 dX11_fits_54 rfl rfl rfl ?_
        refine ok_iconst 56 (-1) dX11_fits_55 rfl rfl ?_
        refine ok_icmp_ne 64 59 dX11_fits_56 (by decide) rfl (fun _ => ?_) (fun _ => ?_)
        · refine ok_iload_n 65 3 dX11_fits_64 rfl rfl rfl ?_
          refine ok_istore_n 66 3 [some (.ref 0), some (.int a1), some (.int (s2_25 + 1)), some (.int s3_25), some (.int s4_25), some (.int s5_25)] dX11_fits_65 rfl rfl (by decide) rfl ?_
          refine ok_iload 68 5 dX11_fits_66 rfl rfl ?_
          refine ok_istore 70 4 [some (.ref 0), some (.int a1), some (.int (s2_25 + 1)), some (.int s3_25), some (.int s5_25), some (.int s5_25)] dX11_fits_68 rfl (by decide) rfl ?_
          refine ok_aload_n 71 0 dX11_fits_70 rfl rfl rfl ?_
          refine ok_iload 73 5 dX11_fits_71 rfl rfl ?_
          refine ok_callVv (np := 1) (M' := m_X11_countWith) (As := [.int s5_25]) (st := []) 76 dX11_fits_73 rfl rfl km_X11_countWith ki_X11_countWith kv_X11_countWith ml_Encores_309 (by decide) sg_0 rfl (Nat.le_of_ble_eq_true rfl) rfl rfl rfl (Nat.le_of_ble_eq_true rfl) (c_X11_countWith N (d + 0) s5_25 m_45) ⟨Nat.le_refl _, Nat.le_refl _⟩ (Or.inl rfl) rfl (fun _ m_73 _ => ?_)
          refine ok_iinc 79 5 1 [some (.ref 0), some (.int a1), some (.int (s2_25 + 1)), some (.int s3_25), some (.int s5_25), some (.int (s5_25 + 1))] dX11_fits_76 rfl rfl rfl (by decide) rfl ?_
          refine ok_goto 25 dX11_fits_79 (by decide) ?_
          exact ok_less [some (.ref 0), some (.int a1), some (.int (s2_25 + 1)), some (.int s3_25), some (.int s5_25), some (.int (s5_25 + 1))] (And.intro rfl (And.intro rfl (And.intro rfl (And.intro rfl (And.intro rfl (And.intro rfl (trivial))))))) (hX (s2_25 + 1) s3_25 s5_25 (s5_25 + 1) m_73)
        · refine ok_iload 61 5 dX11_fits_59 rfl rfl ?_
          refine ok_goto 65 dX11_fits_61 (by decide) ?_
          refine ok_istore_n 66 3 [some (.ref 0), some (.int a1), some (.int (s2_25 + 1)), some (.int s5_25), some (.int s4_25), some (.int s5_25)] dX11_fits_65 rfl rfl (by decide) rfl ?_
          refine ok_iload 68 5 dX11_fits_66 rfl rfl ?_
          refine ok_istore 70 4 [some (.ref 0), some (.int a1), some (.int (s2_25 + 1)), some (.int s5_25), some (.int s5_25), some (.int s5_25)] dX11_fits_68 rfl (by decide) rfl ?_
          refine ok_aload_n 71 0 dX11_fits_70 rfl rfl rfl ?_
          refine ok_iload 73 5 dX11_fits_71 rfl rfl ?_
          refine ok_callVv (np := 1) (M' := m_X11_countWith) (As := [.int s5_25]) (st := []) 76 dX11_fits_73 rfl rfl km_X11_countWith ki_X11_countWith kv_X11_countWith ml_Encores_309 (by decide) sg_0 rfl (Nat.le_of_ble_eq_true rfl) rfl rfl rfl (Nat.le_of_ble_eq_true rfl) (c_X11_countWith N (d + 0) s5_25 m_45) ⟨Nat.le_refl _, Nat.le_refl _⟩ (Or.inl rfl) rfl (fun _ m_73 _ => ?_)
          refine ok_iinc 79 5 1 [some (.ref 0), some (.int a1), some (.int (s2_25 + 1)), some (.int s5_25), some (.int s5_25), some (.int (s5_25 + 1))] dX11_fits_76 rfl rfl rfl (by decide) rfl ?_
          refine ok_goto 25 dX11_fits_79 (by decide) ?_
          exact ok_less [some (.ref 0), some (.int a1), some (.int (s2_25 + 1)), some (.int s5_25), some (.int s5_25), some (.int (s5_25 + 1))] (And.intro rfl (And.intro rfl (And.intro rfl (And.intro rfl (And.intro rfl (And.intro rfl (trivial))))))) (hX (s2_25 + 1) s5_25 s5_25 (s5_25 + 1) m_73))

set_option maxRecDepth 100000 in
set_option maxHeartbeats 4000000 in
theorem ok_X11_fits (N d : Nat) (a1 : Int32)  (m : Mem) : Ok none SG (d + 2) m_X11_fits 0 [some (.ref 0), some (.int a1), none, none, none, none] [] SG m (f_X11_fits N a1 m) := by
  unfold f_X11_fits
  refine ok_iload_n 1 1 dX11_fits_0 rfl rfl rfl ?_
  refine ok_iconst 2 0 dX11_fits_1 rfl rfl ?_
  refine ok_iconst 3 3 dX11_fits_2 rfl rfl ?_
  refine ok_callSi (np := 3) (M' := m_X11_within) (As := [.int a1, .int 0, .int 3]) (st := []) 6 dX11_fits_3 rfl rfl km_X11_within ks_X11_within ml_Encores_109 (by decide) rfl rfl (Nat.le_of_ble_eq_true rfl) (c_X11_within N (d + 1) a1 0 3 m) ⟨Nat.le_refl _, Nat.le_refl _⟩ (Or.inl rfl) rfl (fun r_3 m_3 _ => ?_)
  refine ok_if_ne 11 9 dX11_fits_6 (by decide) rfl (fun _ => ?_) (fun _ => ?_)
  · refine ok_aload_n 12 0 dX11_fits_11 rfl rfl rfl ?_
    refine ok_callVv (np := 0) (M' := m_X11_clearWith) (As := []) (st := []) 15 dX11_fits_12 rfl rfl km_X11_clearWith ki_X11_clearWith kv_X11_clearWith ml_Encores_303 (by decide) sg_0 rfl (Nat.le_of_ble_eq_true rfl) rfl rfl rfl (Nat.le_of_ble_eq_true rfl) (c_X11_clearWith N (d + 1) m_3) ⟨Nat.le_refl _, Nat.le_refl _⟩ (Or.inl rfl) rfl (fun _ m_12 _ => ?_)
    refine ok_iconst 16 0 dX11_fits_15 rfl rfl ?_
    refine ok_istore_n 17 2 [some (.ref 0), some (.int a1), some (.int 0), none, none, none] dX11_fits_16 rfl rfl (by decide) rfl ?_
    refine ok_iconst 18 (-1) dX11_fits_17 rfl rfl ?_
    refine ok_istore_n 19 3 [some (.ref 0), some (.int a1), some (.int 0), some (.int (-1)), none, none] dX11_fits_18 rfl rfl (by decide) rfl ?_
    refine ok_iconst 20 (-1) dX11_fits_19 rfl rfl ?_
    refine ok_istore 22 4 [some (.ref 0), some (.int a1), some (.int 0), some (.int (-1)), some (.int (-1)), none] dX11_fits_20 rfl (by decide) rfl ?_
    refine ok_iconst 23 0 dX11_fits_22 rfl rfl ?_
    refine ok_istore 25 5 [some (.ref 0), some (.int a1), some (.int 0), some (.int (-1)), some (.int (-1)), some (.int 0)] dX11_fits_23 rfl (by decide) rfl ?_
    refine ok_less [some (.ref 0), some (.int a1), some (.int 0), some (.int (-1)), some (.int (-1)), some (.int 0)] (And.intro rfl (And.intro rfl (And.intro rfl (And.intro rfl (And.intro rfl (And.intro rfl (trivial))))))) ?_
    exact ok_X11_fits_L25 N d a1  _ (fun k2_82 k3_82 k4_82 mk82 => by
        refine ok_iload_n 83 1 dX11_fits_82 rfl rfl rfl ?_
        refine ok_tsw 115 [108, 110, 112] dX11_fits_83 (by decide) (by decide) (by decide) rfl ?_ ?_
        · refine And.intro ?_ (And.intro ?_ (And.intro ?_ (trivial)))
          · refine ok_iload_n 109 2 dX11_fits_108 rfl rfl rfl ?_
            exact ok_iret dX11_fits_109 rfl
          · refine ok_iload_n 111 3 dX11_fits_110 rfl rfl rfl ?_
            exact ok_iret dX11_fits_111 rfl
          · refine ok_iload 114 4 dX11_fits_112 rfl rfl ?_
            exact ok_iret dX11_fits_114 rfl
        · refine ok_iload_n 116 2 dX11_fits_115 rfl rfl rfl ?_
          refine ok_iconst 117 2 dX11_fits_116 rfl rfl ?_
          refine ok_icmp_ge 124 120 dX11_fits_117 (by decide) rfl (fun _ => ?_) (fun _ => ?_)
          · refine ok_aload_n 125 0 dX11_fits_124 rfl rfl rfl ?_
            refine ok_iload_n 126 2 dX11_fits_125 rfl rfl rfl ?_
            refine ok_callVi (np := 1) (M' := m_X11_whomToAsk) (As := [.int k2_82]) (st := []) 129 dX11_fits_126 rfl rfl km_X11_whomToAsk ki_X11_whomToAsk kv_X11_whomToAsk ml_Encores_312 (by decide) sg_0 rfl (Nat.le_of_ble_eq_true rfl) rfl rfl rfl (Nat.le_of_ble_eq_true rfl) (c_X11_whomToAsk N (d + 0) k2_82 mk82) ⟨Nat.le_refl _, Nat.le_refl _⟩ (Or.inl rfl) rfl (fun r_126 m_126 _ => ?_)
            exact ok_iret dX11_fits_129 rfl
          · refine ok_iconst 121 (-1) dX11_fits_120 rfl rfl ?_
            refine ok_goto 129 dX11_fits_121 (by decide) ?_
            exact ok_iret dX11_fits_129 rfl) N 0 (-1) (-1) 0 m_12
  · refine ok_iconst 10 (-1) dX11_fits_9 rfl rfl ?_
    exact ok_iret dX11_fits_10 rfl

theorem c_X11_fits (N d : Nat) (a1 : Int32)  (m : Mem) : CM (d + 2) m_X11_fits SG SG [.ref 0, .int a1] m (f_X11_fits N a1 m) :=
  CM.ofOk km_X11_fits ⟨Nat.le_refl _, Nat.le_refl _⟩ (by simp [Value.category]) (Nat.le_of_ble_eq_true rfl) (ok_X11_fits N d a1 m)

def f_X11_brides_L6 (N : Nat)   (K66 : Int32 → Int32 → Mem → Ans) (X : Int32 → Int32 → Int32 → Mem → Ans) (s1_6 : Int32) (s2_6 : Int32) (s3_6 : Int32) (m : Mem) : Ans :=
if (m 3 3) ≤ s3_6 then (K66 s1_6 s2_6 m)
else (bd (f_X9_at N 3 s3_6 3 m) fun r_29 m_29 =>
if r_29 = (1 : Int32) then (bd (f_X9_at N 3 s3_6 5 m_29) fun r_45 m_45 =>
if r_45 ≤ 0 then (X s1_6 (s2_6 + 1) (s3_6 + 1) m_45)
else (X (s1_6 + 1) s2_6 (s3_6 + 1) m_45))
else (X s1_6 s2_6 (s3_6 + 1) m_29))

def f_X11_brides_L78 (N : Nat)  (k1_66 : Int32) (k2_66 : Int32) (a5_73 : Int32)  (X : Int64 → Int32 → Mem → Ans) (s3_78 : Int64) (s6_78 : Int32) (m : Mem) : Ans :=
if (if k2_66 < k1_66 then k2_66 else k1_66) ≤ s6_78 then (some (s3_78.toInt32, m))
else (bnd (lrm (s3_78 * ((a5_73 - s6_78).toInt64)) 1000000007) fun a3_100 =>
X a3_100 (s6_78 + 1) m)

def f_X11_brides (N : Nat)  (m : Mem) : Ans :=
it3 (f_X11_brides_L6 N (fun k1_66 k2_66 mk66 => bnd (if k1_66 < k2_66 then k2_66 else k1_66) fun a5_73 =>
it2 (f_X11_brides_L78 N k1_66 k2_66 a5_73 ) N 1 0 mk66)) N 0 0 0 m

set_option maxRecDepth 100000 in
set_option maxHeartbeats 4000000 in
theorem ok_X11_brides_L6 (N d : Nat)    (K66 : Int32 → Int32 → Mem → Ans) (hK66 : ∀ (k1 : Int32) (k2 : Int32) (m : Mem), Ok none SG (d + 1) m_X11_brides 66 [none, some (.int k1), some (.int k2), none, none, none, none] [] SG m (K66 k1 k2 m)) : ∀ (n : Nat) (s1_6 : Int32) (s2_6 : Int32) (s3_6 : Int32) (m : Mem), Ok none SG (d + 1) m_X11_brides 6 [some (.ref 0), some (.int s1_6), some (.int s2_6), some (.int s3_6), none, none, none] [] SG m (it3 (f_X11_brides_L6 N K66) n s1_6 s2_6 s3_6 m) :=
  ok_it3 (fun s1_6 s2_6 s3_6 => [some (.ref 0), some (.int s1_6), some (.int s2_6), some (.int s3_6), none, none, none]) (fun X hX s1_6 s2_6 s3_6 m => by
    try unfold f_X11_brides_L6
    refine ok_iload_n 7 3 dX11_brides_6 rfl rfl rfl ?_
    refine ok_aload_n 8 0 dX11_brides_7 rfl rfl rfl ?_
    refine ok_getR 11 dX11_brides_8 rfl rfl F_Encores_16 sg_0 rfl (Nat.le_of_ble_eq_true rfl) rfl rfl ?_
    refine ok_getR 14 dX11_brides_11 rfl rfl F_Encores_113 sg_2 rfl (Nat.le_of_ble_eq_true rfl) rfl rfl ?_
    refine ok_getI 17 dX11_brides_14 rfl rfl F_Encores_117 sg_3 rfl (Nat.le_of_ble_eq_true rfl) rfl ?_
    refine ok_icmp_ge 66 20 dX11_brides_17 (by decide) rfl (fun _ => ?_) (fun _ => ?_)
    · exact ok_less [none, some (.int s1_6), some (.int s2_6), none, none, none, none] (And.intro rfl (And.intro rfl (trivial))) (hK66 s1_6 s2_6 m)
    · refine ok_aload_n 21 0 dX11_brides_20 rfl rfl rfl ?_
      refine ok_getR 24 dX11_brides_21 rfl rfl F_Encores_16 sg_0 rfl (Nat.le_of_ble_eq_true rfl) rfl rfl ?_
      refine ok_getR 27 dX11_brides_24 rfl rfl F_Encores_113 sg_2 rfl (Nat.le_of_ble_eq_true rfl) rfl rfl ?_
      refine ok_iload_n 28 3 dX11_brides_27 rfl rfl rfl ?_
      refine ok_iconst 29 3 dX11_brides_28 rfl rfl ?_
      refine ok_callVi (np := 2) (M' := m_X9_at) (As := [.int s3_6, .int 3]) (st := []) 32 dX11_brides_29 rfl rfl km_X9_at ki_X9_at kv_X9_at ml_Encores_142 (by decide) sg_3 rfl (Nat.le_of_ble_eq_true rfl) rfl rfl rfl (Nat.le_of_ble_eq_true rfl) (c_X9_at N (d + 0) 3 s3_6 3 tg_3 m) ⟨Nat.le_refl _, Nat.le_refl _⟩ (Or.inl rfl) rfl (fun r_29 m_29 _ => ?_)
      refine ok_iconst 33 1 dX11_brides_32 rfl rfl ?_
      refine ok_icmp_ne 60 36 dX11_brides_33 (by decide) rfl (fun _ => ?_) (fun _ => ?_)
      · refine ok_iinc 63 3 1 [some (.ref 0), some (.int s1_6), some (.int s2_6), some (.int (s3_6 + 1)), none, none, none] dX11_brides_60 rfl rfl rfl (by decide) rfl ?_
        refine ok_goto 6 dX11_brides_63 (by decide) ?_
        exact ok_less [some (.ref 0), some (.int s1_6), some (.int s2_6), some (.int (s3_6 + 1)), none, none, none] (And.intro rfl (And.intro rfl (And.intro rfl (And.intro rfl (trivial))))) (hX s1_6 s2_6 (s3_6 + 1) m_29)
      · refine ok_aload_n 37 0 dX11_brides_36 rfl rfl rfl ?_
        refine ok_getR 40 dX11_brides_37 rfl rfl F_Encores_16 sg_0 rfl (Nat.le_of_ble_eq_true rfl) rfl rfl ?_
        refine ok_getR 43 dX11_brides_40 rfl rfl F_Encores_113 sg_2 rfl (Nat.le_of_ble_eq_true rfl) rfl rfl ?_
        refine ok_iload_n 44 3 dX11_brides_43 rfl rfl rfl ?_
        refine ok_iconst 45 5 dX11_brides_44 rfl rfl ?_
        refine ok_callVi (np := 2) (M' := m_X9_at) (As := [.int s3_6, .int 5]) (st := []) 48 dX11_brides_45 rfl rfl km_X9_at ki_X9_at kv_X9_at ml_Encores_142 (by decide) sg_3 rfl (Nat.le_of_ble_eq_true rfl) rfl rfl rfl (Nat.le_of_ble_eq_true rfl) (c_X9_at N (d + 0) 3 s3_6 5 tg_3 m_29) ⟨Nat.le_refl _, Nat.le_refl _⟩ (Or.inl rfl) rfl (fun r_45 m_45 _ => ?_)
        refine ok_if_le 57 51 dX11_brides_48 (by decide) rfl (fun _ => ?_) (fun _ => ?_)
        · refine ok_iinc 60 2 1 [some (.ref 0), some (.int s1_6), some (.int (s2_6 + 1)), some (.int s3_6), none, none, none] dX11_brides_57 rfl rfl rfl (by decide) rfl ?_
          refine ok_iinc 63 3 1 [some (.ref 0), some (.int s1_6), some (.int (s2_6 + 1)), some (.int (s3_6 + 1)), none, none, none] dX11_brides_60 rfl rfl rfl (by decide) rfl ?_
          refine ok_goto 6 dX11_brides_63 (by decide) ?_
          exact ok_less [some (.ref 0), some (.int s1_6), some (.int (s2_6 + 1)), some (.int (s3_6 + 1)), none, none, none] (And.intro rfl (And.intro rfl (And.intro rfl (And.intro rfl (trivial))))) (hX s1_6 (s2_6 + 1) (s3_6 + 1) m_45)
        · refine ok_iinc 54 1 1 [some (.ref 0), some (.int (s1_6 + 1)), some (.int s2_6), some (.int s3_6), none, none, none] dX11_brides_51 rfl rfl rfl (by decide) rfl ?_
          refine ok_goto 60 dX11_brides_54 (by decide) ?_
          refine ok_iinc 63 3 1 [some (.ref 0), some (.int (s1_6 + 1)), some (.int s2_6), some (.int (s3_6 + 1)), none, none, none] dX11_brides_60 rfl rfl rfl (by decide) rfl ?_
          refine ok_goto 6 dX11_brides_63 (by decide) ?_
          exact ok_less [some (.ref 0), some (.int (s1_6 + 1)), some (.int s2_6), some (.int (s3_6 + 1)), none, none, none] (And.intro rfl (And.intro rfl (And.intro rfl (And.intro rfl (trivial))))) (hX (s1_6 + 1) s2_6 (s3_6 + 1) m_45))

set_option maxRecDepth 100000 in
set_option maxHeartbeats 4000000 in
theorem ok_X11_brides_L78 (N d : Nat)   (k1_66 : Int32) (k2_66 : Int32) (a5_73 : Int32)  : ∀ (n : Nat) (s3_78 : Int64) (s6_78 : Int32) (m : Mem), Ok none SG (d + 1) m_X11_brides 78 [none, some (.int k1_66), some (.int k2_66), some (.long s3_78), none, some (.int a5_73), some (.int s6_78)] [] SG m (it2 (f_X11_brides_L78 N k1_66 k2_66 a5_73) n s3_78 s6_78 m) :=
  ok_it2 (fun s3_78 s6_78 => [none, some (.int k1_66), some (.int k2_66), some (.long s3_78), none, some (.int a5_73), some (.int s6_78)]) (fun X hX s3_78 s6_78 m => by
    try unfold f_X11_brides_L78
    refine ok_iload 80 6 dX11_brides_78 rfl rfl ?_
    refine ok_iload_n 81 1 dX11_brides_80 rfl rfl rfl ?_
    refine ok_iload_n 82 2 dX11_brides_81 rfl rfl rfl ?_
    refine ok_min 85 ⟨Nat.le_refl _, Nat.le_refl _⟩ dX11_brides_82 rfl rfl ml_Encores_152 (Nat.le_of_ble_eq_true rfl) ?_
    refine ok_icmp_ge 107 88 dX11_brides_85 (by decide) rfl (fun _ => ?_) (fun _ => ?_)
    · refine ok_lload_n 108 3 dX11_brides_107 rfl rfl rfl ?_
      refine ok_l2i 109 dX11_brides_108 rfl ?_
      exact ok_iret dX11_brides_109 rfl
    · refine ok_lload_n 89 3 dX11_brides_88 rfl rfl rfl ?_
      refine ok_iload 91 5 dX11_brides_89 rfl rfl ?_
      refine ok_iload 93 6 dX11_brides_91 rfl rfl ?_
      refine ok_isub 94 dX11_brides_93 rfl ?_
      refine ok_i2l 95 dX11_brides_94 rfl ?_
      refine ok_lmul 96 dX11_brides_95 rfl ?_
      refine ok_ldc2 99 1000000007 dX11_brides_96 rfl rfl cl_Encores_318 ?_
      refine ok_lremc 100 dX11_brides_99 rfl (by decide) ?_
      refine ok_bndL (fun a3_100 => ?_)
      refine ok_lstore_n 101 3 [none, some (.int k1_66), some (.int k2_66), some (.long a3_100), none, some (.int a5_73), some (.int s6_78)] dX11_brides_100 rfl rfl (by decide) rfl ?_
      refine ok_iinc 104 6 1 [none, some (.int k1_66), some (.int k2_66), some (.long a3_100), none, some (.int a5_73), some (.int (s6_78 + 1))] dX11_brides_101 rfl rfl rfl (by decide) rfl ?_
      refine ok_goto 78 dX11_brides_104 (by decide) ?_
      exact ok_less [none, some (.int k1_66), some (.int k2_66), some (.long a3_100), none, some (.int a5_73), some (.int (s6_78 + 1))] (And.intro rfl (And.intro rfl (And.intro rfl (And.intro rfl (And.intro rfl (trivial)))))) (hX a3_100 (s6_78 + 1) m))

set_option maxRecDepth 100000 in
set_option maxHeartbeats 4000000 in
theorem ok_X11_brides (N d : Nat)   (m : Mem) : Ok none SG (d + 1) m_X11_brides 0 [some (.ref 0), none, none, none, none, none, none] [] SG m (f_X11_brides N m) := by
  unfold f_X11_brides
  refine ok_iconst 1 0 dX11_brides_0 rfl rfl ?_
  refine ok_istore_n 2 1 [some (.ref 0), some (.int 0), none, none, none, none, none] dX11_brides_1 rfl rfl (by decide) rfl ?_
  refine ok_iconst 3 0 dX11_brides_2 rfl rfl ?_
  refine ok_istore_n 4 2 [some (.ref 0), some (.int 0), some (.int 0), none, none, none, none] dX11_brides_3 rfl rfl (by decide) rfl ?_
  refine ok_iconst 5 0 dX11_brides_4 rfl rfl ?_
  refine ok_istore_n 6 3 [some (.ref 0), some (.int 0), some (.int 0), some (.int 0), none, none, none] dX11_brides_5 rfl rfl (by decide) rfl ?_
  refine ok_less [some (.ref 0), some (.int 0), some (.int 0), some (.int 0), none, none, none] (And.intro rfl (And.intro rfl (And.intro rfl (And.intro rfl (trivial))))) ?_
  exact ok_X11_brides_L6 N d   _ (fun k1_66 k2_66 mk66 => by
      refine ok_lconst 67 1 dX11_brides_66 rfl rfl ?_
      refine ok_lstore_n 68 3 [none, some (.int k1_66), some (.int k2_66), some (.long 1), none, none, none] dX11_brides_67 rfl rfl (by decide) rfl ?_
      refine ok_iload_n 69 1 dX11_brides_68 rfl rfl rfl ?_
      refine ok_iload_n 70 2 dX11_brides_69 rfl rfl rfl ?_
      refine ok_max 73 ⟨Nat.le_refl _, Nat.le_refl _⟩ dX11_brides_70 rfl rfl ml_Encores_315 (Nat.le_of_ble_eq_true rfl) ?_
      refine ok_bndI (fun a5_73 => ?_)
      refine ok_istore 75 5 [none, some (.int k1_66), some (.int k2_66), some (.long 1), none, some (.int a5_73), none] dX11_brides_73 rfl (by decide) rfl ?_
      refine ok_iconst 76 0 dX11_brides_75 rfl rfl ?_
      refine ok_istore 78 6 [none, some (.int k1_66), some (.int k2_66), some (.long 1), none, some (.int a5_73), some (.int 0)] dX11_brides_76 rfl (by decide) rfl ?_
      refine ok_less [none, some (.int k1_66), some (.int k2_66), some (.long 1), none, some (.int a5_73), some (.int 0)] (And.intro rfl (And.intro rfl (And.intro rfl (And.intro rfl (And.intro rfl (trivial)))))) ?_
      exact ok_X11_brides_L78 N d  k1_66 k2_66 a5_73   N 1 0 mk66) N 0 0 0 m

theorem c_X11_brides (N d : Nat)   (m : Mem) : CM (d + 1) m_X11_brides SG SG [.ref 0] m (f_X11_brides N m) :=
  CM.ofOk km_X11_brides ⟨Nat.le_refl _, Nat.le_refl _⟩ (by simp [Value.category]) (Nat.le_of_ble_eq_true rfl) (ok_X11_brides N d  m)

def f_X11_weight (N : Nat) (a1 : Int32) (m : Mem) : Ans :=
bd (f_X9_at N 3 a1 3 m) fun r_9 m_9 =>
if r_9 = (1 : Int32) then (bd (f_X9_at N 3 a1 1 m_9) fun r_25 m_25 =>
some ((r_25 + (1 : Int32)), m_25))
else (some (0, m_9))

set_option maxRecDepth 100000 in
set_option maxHeartbeats 4000000 in
theorem ok_X11_weight (N d : Nat) (a1 : Int32)  (m : Mem) : Ok none SG (d + 1) m_X11_weight 0 [some (.ref 0), some (.int a1)] [] SG m (f_X11_weight N a1 m) := by
  unfold f_X11_weight
  refine ok_aload_n 1 0 dX11_weight_0 rfl rfl rfl ?_
  refine ok_getR 4 dX11_weight_1 rfl rfl F_Encores_16 sg_0 rfl (Nat.le_of_ble_eq_true rfl) rfl rfl ?_
  refine ok_getR 7 dX11_weight_4 rfl rfl F_Encores_113 sg_2 rfl (Nat.le_of_ble_eq_true rfl) rfl rfl ?_
  refine ok_iload_n 8 1 dX11_weight_7 rfl rfl rfl ?_
  refine ok_iconst 9 3 dX11_weight_8 rfl rfl ?_
  refine ok_callVi (np := 2) (M' := m_X9_at) (As := [.int a1, .int 3]) (st := []) 12 dX11_weight_9 rfl rfl km_X9_at ki_X9_at kv_X9_at ml_Encores_142 (by decide) sg_3 rfl (Nat.le_of_ble_eq_true rfl) rfl rfl rfl (Nat.le_of_ble_eq_true rfl) (c_X9_at N (d + 0) 3 a1 3 tg_3 m) ⟨Nat.le_refl _, Nat.le_refl _⟩ (Or.inl rfl) rfl (fun r_9 m_9 _ => ?_)
  refine ok_iconst 13 1 dX11_weight_12 rfl rfl ?_
  refine ok_icmp_ne 33 16 dX11_weight_13 (by decide) rfl (fun _ => ?_) (fun _ => ?_)
  · refine ok_iconst 34 0 dX11_weight_33 rfl rfl ?_
    exact ok_iret dX11_weight_34 rfl
  · refine ok_aload_n 17 0 dX11_weight_16 rfl rfl rfl ?_
    refine ok_getR 20 dX11_weight_17 rfl rfl F_Encores_16 sg_0 rfl (Nat.le_of_ble_eq_true rfl) rfl rfl ?_
    refine ok_getR 23 dX11_weight_20 rfl rfl F_Encores_113 sg_2 rfl (Nat.le_of_ble_eq_true rfl) rfl rfl ?_
    refine ok_iload_n 24 1 dX11_weight_23 rfl rfl rfl ?_
    refine ok_iconst 25 1 dX11_weight_24 rfl rfl ?_
    refine ok_callVi (np := 2) (M' := m_X9_at) (As := [.int a1, .int 1]) (st := []) 28 dX11_weight_25 rfl rfl km_X9_at ki_X9_at kv_X9_at ml_Encores_142 (by decide) sg_3 rfl (Nat.le_of_ble_eq_true rfl) rfl rfl rfl (Nat.le_of_ble_eq_true rfl) (c_X9_at N (d + 0) 3 a1 1 tg_3 m_9) ⟨Nat.le_refl _, Nat.le_refl _⟩ (Or.inl rfl) rfl (fun r_25 m_25 _ => ?_)
    refine ok_iconst 29 1 dX11_weight_28 rfl rfl ?_
    refine ok_iadd 30 dX11_weight_29 rfl ?_
    refine ok_goto 34 dX11_weight_30 (by decide) ?_
    exact ok_iret dX11_weight_34 rfl

theorem c_X11_weight (N d : Nat) (a1 : Int32)  (m : Mem) : CM (d + 1) m_X11_weight SG SG [.ref 0, .int a1] m (f_X11_weight N a1 m) :=
  CM.ofOk km_X11_weight ⟨Nat.le_refl _, Nat.le_refl _⟩ (by simp [Value.category]) (Nat.le_of_ble_eq_true rfl) (ok_X11_weight N d a1 m)

def f_X11_weightOfAll_L4 (N : Nat)    (X : Int32 → Int32 → Mem → Ans) (s1_4 : Int32) (s2_4 : Int32) (m : Mem) : Ans :=
if (m 3 3) ≤ s2_4 then (some (s1_4, m))
else (bd (f_X11_weight N s2_4 m) fun r_21 m_21 =>
bnd (s1_4 + r_21) fun a1_25 =>
X a1_25 (s2_4 + 1) m_21)

def f_X11_weightOfAll (N : Nat)  (m : Mem) : Ans :=
it2 (f_X11_weightOfAll_L4 N ) N 0 0 m

set_option maxRecDepth 100000 in
set_option maxHeartbeats 4000000 in
theorem ok_X11_weightOfAll_L4 (N d : Nat)     : ∀ (n : Nat) (s1_4 : Int32) (s2_4 : Int32) (m : Mem), Ok none SG (d + 2) m_X11_weightOfAll 4 [some (.ref 0), some (.int s1_4), some (.int s2_4)] [] SG m (it2 (f_X11_weightOfAll_L4 N) n s1_4 s2_4 m) :=
  ok_it2 (fun s1_4 s2_4 => [some (.ref 0), some (.int s1_4), some (.int s2_4)]) (fun X hX s1_4 s2_4 m => by
    try unfold f_X11_weightOfAll_L4
    refine ok_iload_n 5 2 dX11_weightOfAll_4 rfl rfl rfl ?_
    refine ok_aload_n 6 0 dX11_weightOfAll_5 rfl rfl rfl ?_
    refine ok_getR 9 dX11_weightOfAll_6 rfl rfl F_Encores_16 sg_0 rfl (Nat.le_of_ble_eq_true rfl) rfl rfl ?_
    refine ok_getR 12 dX11_weightOfAll_9 rfl rfl F_Encores_113 sg_2 rfl (Nat.le_of_ble_eq_true rfl) rfl rfl ?_
    refine ok_getI 15 dX11_weightOfAll_12 rfl rfl F_Encores_117 sg_3 rfl (Nat.le_of_ble_eq_true rfl) rfl ?_
    refine ok_icmp_ge 32 18 dX11_weightOfAll_15 (by decide) rfl (fun _ => ?_) (fun _ => ?_)
    · refine ok_iload_n 33 1 dX11_weightOfAll_32 rfl rfl rfl ?_
      exact ok_iret dX11_weightOfAll_33 rfl
    · refine ok_iload_n 19 1 dX11_weightOfAll_18 rfl rfl rfl ?_
      refine ok_aload_n 20 0 dX11_weightOfAll_19 rfl rfl rfl ?_
      refine ok_iload_n 21 2 dX11_weightOfAll_20 rfl rfl rfl ?_
      refine ok_callVi (np := 1) (M' := m_X11_weight) (As := [.int s2_4]) (st := [.int s1_4]) 24 dX11_weightOfAll_21 rfl rfl km_X11_weight ki_X11_weight kv_X11_weight ml_Encores_323 (by decide) sg_0 rfl (Nat.le_of_ble_eq_true rfl) rfl rfl rfl (Nat.le_of_ble_eq_true rfl) (c_X11_weight N (d + 0) s2_4 m) ⟨Nat.le_refl _, Nat.le_refl _⟩ (Or.inl rfl) rfl (fun r_21 m_21 _ => ?_)
      refine ok_iadd 25 dX11_weightOfAll_24 rfl ?_
      refine ok_bndI (fun a1_25 => ?_)
      refine ok_istore_n 26 1 [some (.ref 0), some (.int a1_25), some (.int s2_4)] dX11_weightOfAll_25 rfl rfl (by decide) rfl ?_
      refine ok_iinc 29 2 1 [some (.ref 0), some (.int a1_25), some (.int (s2_4 + 1))] dX11_weightOfAll_26 rfl rfl rfl (by decide) rfl ?_
      refine ok_goto 4 dX11_weightOfAll_29 (by decide) ?_
      exact ok_less [some (.ref 0), some (.int a1_25), some (.int (s2_4 + 1))] (And.intro rfl (And.intro rfl (And.intro rfl (trivial)))) (hX a1_25 (s2_4 + 1) m_21))

set_option maxRecDepth 100000 in
set_option maxHeartbeats 4000000 in
theorem ok_X11_weightOfAll (N d : Nat)   (m : Mem) : Ok none SG (d + 2) m_X11_weightOfAll 0 [some (.ref 0), none, none] [] SG m (f_X11_weightOfAll N m) := by
  unfold f_X11_weightOfAll
  refine ok_iconst 1 0 dX11_weightOfAll_0 rfl rfl ?_
  refine ok_istore_n 2 1 [some (.ref 0), some (.int 0), none] dX11_weightOfAll_1 rfl rfl (by decide) rfl ?_
  refine ok_iconst 3 0 dX11_weightOfAll_2 rfl rfl ?_
  refine ok_istore_n 4 2 [some (.ref 0), some (.int 0), some (.int 0)] dX11_weightOfAll_3 rfl rfl (by decide) rfl ?_
  refine ok_less [some (.ref 0), some (.int 0), some (.int 0)] (And.intro rfl (And.intro rfl (And.intro rfl (trivial)))) ?_
  exact ok_X11_weightOfAll_L4 N d     N 0 0 m

theorem c_X11_weightOfAll (N d : Nat)   (m : Mem) : CM (d + 2) m_X11_weightOfAll SG SG [.ref 0] m (f_X11_weightOfAll N m) :=
  CM.ofOk km_X11_weightOfAll ⟨Nat.le_refl _, Nat.le_refl _⟩ (by simp [Value.category]) (Nat.le_of_ble_eq_true rfl) (ok_X11_weightOfAll N d  m)

def f_X11_share_J132 (N : Nat) (a1 : Int32) (a2 : Int32) (r_1 : Int32) (a6_60 : Int32)  (X : Int32 → Int32 → Int32 → Mem → Ans) (s4_132 : Int32) (s5_132 : Int32) (s7_132 : Int32) (t0_132 : Int32) (m : Mem) : Ans :=
bd (f_X11_weight N s7_132 m) fun r_137 m_137 =>
if r_137 ≤ 0 then (X s4_132 s5_132 (s7_132 + 1) m_137)
else (if t0_132 = 0 then (X s4_132 s5_132 (s7_132 + 1) m_137)
else (X s4_132 (s5_132 + 1) (s7_132 + 1) m_137))

def f_X11_share_J127 (N : Nat) (a1 : Int32) (a2 : Int32) (r_1 : Int32) (a6_60 : Int32)  (X : Int32 → Int32 → Int32 → Mem → Ans) (s4_127 : Int32) (s5_127 : Int32) (s7_127 : Int32) (m : Mem) : Ans :=
f_X11_share_J132 N a1 a2 r_1 a6_60  X s4_127 s5_127 s7_127 1 m

def f_X11_share_J131 (N : Nat) (a1 : Int32) (a2 : Int32) (r_1 : Int32) (a6_60 : Int32)  (X : Int32 → Int32 → Int32 → Mem → Ans) (s4_131 : Int32) (s5_131 : Int32) (s7_131 : Int32) (m : Mem) : Ans :=
f_X11_share_J132 N a1 a2 r_1 a6_60  X s4_131 s5_131 s7_131 0 m

def f_X11_share_L65 (N : Nat) (a1 : Int32) (a2 : Int32) (r_1 : Int32) (a6_60 : Int32)  (X : Int32 → Int32 → Int32 → Mem → Ans) (s4_65 : Int32) (s5_65 : Int32) (s7_65 : Int32) (m : Mem) : Ans :=
if (m 3 3) ≤ s7_65 then (chk (decide (r_1 ≠ 0)) <|
if s4_65 ≤ s5_65 then (some (((a6_60 / r_1) + (0 : Int32)), m))
else (some (((a6_60 / r_1) + (1 : Int32)), m)))
else (bd (f_X11_weight N s7_65 m) fun r_84 m_84 =>
bnd (a1 * r_84) fun a8_88 =>
chk (decide (r_1 ≠ 0)) <|
bnd (s4_65 - (a8_88 / r_1)) fun a4_97 =>
chk (decide (r_1 ≠ 0)) <|
chk (decide (r_1 ≠ 0)) <|
if (irm a6_60 r_1) < (irm a8_88 r_1) then (f_X11_share_J127 N a1 a2 r_1 a6_60  X a4_97 s5_65 s7_65 m_84)
else (chk (decide (r_1 ≠ 0)) <|
chk (decide (r_1 ≠ 0)) <|
if (irm a8_88 r_1) = (irm a6_60 r_1) then (if a2 ≤ s7_65 then (f_X11_share_J131 N a1 a2 r_1 a6_60  X a4_97 s5_65 s7_65 m_84)
else (f_X11_share_J127 N a1 a2 r_1 a6_60  X a4_97 s5_65 s7_65 m_84))
else (f_X11_share_J131 N a1 a2 r_1 a6_60  X a4_97 s5_65 s7_65 m_84)))

def f_X11_share (N : Nat) (a1 : Int32) (a2 : Int32) (m : Mem) : Ans :=
bd (f_X11_weightOfAll N m) fun r_1 m_1 =>
bd (f_X11_within N a1 0 9999 m_1) fun r_10 m_10 =>
if r_10 = 0 then (some ((-1), m_10))
else (bd (f_X9_has N 3 a2 m_10) fun r_24 m_24 =>
if r_24 = 0 then (some ((-1), m_24))
else (if (1 : Int32) ≤ r_1 then (bd (f_X11_weight N a2 m_24) fun r_39 m_39 =>
if r_39 = 0 then (some (0, m_39))
else (bd (f_X11_weight N a2 m_39) fun r_56 m_56 =>
bnd (a1 * r_56) fun a6_60 =>
it3 (f_X11_share_L65 N a1 a2 r_1 a6_60 ) N a1 0 0 m_56))
else (some ((-1), m_24))))

set_option maxRecDepth 100000 in
set_option maxHeartbeats 4000000 in
theorem ok_X11_share_J132 (N d : Nat) (a1 : Int32) (a2 : Int32)  (r_1 : Int32) (a6_60 : Int32)  (X : Int32 → Int32 → Int32 → Mem → Ans) (hX : ∀ (k4 : Int32) (k5 : Int32) (k7 : Int32) (m : Mem), Ok none SG (d + 3) m_X11_share 65 [some (.ref 0), some (.int a1), some (.int a2), some (.int r_1), some (.int k4), some (.int k5), some (.int a6_60), some (.int k7), none, none] [] SG m (X k4 k5 k7 m)) (s4_132 : Int32) (s5_132 : Int32) (s7_132 : Int32) (t0_132 : Int32) (m : Mem) : Ok none SG (d + 3) m_X11_share 132 [some (.ref 0), some (.int a1), some (.int a2), some (.int r_1), some (.int s4_132), some (.int s5_132), some (.int a6_60), some (.int s7_132), none, none] [.int t0_132] SG m (f_X11_share_J132 N a1 a2 r_1 a6_60  X s4_132 s5_132 s7_132 t0_132 m) := by
  unfold f_X11_share_J132
  refine ok_istore 134 9 [some (.ref 0), some (.int a1), some (.int a2), some (.int r_1), some (.int s4_132), some (.int s5_132), some (.int a6_60), some (.int s7_132), none, some (.int t0_132)] dX11_share_132 rfl (by decide) rfl ?_
  refine ok_aload_n 135 0 dX11_share_134 rfl rfl rfl ?_
  refine ok_iload 137 7 dX11_share_135 rfl rfl ?_
  refine ok_callVi (np := 1) (M' := m_X11_weight) (As := [.int s7_132]) (st := []) 140 dX11_share_137 rfl rfl km_X11_weight ki_X11_weight kv_X11_weight ml_Encores_323 (by decide) sg_0 rfl (Nat.le_of_ble_eq_true rfl) rfl rfl rfl (Nat.le_of_ble_eq_true rfl) (c_X11_weight N (d + 1) s7_132 m) ⟨Nat.le_refl _, Nat.le_refl _⟩ (Or.inl rfl) rfl (fun r_137 m_137 _ => ?_)
  refine ok_if_le 151 143 dX11_share_140 (by decide) rfl (fun _ => ?_) (fun _ => ?_)
  · refine ok_iinc 154 7 1 [some (.ref 0), some (.int a1), some (.int a2), some (.int r_1), some (.int s4_132), some (.int s5_132), some (.int a6_60), some (.int (s7_132 + 1)), none, some (.int t0_132)] dX11_share_151 rfl rfl rfl (by decide) rfl ?_
    refine ok_goto 65 dX11_share_154 (by decide) ?_
    exact ok_less [some (.ref 0), some (.int a1), some (.int a2), some (.int r_1), some (.int s4_132), some (.int s5_132), some (.int a6_60), some (.int (s7_132 + 1)), none, none] (And.intro rfl (And.intro rfl (And.intro rfl (And.intro rfl (And.intro rfl (And.intro rfl (And.intro rfl (And.intro rfl (trivial))))))))) (hX s4_132 s5_132 (s7_132 + 1) m_137)
  · refine ok_iload 145 9 dX11_share_143 rfl rfl ?_
    refine ok_if_eq 151 148 dX11_share_145 (by decide) rfl (fun _ => ?_) (fun _ => ?_)
    · refine ok_iinc 154 7 1 [some (.ref 0), some (.int a1), some (.int a2), some (.int r_1), some (.int s4_132), some (.int s5_132), some (.int a6_60), some (.int (s7_132 + 1)), none, some (.int t0_132)] dX11_share_151 rfl rfl rfl (by decide) rfl ?_
      refine ok_goto 65 dX11_share_154 (by decide) ?_
      exact ok_less [some (.ref 0), some (.int a1), some (.int a2), some (.int r_1), some (.int s4_132), some (.int s5_132), some (.int a6_60), some (.int (s7_132 + 1)), none, none] (And.intro rfl (And.intro rfl (And.intro rfl (And.intro rfl (And.intro rfl (And.intro rfl (And.intro rfl (And.intro rfl (trivial))))))))) (hX s4_132 s5_132 (s7_132 + 1) m_137)
    · refine ok_iinc 151 5 1 [some (.ref 0), some (.int a1), some (.int a2), some (.int r_1), some (.int s4_132), some (.int (s5_132 + 1)), some (.int a6_60), some (.int s7_132), none, some (.int t0_132)] dX11_share_148 rfl rfl rfl (by decide) rfl ?_
      refine ok_iinc 154 7 1 [some (.ref 0), some (.int a1), some (.int a2), some (.int r_1), some (.int s4_132), some (.int (s5_132 + 1)), some (.int a6_60), some (.int (s7_132 + 1)), none, some (.int t0_132)] dX11_share_151 rfl rfl rfl (by decide) rfl ?_
      refine ok_goto 65 dX11_share_154 (by decide) ?_
      exact ok_less [some (.ref 0), some (.int a1), some (.int a2), some (.int r_1), some (.int s4_132), some (.int (s5_132 + 1)), some (.int a6_60), some (.int (s7_132 + 1)), none, none] (And.intro rfl (And.intro rfl (And.intro rfl (And.intro rfl (And.intro rfl (And.intro rfl (And.intro rfl (And.intro rfl (trivial))))))))) (hX s4_132 (s5_132 + 1) (s7_132 + 1) m_137)

set_option maxRecDepth 100000 in
set_option maxHeartbeats 4000000 in
theorem ok_X11_share_J127 (N d : Nat) (a1 : Int32) (a2 : Int32)  (r_1 : Int32) (a6_60 : Int32)  (X : Int32 → Int32 → Int32 → Mem → Ans) (hX : ∀ (k4 : Int32) (k5 : Int32) (k7 : Int32) (m : Mem), Ok none SG (d + 3) m_X11_share 65 [some (.ref 0), some (.int a1), some (.int a2), some (.int r_1), some (.int k4), some (.int k5), some (.int a6_60), some (.int k7), none, none] [] SG m (X k4 k5 k7 m)) (s4_127 : Int32) (s5_127 : Int32) (s7_127 : Int32) (m : Mem) : Ok none SG (d + 3) m_X11_share 127 [some (.ref 0), some (.int a1), some (.int a2), some (.int r_1), some (.int s4_127), some (.int s5_127), some (.int a6_60), some (.int s7_127), none, none] [] SG m (f_X11_share_J127 N a1 a2 r_1 a6_60  X s4_127 s5_127 s7_127 m) := by
  unfold f_X11_share_J127
  refine ok_iconst 128 1 dX11_share_127 rfl rfl ?_
  refine ok_goto 132 dX11_share_128 (by decide) ?_
  exact ok_less [some (.ref 0), some (.int a1), some (.int a2), some (.int r_1), some (.int s4_127), some (.int s5_127), some (.int a6_60), some (.int s7_127), none, none] (And.intro rfl (And.intro rfl (And.intro rfl (And.intro rfl (And.intro rfl (And.intro rfl (And.intro rfl (And.intro rfl (trivial))))))))) (ok_X11_share_J132 N d a1 a2 r_1 a6_60  X hX s4_127 s5_127 s7_127 1 m)

set_option maxRecDepth 100000 in
set_option maxHeartbeats 4000000 in
theorem ok_X11_share_J131 (N d : Nat) (a1 : Int32) (a2 : Int32)  (r_1 : Int32) (a6_60 : Int32)  (X : Int32 → Int32 → Int32 → Mem → Ans) (hX : ∀ (k4 : Int32) (k5 : Int32) (k7 : Int32) (m : Mem), Ok none SG (d + 3) m_X11_share 65 [some (.ref 0), some (.int a1), some (.int a2), some (.int r_1), some (.int k4), some (.int k5), some (.int a6_60), some (.int k7), none, none] [] SG m (X k4 k5 k7 m)) (s4_131 : Int32) (s5_131 : Int32) (s7_131 : Int32) (m : Mem) : Ok none SG (d + 3) m_X11_share 131 [some (.ref 0), some (.int a1), some (.int a2), some (.int r_1), some (.int s4_131), some (.int s5_131), some (.int a6_60), some (.int s7_131), none, none] [] SG m (f_X11_share_J131 N a1 a2 r_1 a6_60  X s4_131 s5_131 s7_131 m) := by
  unfold f_X11_share_J131
  refine ok_iconst 132 0 dX11_share_131 rfl rfl ?_
  exact ok_less [some (.ref 0), some (.int a1), some (.int a2), some (.int r_1), some (.int s4_131), some (.int s5_131), some (.int a6_60), some (.int s7_131), none, none] (And.intro rfl (And.intro rfl (And.intro rfl (And.intro rfl (And.intro rfl (And.intro rfl (And.intro rfl (And.intro rfl (trivial))))))))) (ok_X11_share_J132 N d a1 a2 r_1 a6_60  X hX s4_131 s5_131 s7_131 0 m)

set_option maxRecDepth 100000 in
set_option maxHeartbeats 4000000 in
theorem ok_X11_share_L65 (N d : Nat) (a1 : Int32) (a2 : Int32)  (r_1 : Int32) (a6_60 : Int32)  : ∀ (n : Nat) (s4_65 : Int32) (s5_65 : Int32) (s7_65 : Int32) (m : Mem), Ok none SG (d + 3) m_X11_share 65 [some (.ref 0), some (.int a1), some (.int a2), some (.int r_1), some (.int s4_65), some (.int s5_65), some (.int a6_60), some (.int s7_65), none, none] [] SG m (it3 (f_X11_share_L65 N a1 a2 r_1 a6_60) n s4_65 s5_65 s7_65 m) :=
  ok_it3 (fun s4_65 s5_65 s7_65 => [some (.ref 0), some (.int a1), some (.int a2), some (.int r_1), some (.int s4_65), some (.int s5_65), some (.int a6_60), some (.int s7_65), none, none]) (fun X hX s4_65 s5_65 s7_65 m => by
    try unfold f_X11_share_L65
    refine ok_iload 67 7 dX11_share_65 rfl rfl ?_
    refine ok_aload_n 68 0 dX11_share_67 rfl rfl rfl ?_
    refine ok_getR 71 dX11_share_68 rfl rfl F_Encores_16 sg_0 rfl (Nat.le_of_ble_eq_true rfl) rfl rfl ?_
    refine ok_getR 74 dX11_share_71 rfl rfl F_Encores_113 sg_2 rfl (Nat.le_of_ble_eq_true rfl) rfl rfl ?_
    refine ok_getI 77 dX11_share_74 rfl rfl F_Encores_117 sg_3 rfl (Nat.le_of_ble_eq_true rfl) rfl ?_
    refine ok_icmp_ge 157 80 dX11_share_77 (by decide) rfl (fun _ => ?_) (fun _ => ?_)
    · refine ok_iload 159 6 dX11_share_157 rfl rfl ?_
      refine ok_iload_n 160 3 dX11_share_159 rfl rfl rfl ?_
      refine ok_idiv 161 dX11_share_160 rfl ?_
      refine ok_iload 163 5 dX11_share_161 rfl rfl ?_
      refine ok_iload 165 4 dX11_share_163 rfl rfl ?_
      refine ok_icmp_ge 172 168 dX11_share_165 (by decide) rfl (fun _ => ?_) (fun _ => ?_)
      · refine ok_iconst 173 0 dX11_share_172 rfl rfl ?_
        refine ok_iadd 174 dX11_share_173 rfl ?_
        exact ok_iret dX11_share_174 rfl
      · refine ok_iconst 169 1 dX11_share_168 rfl rfl ?_
        refine ok_goto 173 dX11_share_169 (by decide) ?_
        refine ok_iadd 174 dX11_share_173 rfl ?_
        exact ok_iret dX11_share_174 rfl
    · refine ok_iload_n 81 1 dX11_share_80 rfl rfl rfl ?_
      refine ok_aload_n 82 0 dX11_share_81 rfl rfl rfl ?_
      refine ok_iload 84 7 dX11_share_82 rfl rfl ?_
      refine ok_callVi (np := 1) (M' := m_X11_weight) (As := [.int s7_65]) (st := [.int a1]) 87 dX11_share_84 rfl rfl km_X11_weight ki_X11_weight kv_X11_weight ml_Encores_323 (by decide) sg_0 rfl (Nat.le_of_ble_eq_true rfl) rfl rfl rfl (Nat.le_of_ble_eq_true rfl) (c_X11_weight N (d + 1) s7_65 m) ⟨Nat.le_refl _, Nat.le_refl _⟩ (Or.inl rfl) rfl (fun r_84 m_84 _ => ?_)
      refine ok_imul 88 dX11_share_87 rfl ?_
      refine ok_bndI (fun a8_88 => ?_)
      refine ok_istore 90 8 [some (.ref 0), some (.int a1), some (.int a2), some (.int r_1), some (.int s4_65), some (.int s5_65), some (.int a6_60), some (.int s7_65), some (.int a8_88), none] dX11_share_88 rfl (by decide) rfl ?_
      refine ok_iload 92 4 dX11_share_90 rfl rfl ?_
      refine ok_iload 94 8 dX11_share_92 rfl rfl ?_
      refine ok_iload_n 95 3 dX11_share_94 rfl rfl rfl ?_
      refine ok_idiv 96 dX11_share_95 rfl ?_
      refine ok_isub 97 dX11_share_96 rfl ?_
      refine ok_bndI (fun a4_97 => ?_)
      refine ok_istore 99 4 [some (.ref 0), some (.int a1), some (.int a2), some (.int r_1), some (.int a4_97), some (.int s5_65), some (.int a6_60), some (.int s7_65), some (.int a8_88), none] dX11_share_97 rfl (by decide) rfl ?_
      refine ok_iload 101 8 dX11_share_99 rfl rfl ?_
      refine ok_iload_n 102 3 dX11_share_101 rfl rfl rfl ?_
      refine ok_irem 103 dX11_share_102 rfl ?_
      refine ok_iload 105 6 dX11_share_103 rfl rfl ?_
      refine ok_iload_n 106 3 dX11_share_105 rfl rfl rfl ?_
      refine ok_irem 107 dX11_share_106 rfl ?_
      refine ok_icmp_gt 127 110 dX11_share_107 (by decide) rfl (fun _ => ?_) (fun _ => ?_)
      · exact ok_less [some (.ref 0), some (.int a1), some (.int a2), some (.int r_1), some (.int a4_97), some (.int s5_65), some (.int a6_60), some (.int s7_65), none, none] (And.intro rfl (And.intro rfl (And.intro rfl (And.intro rfl (And.intro rfl (And.intro rfl (And.intro rfl (And.intro rfl (trivial))))))))) (ok_X11_share_J127 N d a1 a2 r_1 a6_60  X hX a4_97 s5_65 s7_65 m_84)
      · refine ok_iload 112 8 dX11_share_110 rfl rfl ?_
        refine ok_iload_n 113 3 dX11_share_112 rfl rfl rfl ?_
        refine ok_irem 114 dX11_share_113 rfl ?_
        refine ok_iload 116 6 dX11_share_114 rfl rfl ?_
        refine ok_iload_n 117 3 dX11_share_116 rfl rfl rfl ?_
        refine ok_irem 118 dX11_share_117 rfl ?_
        refine ok_icmp_ne 131 121 dX11_share_118 (by decide) rfl (fun _ => ?_) (fun _ => ?_)
        · exact ok_less [some (.ref 0), some (.int a1), some (.int a2), some (.int r_1), some (.int a4_97), some (.int s5_65), some (.int a6_60), some (.int s7_65), none, none] (And.intro rfl (And.intro rfl (And.intro rfl (And.intro rfl (And.intro rfl (And.intro rfl (And.intro rfl (And.intro rfl (trivial))))))))) (ok_X11_share_J131 N d a1 a2 r_1 a6_60  X hX a4_97 s5_65 s7_65 m_84)
        · refine ok_iload 123 7 dX11_share_121 rfl rfl ?_
          refine ok_iload_n 124 2 dX11_share_123 rfl rfl rfl ?_
          refine ok_icmp_ge 131 127 dX11_share_124 (by decide) rfl (fun _ => ?_) (fun _ => ?_)
          · exact ok_less [some (.ref 0), some (.int a1), some (.int a2), some (.int r_1), some (.int a4_97), some (.int s5_65), some (.int a6_60), some (.int s7_65), none, none] (And.intro rfl (And.intro rfl (And.intro rfl (And.intro rfl (And.intro rfl (And.intro rfl (And.intro rfl (And.intro rfl (trivial))))))))) (ok_X11_share_J131 N d a1 a2 r_1 a6_60  X hX a4_97 s5_65 s7_65 m_84)
          · exact ok_less [some (.ref 0), some (.int a1), some (.int a2), some (.int r_1), some (.int a4_97), some (.int s5_65), some (.int a6_60), some (.int s7_65), none, none] (And.intro rfl (And.intro rfl (And.intro rfl (And.intro rfl (And.intro rfl (And.intro rfl (And.intro rfl (And.intro rfl (trivial))))))))) (ok_X11_share_J127 N d a1 a2 r_1 a6_60  X hX a4_97 s5_65 s7_65 m_84))

set_option maxRecDepth 100000 in
set_option maxHeartbeats 4000000 in
theorem ok_X11_share (N d : Nat) (a1 : Int32) (a2 : Int32)  (m : Mem) : Ok none SG (d + 3) m_X11_share 0 [some (.ref 0), some (.int a1), some (.int a2), none, none, none, none, none, none, none] [] SG m (f_X11_share N a1 a2 m) := by
  unfold f_X11_share
  refine ok_aload_n 1 0 dX11_share_0 rfl rfl rfl ?_
  refine ok_callVi (np := 0) (M' := m_X11_weightOfAll) (As := []) (st := []) 4 dX11_share_1 rfl rfl km_X11_weightOfAll ki_X11_weightOfAll kv_X11_weightOfAll ml_Encores_320 (by decide) sg_0 rfl (Nat.le_of_ble_eq_true rfl) rfl rfl rfl (Nat.le_of_ble_eq_true rfl) (c_X11_weightOfAll N (d + 0) m) ⟨Nat.le_refl _, Nat.le_refl _⟩ (Or.inl rfl) rfl (fun r_1 m_1 _ => ?_)
  refine ok_istore_n 5 3 [some (.ref 0), some (.int a1), some (.int a2), some (.int r_1), none, none, none, none, none, none] dX11_share_4 rfl rfl (by decide) rfl ?_
  refine ok_iload_n 6 1 dX11_share_5 rfl rfl rfl ?_
  refine ok_iconst 7 0 dX11_share_6 rfl rfl ?_
  refine ok_sipush 10 9999 dX11_share_7 rfl rfl ?_
  refine ok_callSi (np := 3) (M' := m_X11_within) (As := [.int a1, .int 0, .int 9999]) (st := []) 13 dX11_share_10 rfl rfl km_X11_within ks_X11_within ml_Encores_109 (by decide) rfl rfl (Nat.le_of_ble_eq_true rfl) (c_X11_within N (d + 2) a1 0 9999 m_1) ⟨Nat.le_refl _, Nat.le_refl _⟩ (Or.inl rfl) rfl (fun r_10 m_10 _ => ?_)
  refine ok_if_eq 35 16 dX11_share_13 (by decide) rfl (fun _ => ?_) (fun _ => ?_)
  · refine ok_iconst 36 (-1) dX11_share_35 rfl rfl ?_
    exact ok_iret dX11_share_36 rfl
  · refine ok_aload_n 17 0 dX11_share_16 rfl rfl rfl ?_
    refine ok_getR 20 dX11_share_17 rfl rfl F_Encores_16 sg_0 rfl (Nat.le_of_ble_eq_true rfl) rfl rfl ?_
    refine ok_getR 23 dX11_share_20 rfl rfl F_Encores_113 sg_2 rfl (Nat.le_of_ble_eq_true rfl) rfl rfl ?_
    refine ok_iload_n 24 2 dX11_share_23 rfl rfl rfl ?_
    refine ok_callVi (np := 1) (M' := m_X9_has) (As := [.int a2]) (st := []) 27 dX11_share_24 rfl rfl km_X9_has ki_X9_has kv_X9_has ml_Encores_138 (by decide) sg_3 rfl (Nat.le_of_ble_eq_true rfl) rfl rfl rfl (Nat.le_of_ble_eq_true rfl) (c_X9_has N (d + 2) 3 a2 tg_3 m_10) ⟨Nat.le_refl _, Nat.le_refl _⟩ (Or.inl rfl) rfl (fun r_24 m_24 _ => ?_)
    refine ok_if_eq 35 30 dX11_share_27 (by decide) rfl (fun _ => ?_) (fun _ => ?_)
    · refine ok_iconst 36 (-1) dX11_share_35 rfl rfl ?_
      exact ok_iret dX11_share_36 rfl
    · refine ok_iload_n 31 3 dX11_share_30 rfl rfl rfl ?_
      refine ok_iconst 32 1 dX11_share_31 rfl rfl ?_
      refine ok_icmp_ge 37 35 dX11_share_32 (by decide) rfl (fun _ => ?_) (fun _ => ?_)
      · refine ok_aload_n 38 0 dX11_share_37 rfl rfl rfl ?_
        refine ok_iload_n 39 2 dX11_share_38 rfl rfl rfl ?_
        refine ok_callVi (np := 1) (M' := m_X11_weight) (As := [.int a2]) (st := []) 42 dX11_share_39 rfl rfl km_X11_weight ki_X11_weight kv_X11_weight ml_Encores_323 (by decide) sg_0 rfl (Nat.le_of_ble_eq_true rfl) rfl rfl rfl (Nat.le_of_ble_eq_true rfl) (c_X11_weight N (d + 1) a2 m_24) ⟨Nat.le_refl _, Nat.le_refl _⟩ (Or.inl rfl) rfl (fun r_39 m_39 _ => ?_)
        refine ok_if_ne 47 45 dX11_share_42 (by decide) rfl (fun _ => ?_) (fun _ => ?_)
        · refine ok_iload_n 48 1 dX11_share_47 rfl rfl rfl ?_
          refine ok_istore 50 4 [some (.ref 0), some (.int a1), some (.int a2), some (.int r_1), some (.int a1), none, none, none, none, none] dX11_share_48 rfl (by decide) rfl ?_
          refine ok_iconst 51 0 dX11_share_50 rfl rfl ?_
          refine ok_istore 53 5 [some (.ref 0), some (.int a1), some (.int a2), some (.int r_1), some (.int a1), some (.int 0), none, none, none, none] dX11_share_51 rfl (by decide) rfl ?_
          refine ok_iload_n 54 1 dX11_share_53 rfl rfl rfl ?_
          refine ok_aload_n 55 0 dX11_share_54 rfl rfl rfl ?_
          refine ok_iload_n 56 2 dX11_share_55 rfl rfl rfl ?_
          refine ok_callVi (np := 1) (M' := m_X11_weight) (As := [.int a2]) (st := [.int a1]) 59 dX11_share_56 rfl rfl km_X11_weight ki_X11_weight kv_X11_weight ml_Encores_323 (by decide) sg_0 rfl (Nat.le_of_ble_eq_true rfl) rfl rfl rfl (Nat.le_of_ble_eq_true rfl) (c_X11_weight N (d + 1) a2 m_39) ⟨Nat.le_refl _, Nat.le_refl _⟩ (Or.inl rfl) rfl (fun r_56 m_56 _ => ?_)
          refine ok_imul 60 dX11_share_59 rfl ?_
          refine ok_bndI (fun a6_60 => ?_)
          refine ok_istore 62 6 [some (.ref 0), some (.int a1), some (.int a2), some (.int r_1), some (.int a1), some (.int 0), some (.int a6_60), none, none, none] dX11_share_60 rfl (by decide) rfl ?_
          refine ok_iconst 63 0 dX11_share_62 rfl rfl ?_
          refine ok_istore 65 7 [some (.ref 0), some (.int a1), some (.int a2), some (.int r_1), some (.int a1), some (.int 0), some (.int a6_60), some (.int 0), none, none] dX11_share_63 rfl (by decide) rfl ?_
          refine ok_less [some (.ref 0), some (.int a1), some (.int a2), some (.int r_1), some (.int a1), some (.int 0), some (.int a6_60), some (.int 0), none, none] (And.intro rfl (And.intro rfl (And.intro rfl (And.intro rfl (And.intro rfl (And.intro rfl (And.intro rfl (And.intro rfl (trivial))))))))) ?_
          exact ok_X11_share_L65 N d a1 a2 r_1 a6_60   N a1 0 0 m_56
        · refine ok_iconst 46 0 dX11_share_45 rfl rfl ?_
          exact ok_iret dX11_share_46 rfl
      · refine ok_iconst 36 (-1) dX11_share_35 rfl rfl ?_
        exact ok_iret dX11_share_36 rfl

theorem c_X11_share (N d : Nat) (a1 : Int32) (a2 : Int32)  (m : Mem) : CM (d + 3) m_X11_share SG SG [.ref 0, .int a1, .int a2] m (f_X11_share N a1 a2 m) :=
  CM.ofOk km_X11_share ⟨Nat.le_refl _, Nat.le_refl _⟩ (by simp [Value.category]) (Nat.le_of_ble_eq_true rfl) (ok_X11_share N d a1 a2 m)

def f_X11_near (N : Nat) (a1 : Int32) (a2 : Int32) (m : Mem) : Ans :=
bd (f_X9_has N 3 a1 m) fun r_8 m_8 =>
if r_8 = 0 then (some ((-1), m_8))
else (bd (f_X11_within N a2 0 12 m_8) fun r_18 m_18 =>
if r_18 = 0 then (some ((-1), m_18))
else (bd (f_X7_all N m_18) fun r_38 m_38 =>
bd (f_X7_reached N ((1 : Int32) <<< (a1 &&& 31)) a2 r_38 m_38) fun r_41 m_41 =>
some (r_41, m_41)))

set_option maxRecDepth 100000 in
set_option maxHeartbeats 4000000 in
theorem ok_X11_near (N d : Nat) (a1 : Int32) (a2 : Int32)  (m : Mem) : Ok none SG (d + 2) m_X11_near 0 [some (.ref 0), some (.int a1), some (.int a2)] [] SG m (f_X11_near N a1 a2 m) := by
  unfold f_X11_near
  refine ok_aload_n 1 0 dX11_near_0 rfl rfl rfl ?_
  refine ok_getR 4 dX11_near_1 rfl rfl F_Encores_16 sg_0 rfl (Nat.le_of_ble_eq_true rfl) rfl rfl ?_
  refine ok_getR 7 dX11_near_4 rfl rfl F_Encores_113 sg_2 rfl (Nat.le_of_ble_eq_true rfl) rfl rfl ?_
  refine ok_iload_n 8 1 dX11_near_7 rfl rfl rfl ?_
  refine ok_callVi (np := 1) (M' := m_X9_has) (As := [.int a1]) (st := []) 11 dX11_near_8 rfl rfl km_X9_has ki_X9_has kv_X9_has ml_Encores_138 (by decide) sg_3 rfl (Nat.le_of_ble_eq_true rfl) rfl rfl rfl (Nat.le_of_ble_eq_true rfl) (c_X9_has N (d + 1) 3 a1 tg_3 m) ⟨Nat.le_refl _, Nat.le_refl _⟩ (Or.inl rfl) rfl (fun r_8 m_8 _ => ?_)
  refine ok_if_eq 24 14 dX11_near_11 (by decide) rfl (fun _ => ?_) (fun _ => ?_)
  · refine ok_iconst 25 (-1) dX11_near_24 rfl rfl ?_
    exact ok_iret dX11_near_25 rfl
  · refine ok_iload_n 15 2 dX11_near_14 rfl rfl rfl ?_
    refine ok_iconst 16 0 dX11_near_15 rfl rfl ?_
    refine ok_bipush 18 12 dX11_near_16 rfl rfl ?_
    refine ok_callSi (np := 3) (M' := m_X11_within) (As := [.int a2, .int 0, .int 12]) (st := []) 21 dX11_near_18 rfl rfl km_X11_within ks_X11_within ml_Encores_109 (by decide) rfl rfl (Nat.le_of_ble_eq_true rfl) (c_X11_within N (d + 1) a2 0 12 m_8) ⟨Nat.le_refl _, Nat.le_refl _⟩ (Or.inl rfl) rfl (fun r_18 m_18 _ => ?_)
    refine ok_if_ne 26 24 dX11_near_21 (by decide) rfl (fun _ => ?_) (fun _ => ?_)
    · refine ok_aload_n 27 0 dX11_near_26 rfl rfl rfl ?_
      refine ok_getR 30 dX11_near_27 rfl rfl F_Encores_87 sg_0 rfl (Nat.le_of_ble_eq_true rfl) rfl rfl ?_
      refine ok_iconst 31 1 dX11_near_30 rfl rfl ?_
      refine ok_iload_n 32 1 dX11_near_31 rfl rfl rfl ?_
      refine ok_ishl 33 dX11_near_32 rfl ?_
      refine ok_iload_n 34 2 dX11_near_33 rfl rfl rfl ?_
      refine ok_aload_n 35 0 dX11_near_34 rfl rfl rfl ?_
      refine ok_getR 38 dX11_near_35 rfl rfl F_Encores_87 sg_0 rfl (Nat.le_of_ble_eq_true rfl) rfl rfl ?_
      refine ok_callVi (np := 0) (M' := m_X7_all) (As := []) (st := [.int a2, .int ((1 : Int32) <<< (a1 &&& 31)), .ref 121]) 41 dX11_near_38 rfl rfl km_X7_all ki_X7_all kv_X7_all ml_Encores_326 (by decide) sg_121 rfl (Nat.le_of_ble_eq_true rfl) rfl rfl rfl (Nat.le_of_ble_eq_true rfl) (c_X7_all N (d + 1) m_18) ⟨Nat.le_refl _, Nat.le_refl _⟩ (Or.inl rfl) rfl (fun r_38 m_38 _ => ?_)
      refine ok_callVi (np := 3) (M' := m_X7_reached) (As := [.int ((1 : Int32) <<< (a1 &&& 31)), .int a2, .int r_38]) (st := []) 44 dX11_near_41 rfl rfl km_X7_reached ki_X7_reached kv_X7_reached ml_Encores_329 (by decide) sg_121 rfl (Nat.le_of_ble_eq_true rfl) rfl rfl rfl (Nat.le_of_ble_eq_true rfl) (c_X7_reached N (d + 0) ((1 : Int32) <<< (a1 &&& 31)) a2 r_38 m_38) ⟨Nat.le_refl _, Nat.le_refl _⟩ (Or.inl rfl) rfl (fun r_41 m_41 _ => ?_)
      exact ok_iret dX11_near_44 rfl
    · refine ok_iconst 25 (-1) dX11_near_24 rfl rfl ?_
      exact ok_iret dX11_near_25 rfl

theorem c_X11_near (N d : Nat) (a1 : Int32) (a2 : Int32)  (m : Mem) : CM (d + 2) m_X11_near SG SG [.ref 0, .int a1, .int a2] m (f_X11_near N a1 a2 m) :=
  CM.ofOk km_X11_near ⟨Nat.le_refl _, Nat.le_refl _⟩ (by simp [Value.category]) (Nat.le_of_ble_eq_true rfl) (ok_X11_near N d a1 a2 m)

def f_X11_cuts (N : Nat) (a1 : Int32) (a2 : Int32) (a3 : Int32) (m : Mem) : Ans :=
bd (f_X9_has N 3 a1 m) fun r_8 m_8 =>
if r_8 = 0 then (some ((-1), m_8))
else (bd (f_X9_has N 3 a2 m_8) fun r_22 m_22 =>
if r_22 = 0 then (some ((-1), m_22))
else (if a1 = a2 then (some ((-1), m_22))
else (bd (f_X11_within N a3 0 1 m_22) fun r_36 m_36 =>
if r_36 = 0 then (some ((-1), m_36))
else (bd (f_X9_at N 3 a1 6 m_36) fun r_55 m_55 =>
bd (f_X11_isIn N a2 r_55 m_55) fun r_58 m_58 =>
if r_58 = 0 then (bd (f_X7_fewestBetween N a1 a2 m_58) fun r_72 m_72 =>
bd (f_X11_numberOrSet N r_72 a3 m_72) fun r_76 m_76 =>
some (r_76, m_76))
else (some ((-1), m_58))))))

set_option maxRecDepth 100000 in
set_option maxHeartbeats 4000000 in
theorem ok_X11_cuts (N d : Nat) (a1 : Int32) (a2 : Int32) (a3 : Int32)  (m : Mem) : Ok none SG (d + 3) m_X11_cuts 0 [some (.ref 0), some (.int a1), some (.int a2), some (.int a3)] [] SG m (f_X11_cuts N a1 a2 a3 m) := by
  unfold f_X11_cuts
  refine ok_aload_n 1 0 dX11_cuts_0 rfl rfl rfl ?_
  refine ok_getR 4 dX11_cuts_1 rfl rfl F_Encores_16 sg_0 rfl (Nat.le_of_ble_eq_true rfl) rfl rfl ?_
  refine ok_getR 7 dX11_cuts_4 rfl rfl F_Encores_113 sg_2 rfl (Nat.le_of_ble_eq_true rfl) rfl rfl ?_
  refine ok_iload_n 8 1 dX11_cuts_7 rfl rfl rfl ?_
  refine ok_callVi (np := 1) (M' := m_X9_has) (As := [.int a1]) (st := []) 11 dX11_cuts_8 rfl rfl km_X9_has ki_X9_has kv_X9_has ml_Encores_138 (by decide) sg_3 rfl (Nat.le_of_ble_eq_true rfl) rfl rfl rfl (Nat.le_of_ble_eq_true rfl) (c_X9_has N (d + 2) 3 a1 tg_3 m) ⟨Nat.le_refl _, Nat.le_refl _⟩ (Or.inl rfl) rfl (fun r_8 m_8 _ => ?_)
  refine ok_if_eq 42 14 dX11_cuts_11 (by decide) rfl (fun _ => ?_) (fun _ => ?_)
  · refine ok_iconst 43 (-1) dX11_cuts_42 rfl rfl ?_
    exact ok_iret dX11_cuts_43 rfl
  · refine ok_aload_n 15 0 dX11_cuts_14 rfl rfl rfl ?_
    refine ok_getR 18 dX11_cuts_15 rfl rfl F_Encores_16 sg_0 rfl (Nat.le_of_ble_eq_true rfl) rfl rfl ?_
    refine ok_getR 21 dX11_cuts_18 rfl rfl F_Encores_113 sg_2 rfl (Nat.le_of_ble_eq_true rfl) rfl rfl ?_
    refine ok_iload_n 22 2 dX11_cuts_21 rfl rfl rfl ?_
    refine ok_callVi (np := 1) (M' := m_X9_has) (As := [.int a2]) (st := []) 25 dX11_cuts_22 rfl rfl km_X9_has ki_X9_has kv_X9_has ml_Encores_138 (by decide) sg_3 rfl (Nat.le_of_ble_eq_true rfl) rfl rfl rfl (Nat.le_of_ble_eq_true rfl) (c_X9_has N (d + 2) 3 a2 tg_3 m_8) ⟨Nat.le_refl _, Nat.le_refl _⟩ (Or.inl rfl) rfl (fun r_22 m_22 _ => ?_)
    refine ok_if_eq 42 28 dX11_cuts_25 (by decide) rfl (fun _ => ?_) (fun _ => ?_)
    · refine ok_iconst 43 (-1) dX11_cuts_42 rfl rfl ?_
      exact ok_iret dX11_cuts_43 rfl
    · refine ok_iload_n 29 1 dX11_cuts_28 rfl rfl rfl ?_
      refine ok_iload_n 30 2 dX11_cuts_29 rfl rfl rfl ?_
      refine ok_icmp_eq 42 33 dX11_cuts_30 (by decide) rfl (fun _ => ?_) (fun _ => ?_)
      · refine ok_iconst 43 (-1) dX11_cuts_42 rfl rfl ?_
        exact ok_iret dX11_cuts_43 rfl
      · refine ok_iload_n 34 3 dX11_cuts_33 rfl rfl rfl ?_
        refine ok_iconst 35 0 dX11_cuts_34 rfl rfl ?_
        refine ok_iconst 36 1 dX11_cuts_35 rfl rfl ?_
        refine ok_callSi (np := 3) (M' := m_X11_within) (As := [.int a3, .int 0, .int 1]) (st := []) 39 dX11_cuts_36 rfl rfl km_X11_within ks_X11_within ml_Encores_109 (by decide) rfl rfl (Nat.le_of_ble_eq_true rfl) (c_X11_within N (d + 2) a3 0 1 m_22) ⟨Nat.le_refl _, Nat.le_refl _⟩ (Or.inl rfl) rfl (fun r_36 m_36 _ => ?_)
        refine ok_if_ne 44 42 dX11_cuts_39 (by decide) rfl (fun _ => ?_) (fun _ => ?_)
        · refine ok_iload_n 45 2 dX11_cuts_44 rfl rfl rfl ?_
          refine ok_aload_n 46 0 dX11_cuts_45 rfl rfl rfl ?_
          refine ok_getR 49 dX11_cuts_46 rfl rfl F_Encores_16 sg_0 rfl (Nat.le_of_ble_eq_true rfl) rfl rfl ?_
          refine ok_getR 52 dX11_cuts_49 rfl rfl F_Encores_113 sg_2 rfl (Nat.le_of_ble_eq_true rfl) rfl rfl ?_
          refine ok_iload_n 53 1 dX11_cuts_52 rfl rfl rfl ?_
          refine ok_bipush 55 6 dX11_cuts_53 rfl rfl ?_
          refine ok_callVi (np := 2) (M' := m_X9_at) (As := [.int a1, .int 6]) (st := [.int a2]) 58 dX11_cuts_55 rfl rfl km_X9_at ki_X9_at kv_X9_at ml_Encores_142 (by decide) sg_3 rfl (Nat.le_of_ble_eq_true rfl) rfl rfl rfl (Nat.le_of_ble_eq_true rfl) (c_X9_at N (d + 2) 3 a1 6 tg_3 m_36) ⟨Nat.le_refl _, Nat.le_refl _⟩ (Or.inl rfl) rfl (fun r_55 m_55 _ => ?_)
          refine ok_callSi (np := 2) (M' := m_X11_isIn) (As := [.int a2, .int r_55]) (st := []) 61 dX11_cuts_58 rfl rfl km_X11_isIn ks_X11_isIn ml_Encores_278 (by decide) rfl rfl (Nat.le_of_ble_eq_true rfl) (c_X11_isIn N (d + 2) a2 r_55 m_55) ⟨Nat.le_refl _, Nat.le_refl _⟩ (Or.inl rfl) rfl (fun r_58 m_58 _ => ?_)
          refine ok_if_eq 66 64 dX11_cuts_61 (by decide) rfl (fun _ => ?_) (fun _ => ?_)
          · refine ok_aload_n 67 0 dX11_cuts_66 rfl rfl rfl ?_
            refine ok_getR 70 dX11_cuts_67 rfl rfl F_Encores_87 sg_0 rfl (Nat.le_of_ble_eq_true rfl) rfl rfl ?_
            refine ok_iload_n 71 1 dX11_cuts_70 rfl rfl rfl ?_
            refine ok_iload_n 72 2 dX11_cuts_71 rfl rfl rfl ?_
            refine ok_callVi (np := 2) (M' := m_X7_fewestBetween) (As := [.int a1, .int a2]) (st := []) 75 dX11_cuts_72 rfl rfl km_X7_fewestBetween ki_X7_fewestBetween kv_X7_fewestBetween ml_Encores_332 (by decide) sg_121 rfl (Nat.le_of_ble_eq_true rfl) rfl rfl rfl (Nat.le_of_ble_eq_true rfl) (c_X7_fewestBetween N (d + 0) a1 a2 m_58) ⟨Nat.le_refl _, Nat.le_refl _⟩ (Or.inl rfl) rfl (fun r_72 m_72 _ => ?_)
            refine ok_iload_n 76 3 dX11_cuts_75 rfl rfl rfl ?_
            refine ok_callSi (np := 2) (M' := m_X11_numberOrSet) (As := [.int r_72, .int a3]) (st := []) 79 dX11_cuts_76 rfl rfl km_X11_numberOrSet ks_X11_numberOrSet ml_Encores_264 (by decide) rfl rfl (Nat.le_of_ble_eq_true rfl) (c_X11_numberOrSet N (d + 1) r_72 a3 m_72) ⟨Nat.le_refl _, Nat.le_refl _⟩ (Or.inl rfl) rfl (fun r_76 m_76 _ => ?_)
            exact ok_iret dX11_cuts_79 rfl
          · refine ok_iconst 65 (-1) dX11_cuts_64 rfl rfl ?_
            exact ok_iret dX11_cuts_65 rfl
        · refine ok_iconst 43 (-1) dX11_cuts_42 rfl rfl ?_
          exact ok_iret dX11_cuts_43 rfl

theorem c_X11_cuts (N d : Nat) (a1 : Int32) (a2 : Int32) (a3 : Int32)  (m : Mem) : CM (d + 3) m_X11_cuts SG SG [.ref 0, .int a1, .int a2, .int a3] m (f_X11_cuts N a1 a2 a3 m) :=
  CM.ofOk km_X11_cuts ⟨Nat.le_refl _, Nat.le_refl _⟩ (by simp [Value.category]) (Nat.le_of_ble_eq_true rfl) (ok_X11_cuts N d a1 a2 a3 m)

def f_X11_groups_L21 (N : Nat) (a1 : Int32)   (X : Int32 → Int32 → Int32 → Int32 → Mem → Ans) (s2_21 : Int32) (s3_21 : Int32) (s4_21 : Int32) (s5_21 : Int32) (m : Mem) : Ans :=
if (m 3 3) ≤ s5_21 then (if a1 = 0 then (some (s2_21, m))
else (some (s3_21, m)))
else (bd (f_X11_isIn N s5_21 s4_21 m) fun r_40 m_40 =>
if r_40 = 0 then (bd (f_X7_all N m_40) fun r_60 m_60 =>
bd (f_X7_reached N ((1 : Int32) <<< (s5_21 &&& 31)) 12 r_60 m_60) fun r_63 m_63 =>
bnd (s4_21 ||| r_63) fun a4_73 =>
bd (f_J6_bitCount_0f7a4 N r_63 m_63) fun r_80 m_80 =>
bd (f_J6_bitCount_0f7a4 N s3_21 m_80) fun r_84 m_84 =>
if r_80 ≤ r_84 then (X (s2_21 + 1) s3_21 a4_73 (s5_21 + 1) m_84)
else (X (s2_21 + 1) r_63 a4_73 (s5_21 + 1) m_84))
else (X s2_21 s3_21 s4_21 (s5_21 + 1) m_40))

def f_X11_groups (N : Nat) (a1 : Int32) (m : Mem) : Ans :=
bd (f_X11_within N a1 0 1 m) fun r_3 m_3 =>
if r_3 = 0 then (some ((-1), m_3))
else (it4 (f_X11_groups_L21 N a1 ) N 0 0 0 0 m_3)

set_option maxRecDepth 100000 in
set_option maxHeartbeats 4000000 in
theorem ok_X11_groups_L21 (N d : Nat) (a1 : Int32)    : ∀ (n : Nat) (s2_21 : Int32) (s3_21 : Int32) (s4_21 : Int32) (s5_21 : Int32) (m : Mem), Ok none SG (d + 2) m_X11_groups 21 [some (.ref 0), some (.int a1), some (.int s2_21), some (.int s3_21), some (.int s4_21), some (.int s5_21), none] [] SG m (it4 (f_X11_groups_L21 N a1) n s2_21 s3_21 s4_21 s5_21 m) :=
  ok_it4 (fun s2_21 s3_21 s4_21 s5_21 => [some (.ref 0), some (.int a1), some (.int s2_21), some (.int s3_21), some (.int s4_21), some (.int s5_21), none]) (fun X hX s2_21 s3_21 s4_21 s5_21 m => by
    try unfold f_X11_groups_L21
    refine ok_iload 23 5 dX11_groups_21 rfl rfl ?_
    refine ok_aload_n 24 0 dX11_groups_23 rfl rfl rfl ?_
    refine ok_getR 27 dX11_groups_24 rfl rfl F_Encores_16 sg_0 rfl (Nat.le_of_ble_eq_true rfl) rfl rfl ?_
    refine ok_getR 30 dX11_groups_27 rfl rfl F_Encores_113 sg_2 rfl (Nat.le_of_ble_eq_true rfl) rfl rfl ?_
    refine ok_getI 33 dX11_groups_30 rfl rfl F_Encores_117 sg_3 rfl (Nat.le_of_ble_eq_true rfl) rfl ?_
    refine ok_icmp_ge 99 36 dX11_groups_33 (by decide) rfl (fun _ => ?_) (fun _ => ?_)
    · refine ok_iload_n 100 1 dX11_groups_99 rfl rfl rfl ?_
      refine ok_if_ne 107 103 dX11_groups_100 (by decide) rfl (fun _ => ?_) (fun _ => ?_)
      · refine ok_iload_n 108 3 dX11_groups_107 rfl rfl rfl ?_
        exact ok_iret dX11_groups_108 rfl
      · refine ok_iload_n 104 2 dX11_groups_103 rfl rfl rfl ?_
        refine ok_goto 108 dX11_groups_104 (by decide) ?_
        exact ok_iret dX11_groups_108 rfl
    · refine ok_iload 38 5 dX11_groups_36 rfl rfl ?_
      refine ok_iload 40 4 dX11_groups_38 rfl rfl ?_
      refine ok_callSi (np := 2) (M' := m_X11_isIn) (As := [.int s5_21, .int s4_21]) (st := []) 43 dX11_groups_40 rfl rfl km_X11_isIn ks_X11_isIn ml_Encores_278 (by decide) rfl rfl (Nat.le_of_ble_eq_true rfl) (c_X11_isIn N (d + 1) s5_21 s4_21 m) ⟨Nat.le_refl _, Nat.le_refl _⟩ (Or.inl rfl) rfl (fun r_40 m_40 _ => ?_)
      refine ok_if_ne 93 46 dX11_groups_43 (by decide) rfl (fun _ => ?_) (fun _ => ?_)
      · refine ok_iinc 96 5 1 [some (.ref 0), some (.int a1), some (.int s2_21), some (.int s3_21), some (.int s4_21), some (.int (s5_21 + 1)), none] dX11_groups_93 rfl rfl rfl (by decide) rfl ?_
        refine ok_goto 21 dX11_groups_96 (by decide) ?_
        exact ok_less [some (.ref 0), some (.int a1), some (.int s2_21), some (.int s3_21), some (.int s4_21), some (.int (s5_21 + 1)), none] (And.intro rfl (And.intro rfl (And.intro rfl (And.intro rfl (And.intro rfl (And.intro rfl (trivial))))))) (hX s2_21 s3_21 s4_21 (s5_21 + 1) m_40)
      · refine ok_aload_n 47 0 dX11_groups_46 rfl rfl rfl ?_
        refine ok_getR 50 dX11_groups_47 rfl rfl F_Encores_87 sg_0 rfl (Nat.le_of_ble_eq_true rfl) rfl rfl ?_
        refine ok_iconst 51 1 dX11_groups_50 rfl rfl ?_
        refine ok_iload 53 5 dX11_groups_51 rfl rfl ?_
        refine ok_ishl 54 dX11_groups_53 rfl ?_
        refine ok_bipush 56 12 dX11_groups_54 rfl rfl ?_
        refine ok_aload_n 57 0 dX11_groups_56 rfl rfl rfl ?_
        refine ok_getR 60 dX11_groups_57 rfl rfl F_Encores_87 sg_0 rfl (Nat.le_of_ble_eq_true rfl) rfl rfl ?_
        refine ok_callVi (np := 0) (M' := m_X7_all) (As := []) (st := [.int 12, .int ((1 : Int32) <<< (s5_21 &&& 31)), .ref 121]) 63 dX11_groups_60 rfl rfl km_X7_all ki_X7_all kv_X7_all ml_Encores_326 (by decide) sg_121 rfl (Nat.le_of_ble_eq_true rfl) rfl rfl rfl (Nat.le_of_ble_eq_true rfl) (c_X7_all N (d + 1) m_40) ⟨Nat.le_refl _, Nat.le_refl _⟩ (Or.inl rfl) rfl (fun r_60 m_60 _ => ?_)
        refine ok_callVi (np := 3) (M' := m_X7_reached) (As := [.int ((1 : Int32) <<< (s5_21 &&& 31)), .int 12, .int r_60]) (st := []) 66 dX11_groups_63 rfl rfl km_X7_reached ki_X7_reached kv_X7_reached ml_Encores_329 (by decide) sg_121 rfl (Nat.le_of_ble_eq_true rfl) rfl rfl rfl (Nat.le_of_ble_eq_true rfl) (c_X7_reached N (d + 0) ((1 : Int32) <<< (s5_21 &&& 31)) 12 r_60 m_60) ⟨Nat.le_refl _, Nat.le_refl _⟩ (Or.inl rfl) rfl (fun r_63 m_63 _ => ?_)
        refine ok_istore 68 6 [some (.ref 0), some (.int a1), some (.int s2_21), some (.int s3_21), some (.int s4_21), some (.int s5_21), some (.int r_63)] dX11_groups_66 rfl (by decide) rfl ?_
        refine ok_iload 70 4 dX11_groups_68 rfl rfl ?_
        refine ok_iload 72 6 dX11_groups_70 rfl rfl ?_
        refine ok_ior 73 dX11_groups_72 rfl ?_
        refine ok_bndI (fun a4_73 => ?_)
        refine ok_istore 75 4 [some (.ref 0), some (.int a1), some (.int s2_21), some (.int s3_21), some (.int a4_73), some (.int s5_21), some (.int r_63)] dX11_groups_73 rfl (by decide) rfl ?_
        refine ok_iinc 78 2 1 [some (.ref 0), some (.int a1), some (.int (s2_21 + 1)), some (.int s3_21), some (.int a4_73), some (.int s5_21), some (.int r_63)] dX11_groups_75 rfl rfl rfl (by decide) rfl ?_
        refine ok_iload 80 6 dX11_groups_78 rfl rfl ?_
        refine ok_callSi (np := 1) (M' := m_J6_bitCount_0f7a4) (As := [.int r_63]) (st := []) 83 dX11_groups_80 rfl rfl km_J6_bitCount_0f7a4 ks_J6_bitCount_0f7a4 ml_Encores_273 (by decide) rfl rfl (Nat.le_of_ble_eq_true rfl) (c_J6_bitCount_0f7a4 N (d + 1) r_63 m_63) ⟨Nat.le_refl _, Nat.le_refl _⟩ (Or.inl rfl) rfl (fun r_80 m_80 _ => ?_)
        refine ok_iload_n 84 3 dX11_groups_83 rfl rfl rfl ?_
        refine ok_callSi (np := 1) (M' := m_J6_bitCount_0f7a4) (As := [.int s3_21]) (st := [.int r_80]) 87 dX11_groups_84 rfl rfl km_J6_bitCount_0f7a4 ks_J6_bitCount_0f7a4 ml_Encores_273 (by decide) rfl rfl (Nat.le_of_ble_eq_true rfl) (c_J6_bitCount_0f7a4 N (d + 1) s3_21 m_80) ⟨Nat.le_refl _, Nat.le_refl _⟩ (Or.inl rfl) rfl (fun r_84 m_84 _ => ?_)
        refine ok_icmp_le 93 90 dX11_groups_87 (by decide) rfl (fun _ => ?_) (fun _ => ?_)
        · refine ok_iinc 96 5 1 [some (.ref 0), some (.int a1), some (.int (s2_21 + 1)), some (.int s3_21), some (.int a4_73), some (.int (s5_21 + 1)), some (.int r_63)] dX11_groups_93 rfl rfl rfl (by decide) rfl ?_
          refine ok_goto 21 dX11_groups_96 (by decide) ?_
          exact ok_less [some (.ref 0), some (.int a1), some (.int (s2_21 + 1)), some (.int s3_21), some (.int a4_73), some (.int (s5_21 + 1)), none] (And.intro rfl (And.intro rfl (And.intro rfl (And.intro rfl (And.intro rfl (And.intro rfl (trivial))))))) (hX (s2_21 + 1) s3_21 a4_73 (s5_21 + 1) m_84)
        · refine ok_iload 92 6 dX11_groups_90 rfl rfl ?_
          refine ok_istore_n 93 3 [some (.ref 0), some (.int a1), some (.int (s2_21 + 1)), some (.int r_63), some (.int a4_73), some (.int s5_21), some (.int r_63)] dX11_groups_92 rfl rfl (by decide) rfl ?_
          refine ok_iinc 96 5 1 [some (.ref 0), some (.int a1), some (.int (s2_21 + 1)), some (.int r_63), some (.int a4_73), some (.int (s5_21 + 1)), some (.int r_63)] dX11_groups_93 rfl rfl rfl (by decide) rfl ?_
          refine ok_goto 21 dX11_groups_96 (by decide) ?_
          exact ok_less [some (.ref 0), some (.int a1), some (.int (s2_21 + 1)), some (.int r_63), some (.int a4_73), some (.int (s5_21 + 1)), none] (And.intro rfl (And.intro rfl (And.intro rfl (And.intro rfl (And.intro rfl (And.intro rfl (trivial))))))) (hX (s2_21 + 1) r_63 a4_73 (s5_21 + 1) m_84))

set_option maxRecDepth 100000 in
set_option maxHeartbeats 4000000 in
theorem ok_X11_groups (N d : Nat) (a1 : Int32)  (m : Mem) : Ok none SG (d + 2) m_X11_groups 0 [some (.ref 0), some (.int a1), none, none, none, none, none] [] SG m (f_X11_groups N a1 m) := by
  unfold f_X11_groups
  refine ok_iload_n 1 1 dX11_groups_0 rfl rfl rfl ?_
  refine ok_iconst 2 0 dX11_groups_1 rfl rfl ?_
  refine ok_iconst 3 1 dX11_groups_2 rfl rfl ?_
  refine ok_callSi (np := 3) (M' := m_X11_within) (As := [.int a1, .int 0, .int 1]) (st := []) 6 dX11_groups_3 rfl rfl km_X11_within ks_X11_within ml_Encores_109 (by decide) rfl rfl (Nat.le_of_ble_eq_true rfl) (c_X11_within N (d + 1) a1 0 1 m) ⟨Nat.le_refl _, Nat.le_refl _⟩ (Or.inl rfl) rfl (fun r_3 m_3 _ => ?_)
  refine ok_if_ne 11 9 dX11_groups_6 (by decide) rfl (fun _ => ?_) (fun _ => ?_)
  · refine ok_iconst 12 0 dX11_groups_11 rfl rfl ?_
    refine ok_istore_n 13 2 [some (.ref 0), some (.int a1), some (.int 0), none, none, none, none] dX11_groups_12 rfl rfl (by decide) rfl ?_
    refine ok_iconst 14 0 dX11_groups_13 rfl rfl ?_
    refine ok_istore_n 15 3 [some (.ref 0), some (.int a1), some (.int 0), some (.int 0), none, none, none] dX11_groups_14 rfl rfl (by decide) rfl ?_
    refine ok_iconst 16 0 dX11_groups_15 rfl rfl ?_
    refine ok_istore 18 4 [some (.ref 0), some (.int a1), some (.int 0), some (.int 0), some (.int 0), none, none] dX11_groups_16 rfl (by decide) rfl ?_
    refine ok_iconst 19 0 dX11_groups_18 rfl rfl ?_
    refine ok_istore 21 5 [some (.ref 0), some (.int a1), some (.int 0), some (.int 0), some (.int 0), some (.int 0), none] dX11_groups_19 rfl (by decide) rfl ?_
    refine ok_less [some (.ref 0), some (.int a1), some (.int 0), some (.int 0), some (.int 0), some (.int 0), none] (And.intro rfl (And.intro rfl (And.intro rfl (And.intro rfl (And.intro rfl (And.intro rfl (trivial))))))) ?_
    exact ok_X11_groups_L21 N d a1    N 0 0 0 0 m_3
  · refine ok_iconst 10 (-1) dX11_groups_9 rfl rfl ?_
    exact ok_iret dX11_groups_10 rfl

theorem c_X11_groups (N d : Nat) (a1 : Int32)  (m : Mem) : CM (d + 2) m_X11_groups SG SG [.ref 0, .int a1] m (f_X11_groups N a1 m) :=
  CM.ofOk km_X11_groups ⟨Nat.le_refl _, Nat.le_refl _⟩ (by simp [Value.category]) (Nat.le_of_ble_eq_true rfl) (ok_X11_groups N d a1 m)

def f_X11_means (N : Nat) (a1 : Int32) (a2 : Int32) (m : Mem) : Ans :=
bd (f_X11_within N a1 0 9 m) fun r_4 m_4 =>
if r_4 = 0 then (some (0, m_4))
else (bd (f_X11_within N a2 0 9 m_4) fun r_14 m_14 =>
if r_14 = 0 then (some (0, m_14))
else (bd (f_X9_put N 23 a1 0 a2 m_14) fun _ m_32 =>
some (1, m_32)))

set_option maxRecDepth 100000 in
set_option maxHeartbeats 4000000 in
theorem ok_X11_means (N d : Nat) (a1 : Int32) (a2 : Int32)  (m : Mem) : Ok none SG (d + 1) m_X11_means 0 [some (.ref 0), some (.int a1), some (.int a2)] [] SG m (f_X11_means N a1 a2 m) := by
  unfold f_X11_means
  refine ok_iload_n 1 1 dX11_means_0 rfl rfl rfl ?_
  refine ok_iconst 2 0 dX11_means_1 rfl rfl ?_
  refine ok_bipush 4 9 dX11_means_2 rfl rfl ?_
  refine ok_callSi (np := 3) (M' := m_X11_within) (As := [.int a1, .int 0, .int 9]) (st := []) 7 dX11_means_4 rfl rfl km_X11_within ks_X11_within ml_Encores_109 (by decide) rfl rfl (Nat.le_of_ble_eq_true rfl) (c_X11_within N (d + 0) a1 0 9 m) ⟨Nat.le_refl _, Nat.le_refl _⟩ (Or.inl rfl) rfl (fun r_4 m_4 _ => ?_)
  refine ok_if_eq 20 10 dX11_means_7 (by decide) rfl (fun _ => ?_) (fun _ => ?_)
  · refine ok_iconst 21 0 dX11_means_20 rfl rfl ?_
    exact ok_zretc dX11_means_21 rfl rfl
  · refine ok_iload_n 11 2 dX11_means_10 rfl rfl rfl ?_
    refine ok_iconst 12 0 dX11_means_11 rfl rfl ?_
    refine ok_bipush 14 9 dX11_means_12 rfl rfl ?_
    refine ok_callSi (np := 3) (M' := m_X11_within) (As := [.int a2, .int 0, .int 9]) (st := []) 17 dX11_means_14 rfl rfl km_X11_within ks_X11_within ml_Encores_109 (by decide) rfl rfl (Nat.le_of_ble_eq_true rfl) (c_X11_within N (d + 0) a2 0 9 m_4) ⟨Nat.le_refl _, Nat.le_refl _⟩ (Or.inl rfl) rfl (fun r_14 m_14 _ => ?_)
    refine ok_if_ne 22 20 dX11_means_17 (by decide) rfl (fun _ => ?_) (fun _ => ?_)
    · refine ok_aload_n 23 0 dX11_means_22 rfl rfl rfl ?_
      refine ok_getR 26 dX11_means_23 rfl rfl F_Encores_16 sg_0 rfl (Nat.le_of_ble_eq_true rfl) rfl rfl ?_
      refine ok_getR 29 dX11_means_26 rfl rfl F_Encores_335 sg_2 rfl (Nat.le_of_ble_eq_true rfl) rfl rfl ?_
      refine ok_iload_n 30 1 dX11_means_29 rfl rfl rfl ?_
      refine ok_iconst 31 0 dX11_means_30 rfl rfl ?_
      refine ok_iload_n 32 2 dX11_means_31 rfl rfl rfl ?_
      refine ok_callVv (np := 3) (M' := m_X9_put) (As := [.int a1, .int 0, .int a2]) (st := []) 35 dX11_means_32 rfl rfl km_X9_put ki_X9_put kv_X9_put ml_Encores_127 (by decide) sg_23 rfl (Nat.le_of_ble_eq_true rfl) rfl rfl rfl (Nat.le_of_ble_eq_true rfl) (c_X9_put N (d + 0) 23 a1 0 a2 tg_23 m_14) ⟨Nat.le_refl _, Nat.le_refl _⟩ (Or.inl rfl) rfl (fun _ m_32 _ => ?_)
      refine ok_iconst 36 1 dX11_means_35 rfl rfl ?_
      exact ok_zretc dX11_means_36 rfl rfl
    · refine ok_iconst 21 0 dX11_means_20 rfl rfl ?_
      exact ok_zretc dX11_means_21 rfl rfl

theorem c_X11_means (N d : Nat) (a1 : Int32) (a2 : Int32)  (m : Mem) : CM (d + 1) m_X11_means SG SG [.ref 0, .int a1, .int a2] m (f_X11_means N a1 a2 m) :=
  CM.ofOk km_X11_means ⟨Nat.le_refl _, Nat.le_refl _⟩ (by simp [Value.category]) (Nat.le_of_ble_eq_true rfl) (ok_X11_means N d a1 a2 m)

def f_X11_meaningBehind_L5 (N : Nat) (a1 : Int32) (a2 : Int32)   (X : Int32 → Int32 → Mem → Ans) (s3_5 : Int32) (s4_5 : Int32) (m : Mem) : Ans :=
if a2 ≤ s4_5 then (some (s3_5, m))
else (bd (f_X9_at N 23 s3_5 0 m) fun r_20 m_20 =>
X r_20 (s4_5 + 1) m_20)

def f_X11_meaningBehind (N : Nat) (a1 : Int32) (a2 : Int32) (m : Mem) : Ans :=
it2 (f_X11_meaningBehind_L5 N a1 a2 ) N a1 0 m

set_option maxRecDepth 100000 in
set_option maxHeartbeats 4000000 in
theorem ok_X11_meaningBehind_L5 (N d : Nat) (a1 : Int32) (a2 : Int32)    : ∀ (n : Nat) (s3_5 : Int32) (s4_5 : Int32) (m : Mem), Ok none SG (d + 1) m_X11_meaningBehind 5 [some (.ref 0), none, some (.int a2), some (.int s3_5), some (.int s4_5)] [] SG m (it2 (f_X11_meaningBehind_L5 N a1 a2) n s3_5 s4_5 m) :=
  ok_it2 (fun s3_5 s4_5 => [some (.ref 0), none, some (.int a2), some (.int s3_5), some (.int s4_5)]) (fun X hX s3_5 s4_5 m => by
    try unfold f_X11_meaningBehind_L5
    refine ok_iload 7 4 dX11_meaningBehind_5 rfl rfl ?_
    refine ok_iload_n 8 2 dX11_meaningBehind_7 rfl rfl rfl ?_
    refine ok_icmp_ge 30 11 dX11_meaningBehind_8 (by decide) rfl (fun _ => ?_) (fun _ => ?_)
    · refine ok_iload_n 31 3 dX11_meaningBehind_30 rfl rfl rfl ?_
      exact ok_iret dX11_meaningBehind_31 rfl
    · refine ok_aload_n 12 0 dX11_meaningBehind_11 rfl rfl rfl ?_
      refine ok_getR 15 dX11_meaningBehind_12 rfl rfl F_Encores_16 sg_0 rfl (Nat.le_of_ble_eq_true rfl) rfl rfl ?_
      refine ok_getR 18 dX11_meaningBehind_15 rfl rfl F_Encores_335 sg_2 rfl (Nat.le_of_ble_eq_true rfl) rfl rfl ?_
      refine ok_iload_n 19 3 dX11_meaningBehind_18 rfl rfl rfl ?_
      refine ok_iconst 20 0 dX11_meaningBehind_19 rfl rfl ?_
      refine ok_callVi (np := 2) (M' := m_X9_at) (As := [.int s3_5, .int 0]) (st := []) 23 dX11_meaningBehind_20 rfl rfl km_X9_at ki_X9_at kv_X9_at ml_Encores_142 (by decide) sg_23 rfl (Nat.le_of_ble_eq_true rfl) rfl rfl rfl (Nat.le_of_ble_eq_true rfl) (c_X9_at N (d + 0) 23 s3_5 0 tg_23 m) ⟨Nat.le_refl _, Nat.le_refl _⟩ (Or.inl rfl) rfl (fun r_20 m_20 _ => ?_)
      refine ok_istore_n 24 3 [some (.ref 0), none, some (.int a2), some (.int r_20), some (.int s4_5)] dX11_meaningBehind_23 rfl rfl (by decide) rfl ?_
      refine ok_iinc 27 4 1 [some (.ref 0), none, some (.int a2), some (.int r_20), some (.int (s4_5 + 1))] dX11_meaningBehind_24 rfl rfl rfl (by decide) rfl ?_
      refine ok_goto 5 dX11_meaningBehind_27 (by decide) ?_
      exact ok_less [some (.ref 0), none, some (.int a2), some (.int r_20), some (.int (s4_5 + 1))] (And.intro rfl (And.intro rfl (And.intro rfl (And.intro rfl (trivial))))) (hX r_20 (s4_5 + 1) m_20))

set_option maxRecDepth 100000 in
set_option maxHeartbeats 4000000 in
theorem ok_X11_meaningBehind (N d : Nat) (a1 : Int32) (a2 : Int32)  (m : Mem) : Ok none SG (d + 1) m_X11_meaningBehind 0 [some (.ref 0), some (.int a1), some (.int a2), none, none] [] SG m (f_X11_meaningBehind N a1 a2 m) := by
  unfold f_X11_meaningBehind
  refine ok_iload_n 1 1 dX11_meaningBehind_0 rfl rfl rfl ?_
  refine ok_istore_n 2 3 [some (.ref 0), some (.int a1), some (.int a2), some (.int a1), none] dX11_meaningBehind_1 rfl rfl (by decide) rfl ?_
  refine ok_iconst 3 0 dX11_meaningBehind_2 rfl rfl ?_
  refine ok_istore 5 4 [some (.ref 0), some (.int a1), some (.int a2), some (.int a1), some (.int 0)] dX11_meaningBehind_3 rfl (by decide) rfl ?_
  refine ok_less [some (.ref 0), none, some (.int a2), some (.int a1), some (.int 0)] (And.intro rfl (And.intro rfl (And.intro rfl (And.intro rfl (trivial))))) ?_
  exact ok_X11_meaningBehind_L5 N d a1 a2    N a1 0 m

theorem c_X11_meaningBehind (N d : Nat) (a1 : Int32) (a2 : Int32)  (m : Mem) : CM (d + 1) m_X11_meaningBehind SG SG [.ref 0, .int a1, .int a2] m (f_X11_meaningBehind N a1 a2 m) :=
  CM.ofOk km_X11_meaningBehind ⟨Nat.le_refl _, Nat.le_refl _⟩ (by simp [Value.category]) (Nat.le_of_ble_eq_true rfl) (ok_X11_meaningBehind N d a1 a2 m)

def f_X11_timesRound_L15 (N : Nat) (a1 : Int32)   (X : Int32 → Int32 → Mem → Ans) (s2_15 : Int32) (s3_15 : Int32) (m : Mem) : Ans :=
if (10 : Int32) ≤ s3_15 then (some (s3_15, m))
else (if s2_15 = a1 then (some (s3_15, m))
else (bd (f_X9_at N 23 s2_15 0 m) fun r_35 m_35 =>
X r_35 (s3_15 + 1) m_35))

def f_X11_timesRound (N : Nat) (a1 : Int32) (m : Mem) : Ans :=
bd (f_X9_at N 23 a1 0 m) fun r_9 m_9 =>
it2 (f_X11_timesRound_L15 N a1 ) N r_9 1 m_9

set_option maxRecDepth 100000 in
set_option maxHeartbeats 4000000 in
theorem ok_X11_timesRound_L15 (N d : Nat) (a1 : Int32)    : ∀ (n : Nat) (s2_15 : Int32) (s3_15 : Int32) (m : Mem), Ok none SG (d + 1) m_X11_timesRound 15 [some (.ref 0), some (.int a1), some (.int s2_15), some (.int s3_15)] [] SG m (it2 (f_X11_timesRound_L15 N a1) n s2_15 s3_15 m) :=
  ok_it2 (fun s2_15 s3_15 => [some (.ref 0), some (.int a1), some (.int s2_15), some (.int s3_15)]) (fun X hX s2_15 s3_15 m => by
    try unfold f_X11_timesRound_L15
    refine ok_iload_n 16 3 dX11_timesRound_15 rfl rfl rfl ?_
    refine ok_bipush 18 10 dX11_timesRound_16 rfl rfl ?_
    refine ok_icmp_ge 45 21 dX11_timesRound_18 (by decide) rfl (fun _ => ?_) (fun _ => ?_)
    · refine ok_iload_n 46 3 dX11_timesRound_45 rfl rfl rfl ?_
      exact ok_iret dX11_timesRound_46 rfl
    · refine ok_iload_n 22 2 dX11_timesRound_21 rfl rfl rfl ?_
      refine ok_iload_n 23 1 dX11_timesRound_22 rfl rfl rfl ?_
      refine ok_icmp_eq 45 26 dX11_timesRound_23 (by decide) rfl (fun _ => ?_) (fun _ => ?_)
      · refine ok_iload_n 46 3 dX11_timesRound_45 rfl rfl rfl ?_
        exact ok_iret dX11_timesRound_46 rfl
      · refine ok_aload_n 27 0 dX11_timesRound_26 rfl rfl rfl ?_
        refine ok_getR 30 dX11_timesRound_27 rfl rfl F_Encores_16 sg_0 rfl (Nat.le_of_ble_eq_true rfl) rfl rfl ?_
        refine ok_getR 33 dX11_timesRound_30 rfl rfl F_Encores_335 sg_2 rfl (Nat.le_of_ble_eq_true rfl) rfl rfl ?_
        refine ok_iload_n 34 2 dX11_timesRound_33 rfl rfl rfl ?_
        refine ok_iconst 35 0 dX11_timesRound_34 rfl rfl ?_
        refine ok_callVi (np := 2) (M' := m_X9_at) (As := [.int s2_15, .int 0]) (st := []) 38 dX11_timesRound_35 rfl rfl km_X9_at ki_X9_at kv_X9_at ml_Encores_142 (by decide) sg_23 rfl (Nat.le_of_ble_eq_true rfl) rfl rfl rfl (Nat.le_of_ble_eq_true rfl) (c_X9_at N (d + 0) 23 s2_15 0 tg_23 m) ⟨Nat.le_refl _, Nat.le_refl _⟩ (Or.inl rfl) rfl (fun r_35 m_35 _ => ?_)
        refine ok_istore_n 39 2 [some (.ref 0), some (.int a1), some (.int r_35), some (.int s3_15)] dX11_timesRound_38 rfl rfl (by decide) rfl ?_
        refine ok_iinc 42 3 1 [some (.ref 0), some (.int a1), some (.int r_35), some (.int (s3_15 + 1))] dX11_timesRound_39 rfl rfl rfl (by decide) rfl ?_
        refine ok_goto 15 dX11_timesRound_42 (by decide) ?_
        exact ok_less [some (.ref 0), some (.int a1), some (.int r_35), some (.int (s3_15 + 1))] (And.intro rfl (And.intro rfl (And.intro rfl (And.intro rfl (trivial))))) (hX r_35 (s3_15 + 1) m_35))

set_option maxRecDepth 100000 in
set_option maxHeartbeats 4000000 in
theorem ok_X11_timesRound (N d : Nat) (a1 : Int32)  (m : Mem) : Ok none SG (d + 1) m_X11_timesRound 0 [some (.ref 0), some (.int a1), none, none] [] SG m (f_X11_timesRound N a1 m) := by
  unfold f_X11_timesRound
  refine ok_aload_n 1 0 dX11_timesRound_0 rfl rfl rfl ?_
  refine ok_getR 4 dX11_timesRound_1 rfl rfl F_Encores_16 sg_0 rfl (Nat.le_of_ble_eq_true rfl) rfl rfl ?_
  refine ok_getR 7 dX11_timesRound_4 rfl rfl F_Encores_335 sg_2 rfl (Nat.le_of_ble_eq_true rfl) rfl rfl ?_
  refine ok_iload_n 8 1 dX11_timesRound_7 rfl rfl rfl ?_
  refine ok_iconst 9 0 dX11_timesRound_8 rfl rfl ?_
  refine ok_callVi (np := 2) (M' := m_X9_at) (As := [.int a1, .int 0]) (st := []) 12 dX11_timesRound_9 rfl rfl km_X9_at ki_X9_at kv_X9_at ml_Encores_142 (by decide) sg_23 rfl (Nat.le_of_ble_eq_true rfl) rfl rfl rfl (Nat.le_of_ble_eq_true rfl) (c_X9_at N (d + 0) 23 a1 0 tg_23 m) ⟨Nat.le_refl _, Nat.le_refl _⟩ (Or.inl rfl) rfl (fun r_9 m_9 _ => ?_)
  refine ok_istore_n 13 2 [some (.ref 0), some (.int a1), some (.int r_9), none] dX11_timesRound_12 rfl rfl (by decide) rfl ?_
  refine ok_iconst 14 1 dX11_timesRound_13 rfl rfl ?_
  refine ok_istore_n 15 3 [some (.ref 0), some (.int a1), some (.int r_9), some (.int 1)] dX11_timesRound_14 rfl rfl (by decide) rfl ?_
  refine ok_less [some (.ref 0), some (.int a1), some (.int r_9), some (.int 1)] (And.intro rfl (And.intro rfl (And.intro rfl (And.intro rfl (trivial))))) ?_
  exact ok_X11_timesRound_L15 N d a1    N r_9 1 m_9

theorem c_X11_timesRound (N d : Nat) (a1 : Int32)  (m : Mem) : CM (d + 1) m_X11_timesRound SG SG [.ref 0, .int a1] m (f_X11_timesRound N a1 m) :=
  CM.ofOk km_X11_timesRound ⟨Nat.le_refl _, Nat.le_refl _⟩ (by simp [Value.category]) (Nat.le_of_ble_eq_true rfl) (ok_X11_timesRound N d a1 m)

def f_X11_passed_L56 (N : Nat) (a1 : Int32) (a2 : Int32) (a3 : Int32)   (X : Int32 → Int32 → Int32 → Mem → Ans) (s4_56 : Int32) (s5_56 : Int32) (s6_56 : Int32) (m : Mem) : Ans :=
if (10 : Int32) ≤ s6_56 then (if a3 = (1 : Int32) then (some (s6_56, m))
else (bd (f_X11_timesRound N s5_56 m) fun r_116 m_116 =>
some (r_116, m_116)))
else (bd (f_X11_isIn N s5_56 s4_56 m) fun r_67 m_67 =>
if r_67 = 0 then (bnd (s4_56 ||| ((1 : Int32) <<< (s5_56 &&& 31))) fun a4_80 =>
bd (f_X9_at N 23 s5_56 0 m_67) fun r_92 m_92 =>
X a4_80 r_92 (s6_56 + 1) m_92)
else (if a3 = (1 : Int32) then (some (s6_56, m_67))
else (bd (f_X11_timesRound N s5_56 m_67) fun r_116 m_116 =>
some (r_116, m_116))))

def f_X11_passed_J36 (N : Nat) (a1 : Int32) (a2 : Int32) (a3 : Int32)    (m : Mem) : Ans :=
if a3 = 0 then (bd (f_X11_meaningBehind N a1 a2 m) fun r_43 m_43 =>
some (r_43, m_43))
else (it3 (f_X11_passed_L56 N a1 a2 a3 ) N 0 a1 0 m)

def f_X11_passed (N : Nat) (a1 : Int32) (a2 : Int32) (a3 : Int32) (m : Mem) : Ans :=
bd (f_X11_within N a1 0 9 m) fun r_4 m_4 =>
if r_4 = 0 then (some ((-1), m_4))
else (bd (f_X11_within N a3 0 2 m_4) fun r_13 m_13 =>
if r_13 = 0 then (some ((-1), m_13))
else (if a3 = 0 then (bd (f_X11_within N a2 0 9999 m_13) fun r_28 m_28 =>
if r_28 = 0 then (some ((-1), m_28))
else (f_X11_passed_J36 N a1 a2 a3 m_28))
else (f_X11_passed_J36 N a1 a2 a3 m_13)))

set_option maxRecDepth 100000 in
set_option maxHeartbeats 4000000 in
theorem ok_X11_passed_L56 (N d : Nat) (a1 : Int32) (a2 : Int32) (a3 : Int32)    : ∀ (n : Nat) (s4_56 : Int32) (s5_56 : Int32) (s6_56 : Int32) (m : Mem), Ok none SG (d + 2) m_X11_passed 56 [some (.ref 0), none, none, some (.int a3), some (.int s4_56), some (.int s5_56), some (.int s6_56)] [] SG m (it3 (f_X11_passed_L56 N a1 a2 a3) n s4_56 s5_56 s6_56 m) :=
  ok_it3 (fun s4_56 s5_56 s6_56 => [some (.ref 0), none, none, some (.int a3), some (.int s4_56), some (.int s5_56), some (.int s6_56)]) (fun X hX s4_56 s5_56 s6_56 m => by
    try unfold f_X11_passed_L56
    refine ok_iload 58 6 dX11_passed_56 rfl rfl ?_
    refine ok_bipush 60 10 dX11_passed_58 rfl rfl ?_
    refine ok_icmp_ge 103 63 dX11_passed_60 (by decide) rfl (fun _ => ?_) (fun _ => ?_)
    · refine ok_iload_n 104 3 dX11_passed_103 rfl rfl rfl ?_
      refine ok_iconst 105 1 dX11_passed_104 rfl rfl ?_
      refine ok_icmp_ne 113 108 dX11_passed_105 (by decide) rfl (fun _ => ?_) (fun _ => ?_)
      · refine ok_aload_n 114 0 dX11_passed_113 rfl rfl rfl ?_
        refine ok_iload 116 5 dX11_passed_114 rfl rfl ?_
        refine ok_callVi (np := 1) (M' := m_X11_timesRound) (As := [.int s5_56]) (st := []) 119 dX11_passed_116 rfl rfl km_X11_timesRound ki_X11_timesRound kv_X11_timesRound ml_Encores_341 (by decide) sg_0 rfl (Nat.le_of_ble_eq_true rfl) rfl rfl rfl (Nat.le_of_ble_eq_true rfl) (c_X11_timesRound N (d + 0) s5_56 m) ⟨Nat.le_refl _, Nat.le_refl _⟩ (Or.inl rfl) rfl (fun r_116 m_116 _ => ?_)
        exact ok_iret dX11_passed_119 rfl
      · refine ok_iload 110 6 dX11_passed_108 rfl rfl ?_
        refine ok_goto 119 dX11_passed_110 (by decide) ?_
        exact ok_iret dX11_passed_119 rfl
    · refine ok_iload 65 5 dX11_passed_63 rfl rfl ?_
      refine ok_iload 67 4 dX11_passed_65 rfl rfl ?_
      refine ok_callSi (np := 2) (M' := m_X11_isIn) (As := [.int s5_56, .int s4_56]) (st := []) 70 dX11_passed_67 rfl rfl km_X11_isIn ks_X11_isIn ml_Encores_278 (by decide) rfl rfl (Nat.le_of_ble_eq_true rfl) (c_X11_isIn N (d + 1) s5_56 s4_56 m) ⟨Nat.le_refl _, Nat.le_refl _⟩ (Or.inl rfl) rfl (fun r_67 m_67 _ => ?_)
      refine ok_if_ne 103 73 dX11_passed_70 (by decide) rfl (fun _ => ?_) (fun _ => ?_)
      · refine ok_iload_n 104 3 dX11_passed_103 rfl rfl rfl ?_
        refine ok_iconst 105 1 dX11_passed_104 rfl rfl ?_
        refine ok_icmp_ne 113 108 dX11_passed_105 (by decide) rfl (fun _ => ?_) (fun _ => ?_)
        · refine ok_aload_n 114 0 dX11_passed_113 rfl rfl rfl ?_
          refine ok_iload 116 5 dX11_passed_114 rfl rfl ?_
          refine ok_callVi (np := 1) (M' := m_X11_timesRound) (As := [.int s5_56]) (st := []) 119 dX11_passed_116 rfl rfl km_X11_timesRound ki_X11_timesRound kv_X11_timesRound ml_Encores_341 (by decide) sg_0 rfl (Nat.le_of_ble_eq_true rfl) rfl rfl rfl (Nat.le_of_ble_eq_true rfl) (c_X11_timesRound N (d + 0) s5_56 m_67) ⟨Nat.le_refl _, Nat.le_refl _⟩ (Or.inl rfl) rfl (fun r_116 m_116 _ => ?_)
          exact ok_iret dX11_passed_119 rfl
        · refine ok_iload 110 6 dX11_passed_108 rfl rfl ?_
          refine ok_goto 119 dX11_passed_110 (by decide) ?_
          exact ok_iret dX11_passed_119 rfl
      · refine ok_iload 75 4 dX11_passed_73 rfl rfl ?_
        refine ok_iconst 76 1 dX11_passed_75 rfl rfl ?_
        refine ok_iload 78 5 dX11_passed_76 rfl rfl ?_
        refine ok_ishl 79 dX11_passed_78 rfl ?_
        refine ok_ior 80 dX11_passed_79 rfl ?_
        refine ok_bndI (fun a4_80 => ?_)
        refine ok_istore 82 4 [some (.ref 0), none, none, some (.int a3), some (.int a4_80), some (.int s5_56), some (.int s6_56)] dX11_passed_80 rfl (by decide) rfl ?_
        refine ok_aload_n 83 0 dX11_passed_82 rfl rfl rfl ?_
        refine ok_getR 86 dX11_passed_83 rfl rfl F_Encores_16 sg_0 rfl (Nat.le_of_ble_eq_true rfl) rfl rfl ?_
        refine ok_getR 89 dX11_passed_86 rfl rfl F_Encores_335 sg_2 rfl (Nat.le_of_ble_eq_true rfl) rfl rfl ?_
        refine ok_iload 91 5 dX11_passed_89 rfl rfl ?_
        refine ok_iconst 92 0 dX11_passed_91 rfl rfl ?_
        refine ok_callVi (np := 2) (M' := m_X9_at) (As := [.int s5_56, .int 0]) (st := []) 95 dX11_passed_92 rfl rfl km_X9_at ki_X9_at kv_X9_at ml_Encores_142 (by decide) sg_23 rfl (Nat.le_of_ble_eq_true rfl) rfl rfl rfl (Nat.le_of_ble_eq_true rfl) (c_X9_at N (d + 1) 23 s5_56 0 tg_23 m_67) ⟨Nat.le_refl _, Nat.le_refl _⟩ (Or.inl rfl) rfl (fun r_92 m_92 _ => ?_)
        refine ok_istore 97 5 [some (.ref 0), none, none, some (.int a3), some (.int a4_80), some (.int r_92), some (.int s6_56)] dX11_passed_95 rfl (by decide) rfl ?_
        refine ok_iinc 100 6 1 [some (.ref 0), none, none, some (.int a3), some (.int a4_80), some (.int r_92), some (.int (s6_56 + 1))] dX11_passed_97 rfl rfl rfl (by decide) rfl ?_
        refine ok_goto 56 dX11_passed_100 (by decide) ?_
        exact ok_less [some (.ref 0), none, none, some (.int a3), some (.int a4_80), some (.int r_92), some (.int (s6_56 + 1))] (And.intro rfl (And.intro rfl (And.intro rfl (And.intro rfl (And.intro rfl (trivial)))))) (hX a4_80 r_92 (s6_56 + 1) m_92))

set_option maxRecDepth 100000 in
set_option maxHeartbeats 4000000 in
theorem ok_X11_passed_J36 (N d : Nat) (a1 : Int32) (a2 : Int32) (a3 : Int32)     (m : Mem) : Ok none SG (d + 2) m_X11_passed 36 [some (.ref 0), some (.int a1), some (.int a2), some (.int a3), none, none, none] [] SG m (f_X11_passed_J36 N a1 a2 a3 m) := by
  unfold f_X11_passed_J36
  refine ok_iload_n 37 3 dX11_passed_36 rfl rfl rfl ?_
  refine ok_if_ne 47 40 dX11_passed_37 (by decide) rfl (fun _ => ?_) (fun _ => ?_)
  · refine ok_iconst 48 0 dX11_passed_47 rfl rfl ?_
    refine ok_istore 50 4 [some (.ref 0), some (.int a1), some (.int a2), some (.int a3), some (.int 0), none, none] dX11_passed_48 rfl (by decide) rfl ?_
    refine ok_iload_n 51 1 dX11_passed_50 rfl rfl rfl ?_
    refine ok_istore 53 5 [some (.ref 0), some (.int a1), some (.int a2), some (.int a3), some (.int 0), some (.int a1), none] dX11_passed_51 rfl (by decide) rfl ?_
    refine ok_iconst 54 0 dX11_passed_53 rfl rfl ?_
    refine ok_istore 56 6 [some (.ref 0), some (.int a1), some (.int a2), some (.int a3), some (.int 0), some (.int a1), some (.int 0)] dX11_passed_54 rfl (by decide) rfl ?_
    refine ok_less [some (.ref 0), none, none, some (.int a3), some (.int 0), some (.int a1), some (.int 0)] (And.intro rfl (And.intro rfl (And.intro rfl (And.intro rfl (And.intro rfl (trivial)))))) ?_
    exact ok_X11_passed_L56 N d a1 a2 a3    N 0 a1 0 m
  · refine ok_aload_n 41 0 dX11_passed_40 rfl rfl rfl ?_
    refine ok_iload_n 42 1 dX11_passed_41 rfl rfl rfl ?_
    refine ok_iload_n 43 2 dX11_passed_42 rfl rfl rfl ?_
    refine ok_callVi (np := 2) (M' := m_X11_meaningBehind) (As := [.int a1, .int a2]) (st := []) 46 dX11_passed_43 rfl rfl km_X11_meaningBehind ki_X11_meaningBehind kv_X11_meaningBehind ml_Encores_338 (by decide) sg_0 rfl (Nat.le_of_ble_eq_true rfl) rfl rfl rfl (Nat.le_of_ble_eq_true rfl) (c_X11_meaningBehind N (d + 0) a1 a2 m) ⟨Nat.le_refl _, Nat.le_refl _⟩ (Or.inl rfl) rfl (fun r_43 m_43 _ => ?_)
    exact ok_iret dX11_passed_46 rfl

set_option maxRecDepth 100000 in
set_option maxHeartbeats 4000000 in
theorem ok_X11_passed (N d : Nat) (a1 : Int32) (a2 : Int32) (a3 : Int32)  (m : Mem) : Ok none SG (d + 2) m_X11_passed 0 [some (.ref 0), some (.int a1), some (.int a2), some (.int a3), none, none, none] [] SG m (f_X11_passed N a1 a2 a3 m) := by
  unfold f_X11_passed
  refine ok_iload_n 1 1 dX11_passed_0 rfl rfl rfl ?_
  refine ok_iconst 2 0 dX11_passed_1 rfl rfl ?_
  refine ok_bipush 4 9 dX11_passed_2 rfl rfl ?_
  refine ok_callSi (np := 3) (M' := m_X11_within) (As := [.int a1, .int 0, .int 9]) (st := []) 7 dX11_passed_4 rfl rfl km_X11_within ks_X11_within ml_Encores_109 (by decide) rfl rfl (Nat.le_of_ble_eq_true rfl) (c_X11_within N (d + 1) a1 0 9 m) ⟨Nat.le_refl _, Nat.le_refl _⟩ (Or.inl rfl) rfl (fun r_4 m_4 _ => ?_)
  refine ok_if_eq 34 10 dX11_passed_7 (by decide) rfl (fun _ => ?_) (fun _ => ?_)
  · refine ok_iconst 35 (-1) dX11_passed_34 rfl rfl ?_
    exact ok_iret dX11_passed_35 rfl
  · refine ok_iload_n 11 3 dX11_passed_10 rfl rfl rfl ?_
    refine ok_iconst 12 0 dX11_passed_11 rfl rfl ?_
    refine ok_iconst 13 2 dX11_passed_12 rfl rfl ?_
    refine ok_callSi (np := 3) (M' := m_X11_within) (As := [.int a3, .int 0, .int 2]) (st := []) 16 dX11_passed_13 rfl rfl km_X11_within ks_X11_within ml_Encores_109 (by decide) rfl rfl (Nat.le_of_ble_eq_true rfl) (c_X11_within N (d + 1) a3 0 2 m_4) ⟨Nat.le_refl _, Nat.le_refl _⟩ (Or.inl rfl) rfl (fun r_13 m_13 _ => ?_)
    refine ok_if_eq 34 19 dX11_passed_16 (by decide) rfl (fun _ => ?_) (fun _ => ?_)
    · refine ok_iconst 35 (-1) dX11_passed_34 rfl rfl ?_
      exact ok_iret dX11_passed_35 rfl
    · refine ok_iload_n 20 3 dX11_passed_19 rfl rfl rfl ?_
      refine ok_if_ne 36 23 dX11_passed_20 (by decide) rfl (fun _ => ?_) (fun _ => ?_)
      · exact ok_less [some (.ref 0), some (.int a1), some (.int a2), some (.int a3), none, none, none] (And.intro rfl (And.intro rfl (And.intro rfl (And.intro rfl (trivial))))) (ok_X11_passed_J36 N d a1 a2 a3   m_13)
      · refine ok_iload_n 24 2 dX11_passed_23 rfl rfl rfl ?_
        refine ok_iconst 25 0 dX11_passed_24 rfl rfl ?_
        refine ok_sipush 28 9999 dX11_passed_25 rfl rfl ?_
        refine ok_callSi (np := 3) (M' := m_X11_within) (As := [.int a2, .int 0, .int 9999]) (st := []) 31 dX11_passed_28 rfl rfl km_X11_within ks_X11_within ml_Encores_109 (by decide) rfl rfl (Nat.le_of_ble_eq_true rfl) (c_X11_within N (d + 1) a2 0 9999 m_13) ⟨Nat.le_refl _, Nat.le_refl _⟩ (Or.inl rfl) rfl (fun r_28 m_28 _ => ?_)
        refine ok_if_ne 36 34 dX11_passed_31 (by decide) rfl (fun _ => ?_) (fun _ => ?_)
        · exact ok_less [some (.ref 0), some (.int a1), some (.int a2), some (.int a3), none, none, none] (And.intro rfl (And.intro rfl (And.intro rfl (And.intro rfl (trivial))))) (ok_X11_passed_J36 N d a1 a2 a3   m_28)
        · refine ok_iconst 35 (-1) dX11_passed_34 rfl rfl ?_
          exact ok_iret dX11_passed_35 rfl

theorem c_X11_passed (N d : Nat) (a1 : Int32) (a2 : Int32) (a3 : Int32)  (m : Mem) : CM (d + 2) m_X11_passed SG SG [.ref 0, .int a1, .int a2, .int a3] m (f_X11_passed N a1 a2 a3 m) :=
  CM.ofOk km_X11_passed ⟨Nat.le_refl _, Nat.le_refl _⟩ (by simp [Value.category]) (Nat.le_of_ble_eq_true rfl) (ok_X11_passed N d a1 a2 a3 m)

def f_X11_undo (N : Nat)  (m : Mem) : Ans :=
bd (f_X4_back N m) fun r_8 m_8 =>
chk (isB r_8) (some (r_8, m_8))

set_option maxRecDepth 100000 in
set_option maxHeartbeats 4000000 in
theorem ok_X11_undo (N d : Nat)   (m : Mem) : Ok none SG (d + 4) m_X11_undo 0 [some (.ref 0)] [] SG m (f_X11_undo N m) := by
  unfold f_X11_undo
  refine ok_aload_n 1 0 dX11_undo_0 rfl rfl rfl ?_
  refine ok_getR 4 dX11_undo_1 rfl rfl F_Encores_30 sg_0 rfl (Nat.le_of_ble_eq_true rfl) rfl rfl ?_
  refine ok_aload_n 5 0 dX11_undo_4 rfl rfl rfl ?_
  refine ok_getR 8 dX11_undo_5 rfl rfl F_Encores_16 sg_0 rfl (Nat.le_of_ble_eq_true rfl) rfl rfl ?_
  refine ok_callVi (np := 1) (M' := m_X4_back) (As := [.ref 2]) (st := []) 11 dX11_undo_8 rfl rfl km_X4_back ki_X4_back kv_X4_back ml_Encores_344 (by decide) sg_48 rfl (Nat.le_of_ble_eq_true rfl) rfl rfl rfl (Nat.le_of_ble_eq_true rfl) (c_X4_back N (d + 0) m) ⟨Nat.le_refl _, Nat.le_refl _⟩ (Or.inl rfl) rfl (fun r_8 m_8 _ => ?_)
  exact ok_zret dX11_undo_11 rfl

theorem c_X11_undo (N d : Nat)   (m : Mem) : CM (d + 4) m_X11_undo SG SG [.ref 0] m (f_X11_undo N m) :=
  CM.ofOk km_X11_undo ⟨Nat.le_refl _, Nat.le_refl _⟩ (by simp [Value.category]) (Nat.le_of_ble_eq_true rfl) (ok_X11_undo N d  m)

def f_X11_image (N : Nat) (a1 : Int32) (m : Mem) : Ans :=
if a1 = 0 then (if (m 0 2) = 0 then (some (0, m))
else (bd (f_X1_copy N 2 25 m) fun _ m_39 =>
bd (f_X4_forget N m_39) fun _ m_46 =>
some (1, m_46)))
else (bd (f_X1_copy N 25 2 m) fun _ m_12 =>
bnd (mset m_12 0 2 1) fun m_17 =>
some (1, m_17))

set_option maxRecDepth 100000 in
set_option maxHeartbeats 4000000 in
theorem ok_X11_image (N d : Nat) (a1 : Int32)  (m : Mem) : Ok none SG (d + 3) m_X11_image 0 [some (.ref 0), some (.int a1)] [] SG m (f_X11_image N a1 m) := by
  unfold f_X11_image
  refine ok_iload_n 1 1 dX11_image_0 rfl rfl rfl ?_
  refine ok_if_eq 22 4 dX11_image_1 (by decide) rfl (fun _ => ?_) (fun _ => ?_)
  · refine ok_aload_n 23 0 dX11_image_22 rfl rfl rfl ?_
    refine ok_getI 26 dX11_image_23 rfl rfl F_Encores_23 sg_0 rfl (Nat.le_of_ble_eq_true rfl) rfl ?_
    refine ok_if_ne 31 29 dX11_image_26 (by decide) rfl (fun _ => ?_) (fun _ => ?_)
    · refine ok_aload_n 32 0 dX11_image_31 rfl rfl rfl ?_
      refine ok_getR 35 dX11_image_32 rfl rfl F_Encores_16 sg_0 rfl (Nat.le_of_ble_eq_true rfl) rfl rfl ?_
      refine ok_aload_n 36 0 dX11_image_35 rfl rfl rfl ?_
      refine ok_getR 39 dX11_image_36 rfl rfl F_Encores_20 sg_0 rfl (Nat.le_of_ble_eq_true rfl) rfl rfl ?_
      refine ok_callVv (np := 1) (M' := m_X1_copy) (As := [.ref 25]) (st := []) 42 dX11_image_39 rfl rfl km_X1_copy ki_X1_copy kv_X1_copy ml_Encores_347 (by decide) sg_2 rfl (Nat.le_of_ble_eq_true rfl) rfl rfl rfl (Nat.le_of_ble_eq_true rfl) (c_X1_copy N (d + 0) 2 25 tg_2 tg_25 m) ⟨Nat.le_refl _, Nat.le_refl _⟩ (Or.inl rfl) rfl (fun _ m_39 _ => ?_)
      refine ok_aload_n 43 0 dX11_image_42 rfl rfl rfl ?_
      refine ok_getR 46 dX11_image_43 rfl rfl F_Encores_30 sg_0 rfl (Nat.le_of_ble_eq_true rfl) rfl rfl ?_
      refine ok_callVv (np := 0) (M' := m_X4_forget) (As := []) (st := []) 49 dX11_image_46 rfl rfl km_X4_forget ki_X4_forget kv_X4_forget ml_Encores_106 (by decide) sg_48 rfl (Nat.le_of_ble_eq_true rfl) rfl rfl rfl (Nat.le_of_ble_eq_true rfl) (c_X4_forget N (d + 2) m_39) ⟨Nat.le_refl _, Nat.le_refl _⟩ (Or.inl rfl) rfl (fun _ m_46 _ => ?_)
      refine ok_iconst 50 1 dX11_image_49 rfl rfl ?_
      exact ok_zretc dX11_image_50 rfl rfl
    · refine ok_iconst 30 0 dX11_image_29 rfl rfl ?_
      exact ok_zretc dX11_image_30 rfl rfl
  · refine ok_aload_n 5 0 dX11_image_4 rfl rfl rfl ?_
    refine ok_getR 8 dX11_image_5 rfl rfl F_Encores_20 sg_0 rfl (Nat.le_of_ble_eq_true rfl) rfl rfl ?_
    refine ok_aload_n 9 0 dX11_image_8 rfl rfl rfl ?_
    refine ok_getR 12 dX11_image_9 rfl rfl F_Encores_16 sg_0 rfl (Nat.le_of_ble_eq_true rfl) rfl rfl ?_
    refine ok_callVv (np := 1) (M' := m_X1_copy) (As := [.ref 2]) (st := []) 15 dX11_image_12 rfl rfl km_X1_copy ki_X1_copy kv_X1_copy ml_Encores_347 (by decide) sg_25 rfl (Nat.le_of_ble_eq_true rfl) rfl rfl rfl (Nat.le_of_ble_eq_true rfl) (c_X1_copy N (d + 0) 25 2 tg_25 tg_2 m) ⟨Nat.le_refl _, Nat.le_refl _⟩ (Or.inl rfl) rfl (fun _ m_12 _ => ?_)
    refine ok_aload_n 16 0 dX11_image_15 rfl rfl rfl ?_
    refine ok_iconst 17 1 dX11_image_16 rfl rfl ?_
    refine ok_putZc 20 dX11_image_17 rfl rfl F_Encores_23 sg_0 rfl (Nat.le_of_ble_eq_true rfl) rfl rfl pZ_11_2 rfl ?_
    refine ok_bndM (fun m_17 => ?_)
    refine ok_iconst 21 1 dX11_image_20 rfl rfl ?_
    exact ok_zretc dX11_image_21 rfl rfl

theorem c_X11_image (N d : Nat) (a1 : Int32)  (m : Mem) : CM (d + 3) m_X11_image SG SG [.ref 0, .int a1] m (f_X11_image N a1 m) :=
  CM.ofOk km_X11_image ⟨Nat.le_refl _, Nat.le_refl _⟩ (by simp [Value.category]) (Nat.le_of_ble_eq_true rfl) (ok_X11_image N d a1 m)

def f_X12_isIn (N : Nat) (a0 : Int32) (a1 : Int32) (a2 : Int32) (m : Mem) : Ans :=
if a0 < a1 then (some (0, m))
else (if a2 < a0 then (some (0, m))
else (some (1, m)))

set_option maxRecDepth 100000 in
set_option maxHeartbeats 4000000 in
theorem ok_X12_isIn (N d : Nat) (a0 : Int32) (a1 : Int32) (a2 : Int32)  (m : Mem) : Ok none SG (d + 0) m_X12_isIn 0 [some (.int a0), some (.int a1), some (.int a2)] [] SG m (f_X12_isIn N a0 a1 a2 m) := by
  unfold f_X12_isIn
  refine ok_iload_n 1 0 dX12_isIn_0 rfl rfl rfl ?_
  refine ok_iload_n 2 1 dX12_isIn_1 rfl rfl rfl ?_
  refine ok_icmp_lt 14 5 dX12_isIn_2 (by decide) rfl (fun _ => ?_) (fun _ => ?_)
  · refine ok_iconst 15 0 dX12_isIn_14 rfl rfl ?_
    exact ok_zretc dX12_isIn_15 rfl rfl
  · refine ok_iload_n 6 0 dX12_isIn_5 rfl rfl rfl ?_
    refine ok_iload_n 7 2 dX12_isIn_6 rfl rfl rfl ?_
    refine ok_icmp_gt 14 10 dX12_isIn_7 (by decide) rfl (fun _ => ?_) (fun _ => ?_)
    · refine ok_iconst 15 0 dX12_isIn_14 rfl rfl ?_
      exact ok_zretc dX12_isIn_15 rfl rfl
    · refine ok_iconst 11 1 dX12_isIn_10 rfl rfl ?_
      refine ok_goto 15 dX12_isIn_11 (by decide) ?_
      exact ok_zretc dX12_isIn_15 rfl rfl

theorem c_X12_isIn (N d : Nat) (a0 : Int32) (a1 : Int32) (a2 : Int32)  (m : Mem) : CM (d + 0) m_X12_isIn SG SG [.int a0, .int a1, .int a2] m (f_X12_isIn N a0 a1 a2 m) :=
  CM.ofOk km_X12_isIn ⟨Nat.le_refl _, Nat.le_refl _⟩ (by simp [Value.category]) (Nat.le_of_ble_eq_true rfl) (ok_X12_isIn N d a0 a1 a2 m)

def f_X12_lesser (N : Nat) (a0 : Int32) (a1 : Int32) (m : Mem) : Ans :=
if a1 ≤ a0 then (some (a1, m))
else (some (a0, m))

set_option maxRecDepth 100000 in
set_option maxHeartbeats 4000000 in
theorem ok_X12_lesser (N d : Nat) (a0 : Int32) (a1 : Int32)  (m : Mem) : Ok none SG (d + 0) m_X12_lesser 0 [some (.int a0), some (.int a1)] [] SG m (f_X12_lesser N a0 a1 m) := by
  unfold f_X12_lesser
  refine ok_iload_n 1 0 dX12_lesser_0 rfl rfl rfl ?_
  refine ok_iload_n 2 1 dX12_lesser_1 rfl rfl rfl ?_
  refine ok_icmp_ge 9 5 dX12_lesser_2 (by decide) rfl (fun _ => ?_) (fun _ => ?_)
  · refine ok_iload_n 10 1 dX12_lesser_9 rfl rfl rfl ?_
    exact ok_iret dX12_lesser_10 rfl
  · refine ok_iload_n 6 0 dX12_lesser_5 rfl rfl rfl ?_
    refine ok_goto 10 dX12_lesser_6 (by decide) ?_
    exact ok_iret dX12_lesser_10 rfl

theorem c_X12_lesser (N d : Nat) (a0 : Int32) (a1 : Int32)  (m : Mem) : CM (d + 0) m_X12_lesser SG SG [.int a0, .int a1] m (f_X12_lesser N a0 a1 m) :=
  CM.ofOk km_X12_lesser ⟨Nat.le_refl _, Nat.le_refl _⟩ (by simp [Value.category]) (Nat.le_of_ble_eq_true rfl) (ok_X12_lesser N d a0 a1 m)

def f_X12_greater (N : Nat) (a0 : Int32) (a1 : Int32) (m : Mem) : Ans :=
if a0 ≤ a1 then (some (a1, m))
else (some (a0, m))

set_option maxRecDepth 100000 in
set_option maxHeartbeats 4000000 in
theorem ok_X12_greater (N d : Nat) (a0 : Int32) (a1 : Int32)  (m : Mem) : Ok none SG (d + 0) m_X12_greater 0 [some (.int a0), some (.int a1)] [] SG m (f_X12_greater N a0 a1 m) := by
  unfold f_X12_greater
  refine ok_iload_n 1 0 dX12_greater_0 rfl rfl rfl ?_
  refine ok_iload_n 2 1 dX12_greater_1 rfl rfl rfl ?_
  refine ok_icmp_le 9 5 dX12_greater_2 (by decide) rfl (fun _ => ?_) (fun _ => ?_)
  · refine ok_iload_n 10 1 dX12_greater_9 rfl rfl rfl ?_
    exact ok_iret dX12_greater_10 rfl
  · refine ok_iload_n 6 0 dX12_greater_5 rfl rfl rfl ?_
    refine ok_goto 10 dX12_greater_6 (by decide) ?_
    exact ok_iret dX12_greater_10 rfl

theorem c_X12_greater (N d : Nat) (a0 : Int32) (a1 : Int32)  (m : Mem) : CM (d + 0) m_X12_greater SG SG [.int a0, .int a1] m (f_X12_greater N a0 a1 m) :=
  CM.ofOk km_X12_greater ⟨Nat.le_refl _, Nat.le_refl _⟩ (by simp [Value.category]) (Nat.le_of_ble_eq_true rfl) (ok_X12_greater N d a0 a1 m)

def f_X12_isHearer (N : Nat) (a1 : Int32) (m : Mem) : Ans :=
bd (f_X12_isIn N a1 0 ((m 124 37) - (1 : Int32)) m) fun r_11 m_11 =>
chk (isB r_11) (some (r_11, m_11))

set_option maxRecDepth 100000 in
set_option maxHeartbeats 4000000 in
theorem ok_X12_isHearer (N d : Nat) (a1 : Int32)  (m : Mem) : Ok none SG (d + 1) m_X12_isHearer 0 [some (.ref 123), some (.int a1)] [] SG m (f_X12_isHearer N a1 m) := by
  unfold f_X12_isHearer
  refine ok_iload_n 1 1 dX12_isHearer_0 rfl rfl rfl ?_
  refine ok_iconst 2 0 dX12_isHearer_1 rfl rfl ?_
  refine ok_aload_n 3 0 dX12_isHearer_2 rfl rfl rfl ?_
  refine ok_getR 6 dX12_isHearer_3 rfl rfl F_EncoresModel_7 sg_123 rfl (Nat.le_of_ble_eq_true rfl) rfl rfl ?_
  refine ok_bipush 8 37 dX12_isHearer_6 rfl rfl ?_
  refine ok_ialdc 9 37 dX12_isHearer_8 rfl sg_124 (by decide) (by decide) ?_
  refine ok_iconst 10 1 dX12_isHearer_9 rfl rfl ?_
  refine ok_isub 11 dX12_isHearer_10 rfl ?_
  refine ok_callSi (np := 3) (M' := m_X12_isIn) (As := [.int a1, .int 0, .int ((m 124 37) - (1 : Int32))]) (st := []) 14 dX12_isHearer_11 rfl rfl km_X12_isIn ks_X12_isIn ml_EncoresModel_56 (by decide) rfl rfl (Nat.le_of_ble_eq_true rfl) (c_X12_isIn N (d + 0) a1 0 ((m 124 37) - (1 : Int32)) m) ⟨Nat.le_refl _, Nat.le_refl _⟩ (Or.inl rfl) rfl (fun r_11 m_11 _ => ?_)
  exact ok_zret dX12_isHearer_14 rfl

theorem c_X12_isHearer (N d : Nat) (a1 : Int32)  (m : Mem) : CM (d + 1) m_X12_isHearer SG SG [.ref 123, .int a1] m (f_X12_isHearer N a1 m) :=
  CM.ofOk km_X12_isHearer ⟨Nat.le_refl _, Nat.le_refl _⟩ (by simp [Value.category]) (Nat.le_of_ble_eq_true rfl) (ok_X12_isHearer N d a1 m)

def f_X12_isDeed (N : Nat) (a1 : Int32) (m : Mem) : Ans :=
bd (f_X12_isIn N a1 0 ((m 124 38) - (1 : Int32)) m) fun r_11 m_11 =>
chk (isB r_11) (some (r_11, m_11))

set_option maxRecDepth 100000 in
set_option maxHeartbeats 4000000 in
theorem ok_X12_isDeed (N d : Nat) (a1 : Int32)  (m : Mem) : Ok none SG (d + 1) m_X12_isDeed 0 [some (.ref 123), some (.int a1)] [] SG m (f_X12_isDeed N a1 m) := by
  unfold f_X12_isDeed
  refine ok_iload_n 1 1 dX12_isDeed_0 rfl rfl rfl ?_
  refine ok_iconst 2 0 dX12_isDeed_1 rfl rfl ?_
  refine ok_aload_n 3 0 dX12_isDeed_2 rfl rfl rfl ?_
  refine ok_getR 6 dX12_isDeed_3 rfl rfl F_EncoresModel_7 sg_123 rfl (Nat.le_of_ble_eq_true rfl) rfl rfl ?_
  refine ok_bipush 8 38 dX12_isDeed_6 rfl rfl ?_
  refine ok_ialdc 9 38 dX12_isDeed_8 rfl sg_124 (by decide) (by decide) ?_
  refine ok_iconst 10 1 dX12_isDeed_9 rfl rfl ?_
  refine ok_isub 11 dX12_isDeed_10 rfl ?_
  refine ok_callSi (np := 3) (M' := m_X12_isIn) (As := [.int a1, .int 0, .int ((m 124 38) - (1 : Int32))]) (st := []) 14 dX12_isDeed_11 rfl rfl km_X12_isIn ks_X12_isIn ml_EncoresModel_56 (by decide) rfl rfl (Nat.le_of_ble_eq_true rfl) (c_X12_isIn N (d + 0) a1 0 ((m 124 38) - (1 : Int32)) m) ⟨Nat.le_refl _, Nat.le_refl _⟩ (Or.inl rfl) rfl (fun r_11 m_11 _ => ?_)
  exact ok_zret dX12_isDeed_14 rfl

theorem c_X12_isDeed (N d : Nat) (a1 : Int32)  (m : Mem) : CM (d + 1) m_X12_isDeed SG SG [.ref 123, .int a1] m (f_X12_isDeed N a1 m) :=
  CM.ofOk km_X12_isDeed ⟨Nat.le_refl _, Nat.le_refl _⟩ (by simp [Value.category]) (Nat.le_of_ble_eq_true rfl) (ok_X12_isDeed N d a1 m)

def f_X12_isThere (N : Nat) (a1 : Int32) (m : Mem) : Ans :=
if (((m 124 7) >>> (a1 &&& 31)) &&& (1 : Int32)) = (1 : Int32) then (some (1, m))
else (some (0, m))

set_option maxRecDepth 100000 in
set_option maxHeartbeats 4000000 in
theorem ok_X12_isThere (N d : Nat) (a1 : Int32)  (m : Mem) : Ok none SG (d + 0) m_X12_isThere 0 [some (.ref 123), some (.int a1)] [] SG m (f_X12_isThere N a1 m) := by
  unfold f_X12_isThere
  refine ok_aload_n 1 0 dX12_isThere_0 rfl rfl rfl ?_
  refine ok_getR 4 dX12_isThere_1 rfl rfl F_EncoresModel_7 sg_123 rfl (Nat.le_of_ble_eq_true rfl) rfl rfl ?_
  refine ok_bipush 6 7 dX12_isThere_4 rfl rfl ?_
  refine ok_ialdc 7 7 dX12_isThere_6 rfl sg_124 (by decide) (by decide) ?_
  refine ok_iload_n 8 1 dX12_isThere_7 rfl rfl rfl ?_
  refine ok_ishr 9 dX12_isThere_8 rfl ?_
  refine ok_iconst 10 1 dX12_isThere_9 rfl rfl ?_
  refine ok_iand 11 dX12_isThere_10 rfl ?_
  refine ok_iconst 12 1 dX12_isThere_11 rfl rfl ?_
  refine ok_icmp_ne 19 15 dX12_isThere_12 (by decide) rfl (fun _ => ?_) (fun _ => ?_)
  · refine ok_iconst 20 0 dX12_isThere_19 rfl rfl ?_
    exact ok_zretc dX12_isThere_20 rfl rfl
  · refine ok_iconst 16 1 dX12_isThere_15 rfl rfl ?_
    refine ok_goto 20 dX12_isThere_16 (by decide) ?_
    exact ok_zretc dX12_isThere_20 rfl rfl

theorem c_X12_isThere (N d : Nat) (a1 : Int32)  (m : Mem) : CM (d + 0) m_X12_isThere SG SG [.ref 123, .int a1] m (f_X12_isThere N a1 m) :=
  CM.ofOk km_X12_isThere ⟨Nat.le_refl _, Nat.le_refl _⟩ (by simp [Value.category]) (Nat.le_of_ble_eq_true rfl) (ok_X12_isThere N d a1 m)

def f_X12_isGloved (N : Nat) (a1 : Int32) (m : Mem) : Ans :=
if (((m 124 8) >>> (a1 &&& 31)) &&& (1 : Int32)) = (1 : Int32) then (some (1, m))
else (some (0, m))

set_option maxRecDepth 100000 in
set_option maxHeartbeats 4000000 in
theorem ok_X12_isGloved (N d : Nat) (a1 : Int32)  (m : Mem) : Ok none SG (d + 0) m_X12_isGloved 0 [some (.ref 123), some (.int a1)] [] SG m (f_X12_isGloved N a1 m) := by
  unfold f_X12_isGloved
  refine ok_aload_n 1 0 dX12_isGloved_0 rfl rfl rfl ?_
  refine ok_getR 4 dX12_isGloved_1 rfl rfl F_EncoresModel_7 sg_123 rfl (Nat.le_of_ble_eq_true rfl) rfl rfl ?_
  refine ok_bipush 6 8 dX12_isGloved_4 rfl rfl ?_
  refine ok_ialdc 7 8 dX12_isGloved_6 rfl sg_124 (by decide) (by decide) ?_
  refine ok_iload_n 8 1 dX12_isGloved_7 rfl rfl rfl ?_
  refine ok_ishr 9 dX12_isGloved_8 rfl ?_
  refine ok_iconst 10 1 dX12_isGloved_9 rfl rfl ?_
  refine ok_iand 11 dX12_isGloved_10 rfl ?_
  refine ok_iconst 12 1 dX12_isGloved_11 rfl rfl ?_
  refine ok_icmp_ne 19 15 dX12_isGloved_12 (by decide) rfl (fun _ => ?_) (fun _ => ?_)
  · refine ok_iconst 20 0 dX12_isGloved_19 rfl rfl ?_
    exact ok_zretc dX12_isGloved_20 rfl rfl
  · refine ok_iconst 16 1 dX12_isGloved_15 rfl rfl ?_
    refine ok_goto 20 dX12_isGloved_16 (by decide) ?_
    exact ok_zretc dX12_isGloved_20 rfl rfl

theorem c_X12_isGloved (N d : Nat) (a1 : Int32)  (m : Mem) : CM (d + 0) m_X12_isGloved SG SG [.ref 123, .int a1] m (f_X12_isGloved N a1 m) :=
  CM.ofOk km_X12_isGloved ⟨Nat.le_refl _, Nat.le_refl _⟩ (by simp [Value.category]) (Nat.le_of_ble_eq_true rfl) (ok_X12_isGloved N d a1 m)

def f_X12_allHearers (N : Nat)  (m : Mem) : Ans :=
some ((((1 : Int32) <<< ((m 124 37) &&& 31)) - (1 : Int32)), m)

set_option maxRecDepth 100000 in
set_option maxHeartbeats 4000000 in
theorem ok_X12_allHearers (N d : Nat)   (m : Mem) : Ok none SG (d + 0) m_X12_allHearers 0 [some (.ref 123)] [] SG m (f_X12_allHearers N m) := by
  unfold f_X12_allHearers
  refine ok_iconst 1 1 dX12_allHearers_0 rfl rfl ?_
  refine ok_aload_n 2 0 dX12_allHearers_1 rfl rfl rfl ?_
  refine ok_getR 5 dX12_allHearers_2 rfl rfl F_EncoresModel_7 sg_123 rfl (Nat.le_of_ble_eq_true rfl) rfl rfl ?_
  refine ok_bipush 7 37 dX12_allHearers_5 rfl rfl ?_
  refine ok_ialdc 8 37 dX12_allHearers_7 rfl sg_124 (by decide) (by decide) ?_
  refine ok_ishl 9 dX12_allHearers_8 rfl ?_
  refine ok_iconst 10 1 dX12_allHearers_9 rfl rfl ?_
  refine ok_isub 11 dX12_allHearers_10 rfl ?_
  exact ok_iret dX12_allHearers_11 rfl

theorem c_X12_allHearers (N d : Nat)   (m : Mem) : CM (d + 0) m_X12_allHearers SG SG [.ref 123] m (f_X12_allHearers N m) :=
  CM.ofOk km_X12_allHearers ⟨Nat.le_refl _, Nat.le_refl _⟩ (by simp [Value.category]) (Nat.le_of_ble_eq_true rfl) (ok_X12_allHearers N d  m)

def f_X12_count_L4 (N : Nat) (a0 : Int32)   (X : Int32 → Int32 → Mem → Ans) (s1_4 : Int32) (s2_4 : Int32) (m : Mem) : Ans :=
if (12 : Int32) ≤ s2_4 then (some (s1_4, m))
else (bnd (s1_4 + ((a0 >>> (s2_4 &&& 31)) &&& (1 : Int32))) fun a1_17 =>
X a1_17 (s2_4 + 1) m)

def f_X12_count (N : Nat) (a0 : Int32) (m : Mem) : Ans :=
it2 (f_X12_count_L4 N a0 ) N 0 0 m

set_option maxRecDepth 100000 in
set_option maxHeartbeats 4000000 in
theorem ok_X12_count_L4 (N d : Nat) (a0 : Int32)    : ∀ (n : Nat) (s1_4 : Int32) (s2_4 : Int32) (m : Mem), Ok none SG (d + 0) m_X12_count 4 [some (.int a0), some (.int s1_4), some (.int s2_4)] [] SG m (it2 (f_X12_count_L4 N a0) n s1_4 s2_4 m) :=
  ok_it2 (fun s1_4 s2_4 => [some (.int a0), some (.int s1_4), some (.int s2_4)]) (fun X hX s1_4 s2_4 m => by
    try unfold f_X12_count_L4
    refine ok_iload_n 5 2 dX12_count_4 rfl rfl rfl ?_
    refine ok_bipush 7 12 dX12_count_5 rfl rfl ?_
    refine ok_icmp_ge 24 10 dX12_count_7 (by decide) rfl (fun _ => ?_) (fun _ => ?_)
    · refine ok_iload_n 25 1 dX12_count_24 rfl rfl rfl ?_
      exact ok_iret dX12_count_25 rfl
    · refine ok_iload_n 11 1 dX12_count_10 rfl rfl rfl ?_
      refine ok_iload_n 12 0 dX12_count_11 rfl rfl rfl ?_
      refine ok_iload_n 13 2 dX12_count_12 rfl rfl rfl ?_
      refine ok_ishr 14 dX12_count_13 rfl ?_
      refine ok_iconst 15 1 dX12_count_14 rfl rfl ?_
      refine ok_iand 16 dX12_count_15 rfl ?_
      refine ok_iadd 17 dX12_count_16 rfl ?_
      refine ok_bndI (fun a1_17 => ?_)
      refine ok_istore_n 18 1 [some (.int a0), some (.int a1_17), some (.int s2_4)] dX12_count_17 rfl rfl (by decide) rfl ?_
      refine ok_iinc 21 2 1 [some (.int a0), some (.int a1_17), some (.int (s2_4 + 1))] dX12_count_18 rfl rfl rfl (by decide) rfl ?_
      refine ok_goto 4 dX12_count_21 (by decide) ?_
      exact ok_less [some (.int a0), some (.int a1_17), some (.int (s2_4 + 1))] (And.intro rfl (And.intro rfl (And.intro rfl (trivial)))) (hX a1_17 (s2_4 + 1) m))

set_option maxRecDepth 100000 in
set_option maxHeartbeats 4000000 in
theorem ok_X12_count (N d : Nat) (a0 : Int32)  (m : Mem) : Ok none SG (d + 0) m_X12_count 0 [some (.int a0), none, none] [] SG m (f_X12_count N a0 m) := by
  unfold f_X12_count
  refine ok_iconst 1 0 dX12_count_0 rfl rfl ?_
  refine ok_istore_n 2 1 [some (.int a0), some (.int 0), none] dX12_count_1 rfl rfl (by decide) rfl ?_
  refine ok_iconst 3 0 dX12_count_2 rfl rfl ?_
  refine ok_istore_n 4 2 [some (.int a0), some (.int 0), some (.int 0)] dX12_count_3 rfl rfl (by decide) rfl ?_
  refine ok_less [some (.int a0), some (.int 0), some (.int 0)] (And.intro rfl (And.intro rfl (And.intro rfl (trivial)))) ?_
  exact ok_X12_count_L4 N d a0    N 0 0 m

theorem c_X12_count (N d : Nat) (a0 : Int32)  (m : Mem) : CM (d + 0) m_X12_count SG SG [.int a0] m (f_X12_count N a0 m) :=
  CM.ofOk km_X12_count ⟨Nat.le_refl _, Nat.le_refl _⟩ (by simp [Value.category]) (Nat.le_of_ble_eq_true rfl) (ok_X12_count N d a0 m)

def f_X12_forgets (N : Nat)  (m : Mem) : Ans :=
bnd (mset m 123 4 0) fun m_2 =>
some (0, m_2)

set_option maxRecDepth 100000 in
set_option maxHeartbeats 4000000 in
theorem ok_X12_forgets (N d : Nat)   (m : Mem) : Ok none SG (d + 0) m_X12_forgets 0 [some (.ref 123)] [] SG m (f_X12_forgets N m) := by
  unfold f_X12_forgets
  refine ok_aload_n 1 0 dX12_forgets_0 rfl rfl rfl ?_
  refine ok_iconst 2 0 dX12_forgets_1 rfl rfl ?_
  refine ok_putI 5 dX12_forgets_2 rfl rfl F_EncoresModel_60 sg_123 rfl (Nat.le_of_ble_eq_true rfl) rfl rfl pZ_12_4 rfl rfl ?_
  refine ok_bndM (fun m_2 => ?_)
  exact ok_vret dX12_forgets_5 rfl

theorem c_X12_forgets (N d : Nat)   (m : Mem) : CM (d + 0) m_X12_forgets SG SG [.ref 123] m (f_X12_forgets N m) :=
  CM.ofOk km_X12_forgets ⟨Nat.le_refl _, Nat.le_refl _⟩ (by simp [Value.category]) (Nat.le_of_ble_eq_true rfl) (ok_X12_forgets N d  m)

def f_X12_state (N : Nat) (a1 : Int32) (m : Mem) : Ans :=
bnd (m 124 5) fun a2_6 =>
bnd (mset m 124 5 a1) fun m_13 =>
bd (f_X12_forgets N m_13) fun _ m_15 =>
some (a2_6, m_15)

set_option maxRecDepth 100000 in
set_option maxHeartbeats 4000000 in
theorem ok_X12_state (N d : Nat) (a1 : Int32)  (m : Mem) : Ok none SG (d + 1) m_X12_state 0 [some (.ref 123), some (.int a1), none] [] SG m (f_X12_state N a1 m) := by
  unfold f_X12_state
  refine ok_aload_n 1 0 dX12_state_0 rfl rfl rfl ?_
  refine ok_getR 4 dX12_state_1 rfl rfl F_EncoresModel_7 sg_123 rfl (Nat.le_of_ble_eq_true rfl) rfl rfl ?_
  refine ok_iconst 5 5 dX12_state_4 rfl rfl ?_
  refine ok_ialdc 6 5 dX12_state_5 rfl sg_124 (by decide) (by decide) ?_
  refine ok_bndI (fun a2_6 => ?_)
  refine ok_istore_n 7 2 [some (.ref 123), some (.int a1), some (.int a2_6)] dX12_state_6 rfl rfl (by decide) rfl ?_
  refine ok_aload_n 8 0 dX12_state_7 rfl rfl rfl ?_
  refine ok_getR 11 dX12_state_8 rfl rfl F_EncoresModel_7 sg_123 rfl (Nat.le_of_ble_eq_true rfl) rfl rfl ?_
  refine ok_iconst 12 5 dX12_state_11 rfl rfl ?_
  refine ok_iload_n 13 1 dX12_state_12 rfl rfl rfl ?_
  refine ok_iastc 14 5 dX12_state_13 rfl sg_124 (by decide) (by decide) ?_
  refine ok_bndM (fun m_13 => ?_)
  refine ok_aload_n 15 0 dX12_state_14 rfl rfl rfl ?_
  refine ok_callVv (np := 0) (M' := m_X12_forgets) (As := []) (st := []) 18 dX12_state_15 rfl rfl km_X12_forgets ki_X12_forgets kv_X12_forgets ml_EncoresModel_63 (by decide) sg_123 rfl (Nat.le_of_ble_eq_true rfl) rfl rfl rfl (Nat.le_of_ble_eq_true rfl) (c_X12_forgets N (d + 0) m_13) ⟨Nat.le_refl _, Nat.le_refl _⟩ (Or.inl rfl) rfl (fun _ m_15 _ => ?_)
  refine ok_iload_n 19 2 dX12_state_18 rfl rfl rfl ?_
  exact ok_iret dX12_state_19 rfl

theorem c_X12_state (N d : Nat) (a1 : Int32)  (m : Mem) : CM (d + 1) m_X12_state SG SG [.ref 123, .int a1] m (f_X12_state N a1 m) :=
  CM.ofOk km_X12_state ⟨Nat.le_refl _, Nat.le_refl _⟩ (by simp [Value.category]) (Nat.le_of_ble_eq_true rfl) (ok_X12_state N d a1 m)

def f_X12_draw (N : Nat) (a1 : Int32) (m : Mem) : Ans :=
bnd (mset m 124 5 (((1664525 : Int32) * (m 124 5)) + (1013904223 : Int32))) fun m_17 =>
chk (decide (a1 ≠ 0)) <|
some ((irm (ushr (m_17 124 5) (8 : Int32)) a1), m_17)

set_option maxRecDepth 100000 in
set_option maxHeartbeats 4000000 in
theorem ok_X12_draw (N d : Nat) (a1 : Int32)  (m : Mem) : Ok none SG (d + 0) m_X12_draw 0 [some (.ref 123), some (.int a1)] [] SG m (f_X12_draw N a1 m) := by
  unfold f_X12_draw
  refine ok_aload_n 1 0 dX12_draw_0 rfl rfl rfl ?_
  refine ok_getR 4 dX12_draw_1 rfl rfl F_EncoresModel_7 sg_123 rfl (Nat.le_of_ble_eq_true rfl) rfl rfl ?_
  refine ok_iconst 5 5 dX12_draw_4 rfl rfl ?_
  refine ok_ldc 7 1664525 dX12_draw_5 rfl rfl cn_EncoresModel_66 ?_
  refine ok_aload_n 8 0 dX12_draw_7 rfl rfl rfl ?_
  refine ok_getR 11 dX12_draw_8 rfl rfl F_EncoresModel_7 sg_123 rfl (Nat.le_of_ble_eq_true rfl) rfl rfl ?_
  refine ok_iconst 12 5 dX12_draw_11 rfl rfl ?_
  refine ok_ialdc 13 5 dX12_draw_12 rfl sg_124 (by decide) (by decide) ?_
  refine ok_imul 14 dX12_draw_13 rfl ?_
  refine ok_ldc 16 1013904223 dX12_draw_14 rfl rfl cn_EncoresModel_67 ?_
  refine ok_iadd 17 dX12_draw_16 rfl ?_
  refine ok_iastc 18 5 dX12_draw_17 rfl sg_124 (by decide) (by decide) ?_
  refine ok_bndM (fun m_17 => ?_)
  refine ok_aload_n 19 0 dX12_draw_18 rfl rfl rfl ?_
  refine ok_getR 22 dX12_draw_19 rfl rfl F_EncoresModel_7 sg_123 rfl (Nat.le_of_ble_eq_true rfl) rfl rfl ?_
  refine ok_iconst 23 5 dX12_draw_22 rfl rfl ?_
  refine ok_ialdc 24 5 dX12_draw_23 rfl sg_124 (by decide) (by decide) ?_
  refine ok_bipush 26 8 dX12_draw_24 rfl rfl ?_
  refine ok_iushr 27 dX12_draw_26 rfl ?_
  refine ok_iload_n 28 1 dX12_draw_27 rfl rfl rfl ?_
  refine ok_irem 29 dX12_draw_28 rfl ?_
  exact ok_iret dX12_draw_29 rfl

theorem c_X12_draw (N d : Nat) (a1 : Int32)  (m : Mem) : CM (d + 0) m_X12_draw SG SG [.ref 123, .int a1] m (f_X12_draw N a1 m) :=
  CM.ofOk km_X12_draw ⟨Nat.le_refl _, Nat.le_refl _⟩ (by simp [Value.category]) (Nat.le_of_ble_eq_true rfl) (ok_X12_draw N d a1 m)

def f_X12_hearer (N : Nat) (a1 : Int32) (a2 : Int32) (a3 : Int32) (m : Mem) : Ans :=
bd (f_X12_isIn N a1 0 9 m) fun r_4 m_4 =>
if r_4 = 0 then (some ((-1), m_4))
else (bd (f_X12_isIn N a2 0 9 m_4) fun r_14 m_14 =>
if r_14 = 0 then (some ((-1), m_14))
else (bd (f_X12_isIn N a3 0 9 m_14) fun r_24 m_24 =>
if r_24 = 0 then (some ((-1), m_24))
else (if (m_24 124 37) = (12 : Int32) then (some ((-1), m_24))
else (bnd (m_24 124 37) fun a4_51 =>
chk (inb ((45 : Int32) + a4_51) 1707) <|
bnd (mset m_24 124 ((45 : Int32) + a4_51).toNatClampNeg a1) fun m_63 =>
chk (inb ((57 : Int32) + a4_51) 1707) <|
bnd (mset m_63 124 ((57 : Int32) + a4_51).toNatClampNeg a2) fun m_74 =>
chk (inb ((69 : Int32) + a4_51) 1707) <|
bnd (mset m_74 124 ((69 : Int32) + a4_51).toNatClampNeg a3) fun m_85 =>
chk (inb ((9 : Int32) + a4_51) 1707) <|
bnd (mset m_85 124 ((9 : Int32) + a4_51).toNatClampNeg 0) fun m_96 =>
bnd (mset m_96 124 7 ((m_96 124 7) ||| ((1 : Int32) <<< (a4_51 &&& 31)))) fun m_110 =>
bnd (mset m_110 124 8 ((m_110 124 8) &&& (((1 : Int32) <<< (a4_51 &&& 31)) ^^^ (-1 : Int32)))) fun m_126 =>
bnd (mset m_126 124 37 ((m_126 124 37) + (1 : Int32))) fun m_137 =>
bd (f_X12_forgets N m_137) fun _ m_139 =>
some (a4_51, m_139)))))

set_option maxRecDepth 100000 in
set_option maxHeartbeats 4000000 in
theorem ok_X12_hearer (N d : Nat) (a1 : Int32) (a2 : Int32) (a3 : Int32)  (m : Mem) : Ok none SG (d + 1) m_X12_hearer 0 [some (.ref 123), some (.int a1), some (.int a2), some (.int a3), none] [] SG m (f_X12_hearer N a1 a2 a3 m) := by
  unfold f_X12_hearer
  refine ok_iload_n 1 1 dX12_hearer_0 rfl rfl rfl ?_
  refine ok_iconst 2 0 dX12_hearer_1 rfl rfl ?_
  refine ok_bipush 4 9 dX12_hearer_2 rfl rfl ?_
  refine ok_callSi (np := 3) (M' := m_X12_isIn) (As := [.int a1, .int 0, .int 9]) (st := []) 7 dX12_hearer_4 rfl rfl km_X12_isIn ks_X12_isIn ml_EncoresModel_56 (by decide) rfl rfl (Nat.le_of_ble_eq_true rfl) (c_X12_isIn N (d + 0) a1 0 9 m) ⟨Nat.le_refl _, Nat.le_refl _⟩ (Or.inl rfl) rfl (fun r_4 m_4 _ => ?_)
  refine ok_if_eq 42 10 dX12_hearer_7 (by decide) rfl (fun _ => ?_) (fun _ => ?_)
  · refine ok_iconst 43 (-1) dX12_hearer_42 rfl rfl ?_
    exact ok_iret dX12_hearer_43 rfl
  · refine ok_iload_n 11 2 dX12_hearer_10 rfl rfl rfl ?_
    refine ok_iconst 12 0 dX12_hearer_11 rfl rfl ?_
    refine ok_bipush 14 9 dX12_hearer_12 rfl rfl ?_
    refine ok_callSi (np := 3) (M' := m_X12_isIn) (As := [.int a2, .int 0, .int 9]) (st := []) 17 dX12_hearer_14 rfl rfl km_X12_isIn ks_X12_isIn ml_EncoresModel_56 (by decide) rfl rfl (Nat.le_of_ble_eq_true rfl) (c_X12_isIn N (d + 0) a2 0 9 m_4) ⟨Nat.le_refl _, Nat.le_refl _⟩ (Or.inl rfl) rfl (fun r_14 m_14 _ => ?_)
    refine ok_if_eq 42 20 dX12_hearer_17 (by decide) rfl (fun _ => ?_) (fun _ => ?_)
    · refine ok_iconst 43 (-1) dX12_hearer_42 rfl rfl ?_
      exact ok_iret dX12_hearer_43 rfl
    · refine ok_iload_n 21 3 dX12_hearer_20 rfl rfl rfl ?_
      refine ok_iconst 22 0 dX12_hearer_21 rfl rfl ?_
      refine ok_bipush 24 9 dX12_hearer_22 rfl rfl ?_
      refine ok_callSi (np := 3) (M' := m_X12_isIn) (As := [.int a3, .int 0, .int 9]) (st := []) 27 dX12_hearer_24 rfl rfl km_X12_isIn ks_X12_isIn ml_EncoresModel_56 (by decide) rfl rfl (Nat.le_of_ble_eq_true rfl) (c_X12_isIn N (d + 0) a3 0 9 m_14) ⟨Nat.le_refl _, Nat.le_refl _⟩ (Or.inl rfl) rfl (fun r_24 m_24 _ => ?_)
      refine ok_if_eq 42 30 dX12_hearer_27 (by decide) rfl (fun _ => ?_) (fun _ => ?_)
      · refine ok_iconst 43 (-1) dX12_hearer_42 rfl rfl ?_
        exact ok_iret dX12_hearer_43 rfl
      · refine ok_aload_n 31 0 dX12_hearer_30 rfl rfl rfl ?_
        refine ok_getR 34 dX12_hearer_31 rfl rfl F_EncoresModel_7 sg_123 rfl (Nat.le_of_ble_eq_true rfl) rfl rfl ?_
        refine ok_bipush 36 37 dX12_hearer_34 rfl rfl ?_
        refine ok_ialdc 37 37 dX12_hearer_36 rfl sg_124 (by decide) (by decide) ?_
        refine ok_bipush 39 12 dX12_hearer_37 rfl rfl ?_
        refine ok_icmp_ne 44 42 dX12_hearer_39 (by decide) rfl (fun _ => ?_) (fun _ => ?_)
        · refine ok_aload_n 45 0 dX12_hearer_44 rfl rfl rfl ?_
          refine ok_getR 48 dX12_hearer_45 rfl rfl F_EncoresModel_7 sg_123 rfl (Nat.le_of_ble_eq_true rfl) rfl rfl ?_
          refine ok_bipush 50 37 dX12_hearer_48 rfl rfl ?_
          refine ok_ialdc 51 37 dX12_hearer_50 rfl sg_124 (by decide) (by decide) ?_
          refine ok_bndI (fun a4_51 => ?_)
          refine ok_istore 53 4 [some (.ref 123), some (.int a1), some (.int a2), some (.int a3), some (.int a4_51)] dX12_hearer_51 rfl (by decide) rfl ?_
          refine ok_aload_n 54 0 dX12_hearer_53 rfl rfl rfl ?_
          refine ok_getR 57 dX12_hearer_54 rfl rfl F_EncoresModel_7 sg_123 rfl (Nat.le_of_ble_eq_true rfl) rfl rfl ?_
          refine ok_bipush 59 45 dX12_hearer_57 rfl rfl ?_
          refine ok_iload 61 4 dX12_hearer_59 rfl rfl ?_
          refine ok_iadd 62 dX12_hearer_61 rfl ?_
          refine ok_iload_n 63 1 dX12_hearer_62 rfl rfl rfl ?_
          refine ok_iast 64 dX12_hearer_63 rfl sg_124 ?_
          refine ok_bndM (fun m_63 => ?_)
          refine ok_aload_n 65 0 dX12_hearer_64 rfl rfl rfl ?_
          refine ok_getR 68 dX12_hearer_65 rfl rfl F_EncoresModel_7 sg_123 rfl (Nat.le_of_ble_eq_true rfl) rfl rfl ?_
          refine ok_bipush 70 57 dX12_hearer_68 rfl rfl ?_
          refine ok_iload 72 4 dX12_hearer_70 rfl rfl ?_
          refine ok_iadd 73 dX12_hearer_72 rfl ?_
          refine ok_iload_n 74 2 dX12_hearer_73 rfl rfl rfl ?_
          refine ok_iast 75 dX12_hearer_74 rfl sg_124 ?_
          refine ok_bndM (fun m_74 => ?_)
          refine ok_aload_n 76 0 dX12_hearer_75 rfl rfl rfl ?_
          refine ok_getR 79 dX12_hearer_76 rfl rfl F_EncoresModel_7 sg_123 rfl (Nat.le_of_ble_eq_true rfl) rfl rfl ?_
          refine ok_bipush 81 69 dX12_hearer_79 rfl rfl ?_
          refine ok_iload 83 4 dX12_hearer_81 rfl rfl ?_
          refine ok_iadd 84 dX12_hearer_83 rfl ?_
          refine ok_iload_n 85 3 dX12_hearer_84 rfl rfl rfl ?_
          refine ok_iast 86 dX12_hearer_85 rfl sg_124 ?_
          refine ok_bndM (fun m_85 => ?_)
          refine ok_aload_n 87 0 dX12_hearer_86 rfl rfl rfl ?_
          refine ok_getR 90 dX12_hearer_87 rfl rfl F_EncoresModel_7 sg_123 rfl (Nat.le_of_ble_eq_true rfl) rfl rfl ?_
          refine ok_bipush 92 9 dX12_hearer_90 rfl rfl ?_
          refine ok_iload 94 4 dX12_hearer_92 rfl rfl ?_
          refine ok_iadd 95 dX12_hearer_94 rfl ?_
          refine ok_iconst 96 0 dX12_hearer_95 rfl rfl ?_
          refine ok_iast 97 dX12_hearer_96 rfl sg_124 ?_
          refine ok_bndM (fun m_96 => ?_)
          refine ok_aload_n 98 0 dX12_hearer_97 rfl rfl rfl ?_
          refine ok_getR 101 dX12_hearer_98 rfl rfl F_EncoresModel_7 sg_123 rfl (Nat.le_of_ble_eq_true rfl) rfl rfl ?_
          refine ok_bipush 103 7 dX12_hearer_101 rfl rfl ?_
          refine ok_dup2 104 dX12_hearer_103 rfl rfl rfl ?_
          refine ok_ialdc 105 7 dX12_hearer_104 rfl sg_124 (by decide) (by decide) ?_
          refine ok_iconst 106 1 dX12_hearer_105 rfl rfl ?_
          refine ok_iload 108 4 dX12_hearer_106 rfl rfl ?_
          refine ok_ishl 109 dX12_hearer_108 rfl ?_
          refine ok_ior 110 dX12_hearer_109 rfl ?_
          refine ok_iastc 111 7 dX12_hearer_110 rfl sg_124 (by decide) (by decide) ?_
          refine ok_bndM (fun m_110 => ?_)
          refine ok_aload_n 112 0 dX12_hearer_111 rfl rfl rfl ?_
          refine ok_getR 115 dX12_hearer_112 rfl rfl F_EncoresModel_7 sg_123 rfl (Nat.le_of_ble_eq_true rfl) rfl rfl ?_
          refine ok_bipush 117 8 dX12_hearer_115 rfl rfl ?_
          refine ok_dup2 118 dX12_hearer_117 rfl rfl rfl ?_
          refine ok_ialdc 119 8 dX12_hearer_118 rfl sg_124 (by decide) (by decide) ?_
          refine ok_iconst 120 1 dX12_hearer_119 rfl rfl ?_
          refine ok_iload 122 4 dX12_hearer_120 rfl rfl ?_
          refine ok_ishl 123 dX12_hearer_122 rfl ?_
          refine ok_iconst 124 (-1) dX12_hearer_123 rfl rfl ?_
          refine ok_ixor 125 dX12_hearer_124 rfl ?_
          refine ok_iand 126 dX12_hearer_125 rfl ?_
          refine ok_iastc 127 8 dX12_hearer_126 rfl sg_124 (by decide) (by decide) ?_
          refine ok_bndM (fun m_126 => ?_)
          refine ok_aload_n 128 0 dX12_hearer_127 rfl rfl rfl ?_
          refine ok_getR 131 dX12_hearer_128 rfl rfl F_EncoresModel_7 sg_123 rfl (Nat.le_of_ble_eq_true rfl) rfl rfl ?_
          refine ok_bipush 133 37 dX12_hearer_131 rfl rfl ?_
          refine ok_dup2 134 dX12_hearer_133 rfl rfl rfl ?_
          refine ok_ialdc 135 37 dX12_hearer_134 rfl sg_124 (by decide) (by decide) ?_
          refine ok_iconst 136 1 dX12_hearer_135 rfl rfl ?_
          refine ok_iadd 137 dX12_hearer_136 rfl ?_
          refine ok_iastc 138 37 dX12_hearer_137 rfl sg_124 (by decide) (by decide) ?_
          refine ok_bndM (fun m_137 => ?_)
          refine ok_aload_n 139 0 dX12_hearer_138 rfl rfl rfl ?_
          refine ok_callVv (np := 0) (M' := m_X12_forgets) (As := []) (st := []) 142 dX12_hearer_139 rfl rfl km_X12_forgets ki_X12_forgets kv_X12_forgets ml_EncoresModel_63 (by decide) sg_123 rfl (Nat.le_of_ble_eq_true rfl) rfl rfl rfl (Nat.le_of_ble_eq_true rfl) (c_X12_forgets N (d + 0) m_137) ⟨Nat.le_refl _, Nat.le_refl _⟩ (Or.inl rfl) rfl (fun _ m_139 _ => ?_)
          refine ok_iload 144 4 dX12_hearer_142 rfl rfl ?_
          exact ok_iret dX12_hearer_144 rfl
        · refine ok_iconst 43 (-1) dX12_hearer_42 rfl rfl ?_
          exact ok_iret dX12_hearer_43 rfl

theorem c_X12_hearer (N d : Nat) (a1 : Int32) (a2 : Int32) (a3 : Int32)  (m : Mem) : CM (d + 1) m_X12_hearer SG SG [.ref 123, .int a1, .int a2, .int a3] m (f_X12_hearer N a1 a2 a3 m) :=
  CM.ofOk km_X12_hearer ⟨Nat.le_refl _, Nat.le_refl _⟩ (by simp [Value.category]) (Nat.le_of_ble_eq_true rfl) (ok_X12_hearer N d a1 a2 a3 m)

def f_X12_deed (N : Nat) (a1 : Int32) (a2 : Int32) (a3 : Int32) (m : Mem) : Ans :=
bd (f_X12_isIn N a1 0 9 m) fun r_4 m_4 =>
if r_4 = 0 then (some ((-1), m_4))
else (bd (f_X12_isIn N a2 1 60 m_4) fun r_14 m_14 =>
if r_14 = 0 then (some ((-1), m_14))
else (bd (f_X12_isIn N a3 0 99 m_14) fun r_24 m_24 =>
if r_24 = 0 then (some ((-1), m_24))
else (if (m_24 124 38) = (8 : Int32) then (some ((-1), m_24))
else (bnd (m_24 124 38) fun a4_51 =>
chk (inb ((81 : Int32) + a4_51) 1707) <|
bnd (mset m_24 124 ((81 : Int32) + a4_51).toNatClampNeg a1) fun m_63 =>
chk (inb ((89 : Int32) + a4_51) 1707) <|
bnd (mset m_63 124 ((89 : Int32) + a4_51).toNatClampNeg a2) fun m_74 =>
chk (inb ((97 : Int32) + a4_51) 1707) <|
bnd (mset m_74 124 ((97 : Int32) + a4_51).toNatClampNeg a3) fun m_85 =>
chk (inb ((21 : Int32) + a4_51) 1707) <|
bnd (mset m_85 124 ((21 : Int32) + a4_51).toNatClampNeg 0) fun m_96 =>
chk (inb ((29 : Int32) + a4_51) 1707) <|
bnd (mset m_96 124 ((29 : Int32) + a4_51).toNatClampNeg 0) fun m_107 =>
bnd (mset m_107 124 38 ((m_107 124 38) + (1 : Int32))) fun m_118 =>
bd (f_X12_forgets N m_118) fun _ m_120 =>
some (a4_51, m_120)))))

set_option maxRecDepth 100000 in
set_option maxHeartbeats 4000000 in
theorem ok_X12_deed (N d : Nat) (a1 : Int32) (a2 : Int32) (a3 : Int32)  (m : Mem) : Ok none SG (d + 1) m_X12_deed 0 [some (.ref 123), some (.int a1), some (.int a2), some (.int a3), none] [] SG m (f_X12_deed N a1 a2 a3 m) := by
  unfold f_X12_deed
  refine ok_iload_n 1 1 dX12_deed_0 rfl rfl rfl ?_
  refine ok_iconst 2 0 dX12_deed_1 rfl rfl ?_
  refine ok_bipush 4 9 dX12_deed_2 rfl rfl ?_
  refine ok_callSi (np := 3) (M' := m_X12_isIn) (As := [.int a1, .int 0, .int 9]) (st := []) 7 dX12_deed_4 rfl rfl km_X12_isIn ks_X12_isIn ml_EncoresModel_56 (by decide) rfl rfl (Nat.le_of_ble_eq_true rfl) (c_X12_isIn N (d + 0) a1 0 9 m) ⟨Nat.le_refl _, Nat.le_refl _⟩ (Or.inl rfl) rfl (fun r_4 m_4 _ => ?_)
  refine ok_if_eq 42 10 dX12_deed_7 (by decide) rfl (fun _ => ?_) (fun _ => ?_)
  · refine ok_iconst 43 (-1) dX12_deed_42 rfl rfl ?_
    exact ok_iret dX12_deed_43 rfl
  · refine ok_iload_n 11 2 dX12_deed_10 rfl rfl rfl ?_
    refine ok_iconst 12 1 dX12_deed_11 rfl rfl ?_
    refine ok_bipush 14 60 dX12_deed_12 rfl rfl ?_
    refine ok_callSi (np := 3) (M' := m_X12_isIn) (As := [.int a2, .int 1, .int 60]) (st := []) 17 dX12_deed_14 rfl rfl km_X12_isIn ks_X12_isIn ml_EncoresModel_56 (by decide) rfl rfl (Nat.le_of_ble_eq_true rfl) (c_X12_isIn N (d + 0) a2 1 60 m_4) ⟨Nat.le_refl _, Nat.le_refl _⟩ (Or.inl rfl) rfl (fun r_14 m_14 _ => ?_)
    refine ok_if_eq 42 20 dX12_deed_17 (by decide) rfl (fun _ => ?_) (fun _ => ?_)
    · refine ok_iconst 43 (-1) dX12_deed_42 rfl rfl ?_
      exact ok_iret dX12_deed_43 rfl
    · refine ok_iload_n 21 3 dX12_deed_20 rfl rfl rfl ?_
      refine ok_iconst 22 0 dX12_deed_21 rfl rfl ?_
      refine ok_bipush 24 99 dX12_deed_22 rfl rfl ?_
      refine ok_callSi (np := 3) (M' := m_X12_isIn) (As := [.int a3, .int 0, .int 99]) (st := []) 27 dX12_deed_24 rfl rfl km_X12_isIn ks_X12_isIn ml_EncoresModel_56 (by decide) rfl rfl (Nat.le_of_ble_eq_true rfl) (c_X12_isIn N (d + 0) a3 0 99 m_14) ⟨Nat.le_refl _, Nat.le_refl _⟩ (Or.inl rfl) rfl (fun r_24 m_24 _ => ?_)
      refine ok_if_eq 42 30 dX12_deed_27 (by decide) rfl (fun _ => ?_) (fun _ => ?_)
      · refine ok_iconst 43 (-1) dX12_deed_42 rfl rfl ?_
        exact ok_iret dX12_deed_43 rfl
      · refine ok_aload_n 31 0 dX12_deed_30 rfl rfl rfl ?_
        refine ok_getR 34 dX12_deed_31 rfl rfl F_EncoresModel_7 sg_123 rfl (Nat.le_of_ble_eq_true rfl) rfl rfl ?_
        refine ok_bipush 36 38 dX12_deed_34 rfl rfl ?_
        refine ok_ialdc 37 38 dX12_deed_36 rfl sg_124 (by decide) (by decide) ?_
        refine ok_bipush 39 8 dX12_deed_37 rfl rfl ?_
        refine ok_icmp_ne 44 42 dX12_deed_39 (by decide) rfl (fun _ => ?_) (fun _ => ?_)
        · refine ok_aload_n 45 0 dX12_deed_44 rfl rfl rfl ?_
          refine ok_getR 48 dX12_deed_45 rfl rfl F_EncoresModel_7 sg_123 rfl (Nat.le_of_ble_eq_true rfl) rfl rfl ?_
          refine ok_bipush 50 38 dX12_deed_48 rfl rfl ?_
          refine ok_ialdc 51 38 dX12_deed_50 rfl sg_124 (by decide) (by decide) ?_
          refine ok_bndI (fun a4_51 => ?_)
          refine ok_istore 53 4 [some (.ref 123), some (.int a1), some (.int a2), some (.int a3), some (.int a4_51)] dX12_deed_51 rfl (by decide) rfl ?_
          refine ok_aload_n 54 0 dX12_deed_53 rfl rfl rfl ?_
          refine ok_getR 57 dX12_deed_54 rfl rfl F_EncoresModel_7 sg_123 rfl (Nat.le_of_ble_eq_true rfl) rfl rfl ?_
          refine ok_bipush 59 81 dX12_deed_57 rfl rfl ?_
          refine ok_iload 61 4 dX12_deed_59 rfl rfl ?_
          refine ok_iadd 62 dX12_deed_61 rfl ?_
          refine ok_iload_n 63 1 dX12_deed_62 rfl rfl rfl ?_
          refine ok_iast 64 dX12_deed_63 rfl sg_124 ?_
          refine ok_bndM (fun m_63 => ?_)
          refine ok_aload_n 65 0 dX12_deed_64 rfl rfl rfl ?_
          refine ok_getR 68 dX12_deed_65 rfl rfl F_EncoresModel_7 sg_123 rfl (Nat.le_of_ble_eq_true rfl) rfl rfl ?_
          refine ok_bipush 70 89 dX12_deed_68 rfl rfl ?_
          refine ok_iload 72 4 dX12_deed_70 rfl rfl ?_
          refine ok_iadd 73 dX12_deed_72 rfl ?_
          refine ok_iload_n 74 2 dX12_deed_73 rfl rfl rfl ?_
          refine ok_iast 75 dX12_deed_74 rfl sg_124 ?_
          refine ok_bndM (fun m_74 => ?_)
          refine ok_aload_n 76 0 dX12_deed_75 rfl rfl rfl ?_
          refine ok_getR 79 dX12_deed_76 rfl rfl F_EncoresModel_7 sg_123 rfl (Nat.le_of_ble_eq_true rfl) rfl rfl ?_
          refine ok_bipush 81 97 dX12_deed_79 rfl rfl ?_
          refine ok_iload 83 4 dX12_deed_81 rfl rfl ?_
          refine ok_iadd 84 dX12_deed_83 rfl ?_
          refine ok_iload_n 85 3 dX12_deed_84 rfl rfl rfl ?_
          refine ok_iast 86 dX12_deed_85 rfl sg_124 ?_
          refine ok_bndM (fun m_85 => ?_)
          refine ok_aload_n 87 0 dX12_deed_86 rfl rfl rfl ?_
          refine ok_getR 90 dX12_deed_87 rfl rfl F_EncoresModel_7 sg_123 rfl (Nat.le_of_ble_eq_true rfl) rfl rfl ?_
          refine ok_bipush 92 21 dX12_deed_90 rfl rfl ?_
          refine ok_iload 94 4 dX12_deed_92 rfl rfl ?_
          refine ok_iadd 95 dX12_deed_94 rfl ?_
          refine ok_iconst 96 0 dX12_deed_95 rfl rfl ?_
          refine ok_iast 97 dX12_deed_96 rfl sg_124 ?_
          refine ok_bndM (fun m_96 => ?_)
          refine ok_aload_n 98 0 dX12_deed_97 rfl rfl rfl ?_
          refine ok_getR 101 dX12_deed_98 rfl rfl F_EncoresModel_7 sg_123 rfl (Nat.le_of_ble_eq_true rfl) rfl rfl ?_
          refine ok_bipush 103 29 dX12_deed_101 rfl rfl ?_
          refine ok_iload 105 4 dX12_deed_103 rfl rfl ?_
          refine ok_iadd 106 dX12_deed_105 rfl ?_
          refine ok_iconst 107 0 dX12_deed_106 rfl rfl ?_
          refine ok_iast 108 dX12_deed_107 rfl sg_124 ?_
          refine ok_bndM (fun m_107 => ?_)
          refine ok_aload_n 109 0 dX12_deed_108 rfl rfl rfl ?_
          refine ok_getR 112 dX12_deed_109 rfl rfl F_EncoresModel_7 sg_123 rfl (Nat.le_of_ble_eq_true rfl) rfl rfl ?_
          refine ok_bipush 114 38 dX12_deed_112 rfl rfl ?_
          refine ok_dup2 115 dX12_deed_114 rfl rfl rfl ?_
          refine ok_ialdc 116 38 dX12_deed_115 rfl sg_124 (by decide) (by decide) ?_
          refine ok_iconst 117 1 dX12_deed_116 rfl rfl ?_
          refine ok_iadd 118 dX12_deed_117 rfl ?_
          refine ok_iastc 119 38 dX12_deed_118 rfl sg_124 (by decide) (by decide) ?_
          refine ok_bndM (fun m_118 => ?_)
          refine ok_aload_n 120 0 dX12_deed_119 rfl rfl rfl ?_
          refine ok_callVv (np := 0) (M' := m_X12_forgets) (As := []) (st := []) 123 dX12_deed_120 rfl rfl km_X12_forgets ki_X12_forgets kv_X12_forgets ml_EncoresModel_63 (by decide) sg_123 rfl (Nat.le_of_ble_eq_true rfl) rfl rfl rfl (Nat.le_of_ble_eq_true rfl) (c_X12_forgets N (d + 0) m_118) ⟨Nat.le_refl _, Nat.le_refl _⟩ (Or.inl rfl) rfl (fun _ m_120 _ => ?_)
          refine ok_iload 125 4 dX12_deed_123 rfl rfl ?_
          exact ok_iret dX12_deed_125 rfl
        · refine ok_iconst 43 (-1) dX12_deed_42 rfl rfl ?_
          exact ok_iret dX12_deed_43 rfl

theorem c_X12_deed (N d : Nat) (a1 : Int32) (a2 : Int32) (a3 : Int32)  (m : Mem) : CM (d + 1) m_X12_deed SG SG [.ref 123, .int a1, .int a2, .int a3] m (f_X12_deed N a1 a2 a3 m) :=
  CM.ofOk km_X12_deed ⟨Nat.le_refl _, Nat.le_refl _⟩ (by simp [Value.category]) (Nat.le_of_ble_eq_true rfl) (ok_X12_deed N d a1 a2 a3 m)

def f_X12_canSet (N : Nat) (a1 : Int32) (a2 : Int32) (a3 : Int32) (m : Mem) : Ans :=
if a1 = 0 then (bd (f_X12_isIn N a3 0 1000 m) fun r_9 m_9 =>
chk (isB r_9) (some (r_9, m_9)))
else (bd (f_X12_isIn N a1 1 3 m) fun r_16 m_16 =>
if r_16 = 0 then (bd (f_X12_isDeed N a2 m_16) fun r_48 m_48 =>
if r_48 = 0 then (some (0, m_48))
else (if a1 = (4 : Int32) then (bd (f_X12_isIn N a3 0 9 m_48) fun r_63 m_63 =>
if r_63 = 0 then (some (0, m_63))
else (some (1, m_63)))
else (if a1 = (5 : Int32) then (bd (f_X12_isIn N a3 0 99 m_48) fun r_81 m_81 =>
if r_81 = 0 then (some (0, m_81))
else (some (1, m_81)))
else (some (0, m_48)))))
else (bd (f_X12_isHearer N a2 m_16) fun r_24 m_24 =>
if r_24 = 0 then (some (0, m_24))
else (bd (f_X12_isIn N a3 0 9 m_24) fun r_34 m_34 =>
if r_34 = 0 then (some (0, m_34))
else (some (1, m_34)))))

set_option maxRecDepth 100000 in
set_option maxHeartbeats 4000000 in
theorem ok_X12_canSet (N d : Nat) (a1 : Int32) (a2 : Int32) (a3 : Int32)  (m : Mem) : Ok none SG (d + 2) m_X12_canSet 0 [some (.ref 123), some (.int a1), some (.int a2), some (.int a3)] [] SG m (f_X12_canSet N a1 a2 a3 m) := by
  unfold f_X12_canSet
  refine ok_iload_n 1 1 dX12_canSet_0 rfl rfl rfl ?_
  refine ok_if_ne 13 4 dX12_canSet_1 (by decide) rfl (fun _ => ?_) (fun _ => ?_)
  · refine ok_iload_n 14 1 dX12_canSet_13 rfl rfl rfl ?_
    refine ok_iconst 15 1 dX12_canSet_14 rfl rfl ?_
    refine ok_iconst 16 3 dX12_canSet_15 rfl rfl ?_
    refine ok_callSi (np := 3) (M' := m_X12_isIn) (As := [.int a1, .int 1, .int 3]) (st := []) 19 dX12_canSet_16 rfl rfl km_X12_isIn ks_X12_isIn ml_EncoresModel_56 (by decide) rfl rfl (Nat.le_of_ble_eq_true rfl) (c_X12_isIn N (d + 1) a1 1 3 m) ⟨Nat.le_refl _, Nat.le_refl _⟩ (Or.inl rfl) rfl (fun r_16 m_16 _ => ?_)
    refine ok_if_eq 46 22 dX12_canSet_19 (by decide) rfl (fun _ => ?_) (fun _ => ?_)
    · refine ok_aload_n 47 0 dX12_canSet_46 rfl rfl rfl ?_
      refine ok_iload_n 48 2 dX12_canSet_47 rfl rfl rfl ?_
      refine ok_callVi (np := 1) (M' := m_X12_isDeed) (As := [.int a2]) (st := []) 51 dX12_canSet_48 rfl rfl km_X12_isDeed ki_X12_isDeed kv_X12_isDeed ml_EncoresModel_72 (by decide) sg_123 rfl (Nat.le_of_ble_eq_true rfl) rfl rfl rfl (Nat.le_of_ble_eq_true rfl) (c_X12_isDeed N (d + 0) a2 m_16) ⟨Nat.le_refl _, Nat.le_refl _⟩ (Or.inl rfl) rfl (fun r_48 m_48 _ => ?_)
      refine ok_if_eq 91 54 dX12_canSet_51 (by decide) rfl (fun _ => ?_) (fun _ => ?_)
      · refine ok_iconst 92 0 dX12_canSet_91 rfl rfl ?_
        exact ok_zretc dX12_canSet_92 rfl rfl
      · refine ok_iload_n 55 1 dX12_canSet_54 rfl rfl rfl ?_
        refine ok_iconst 56 4 dX12_canSet_55 rfl rfl ?_
        refine ok_icmp_ne 72 59 dX12_canSet_56 (by decide) rfl (fun _ => ?_) (fun _ => ?_)
        · refine ok_iload_n 73 1 dX12_canSet_72 rfl rfl rfl ?_
          refine ok_iconst 74 5 dX12_canSet_73 rfl rfl ?_
          refine ok_icmp_ne 91 77 dX12_canSet_74 (by decide) rfl (fun _ => ?_) (fun _ => ?_)
          · refine ok_iconst 92 0 dX12_canSet_91 rfl rfl ?_
            exact ok_zretc dX12_canSet_92 rfl rfl
          · refine ok_iload_n 78 3 dX12_canSet_77 rfl rfl rfl ?_
            refine ok_iconst 79 0 dX12_canSet_78 rfl rfl ?_
            refine ok_bipush 81 99 dX12_canSet_79 rfl rfl ?_
            refine ok_callSi (np := 3) (M' := m_X12_isIn) (As := [.int a3, .int 0, .int 99]) (st := []) 84 dX12_canSet_81 rfl rfl km_X12_isIn ks_X12_isIn ml_EncoresModel_56 (by decide) rfl rfl (Nat.le_of_ble_eq_true rfl) (c_X12_isIn N (d + 1) a3 0 99 m_48) ⟨Nat.le_refl _, Nat.le_refl _⟩ (Or.inl rfl) rfl (fun r_81 m_81 _ => ?_)
            refine ok_if_eq 91 87 dX12_canSet_84 (by decide) rfl (fun _ => ?_) (fun _ => ?_)
            · refine ok_iconst 92 0 dX12_canSet_91 rfl rfl ?_
              exact ok_zretc dX12_canSet_92 rfl rfl
            · refine ok_iconst 88 1 dX12_canSet_87 rfl rfl ?_
              refine ok_goto 92 dX12_canSet_88 (by decide) ?_
              exact ok_zretc dX12_canSet_92 rfl rfl
        · refine ok_iload_n 60 3 dX12_canSet_59 rfl rfl rfl ?_
          refine ok_iconst 61 0 dX12_canSet_60 rfl rfl ?_
          refine ok_bipush 63 9 dX12_canSet_61 rfl rfl ?_
          refine ok_callSi (np := 3) (M' := m_X12_isIn) (As := [.int a3, .int 0, .int 9]) (st := []) 66 dX12_canSet_63 rfl rfl km_X12_isIn ks_X12_isIn ml_EncoresModel_56 (by decide) rfl rfl (Nat.le_of_ble_eq_true rfl) (c_X12_isIn N (d + 1) a3 0 9 m_48) ⟨Nat.le_refl _, Nat.le_refl _⟩ (Or.inl rfl) rfl (fun r_63 m_63 _ => ?_)
          refine ok_if_eq 91 69 dX12_canSet_66 (by decide) rfl (fun _ => ?_) (fun _ => ?_)
          · refine ok_iconst 92 0 dX12_canSet_91 rfl rfl ?_
            exact ok_zretc dX12_canSet_92 rfl rfl
          · refine ok_goto 87 dX12_canSet_69 (by decide) ?_
            refine ok_iconst 88 1 dX12_canSet_87 rfl rfl ?_
            refine ok_goto 92 dX12_canSet_88 (by decide) ?_
            exact ok_zretc dX12_canSet_92 rfl rfl
    · refine ok_aload_n 23 0 dX12_canSet_22 rfl rfl rfl ?_
      refine ok_iload_n 24 2 dX12_canSet_23 rfl rfl rfl ?_
      refine ok_callVi (np := 1) (M' := m_X12_isHearer) (As := [.int a2]) (st := []) 27 dX12_canSet_24 rfl rfl km_X12_isHearer ki_X12_isHearer kv_X12_isHearer ml_EncoresModel_68 (by decide) sg_123 rfl (Nat.le_of_ble_eq_true rfl) rfl rfl rfl (Nat.le_of_ble_eq_true rfl) (c_X12_isHearer N (d + 0) a2 m_16) ⟨Nat.le_refl _, Nat.le_refl _⟩ (Or.inl rfl) rfl (fun r_24 m_24 _ => ?_)
      refine ok_if_eq 44 30 dX12_canSet_27 (by decide) rfl (fun _ => ?_) (fun _ => ?_)
      · refine ok_iconst 45 0 dX12_canSet_44 rfl rfl ?_
        exact ok_zretc dX12_canSet_45 rfl rfl
      · refine ok_iload_n 31 3 dX12_canSet_30 rfl rfl rfl ?_
        refine ok_iconst 32 0 dX12_canSet_31 rfl rfl ?_
        refine ok_bipush 34 9 dX12_canSet_32 rfl rfl ?_
        refine ok_callSi (np := 3) (M' := m_X12_isIn) (As := [.int a3, .int 0, .int 9]) (st := []) 37 dX12_canSet_34 rfl rfl km_X12_isIn ks_X12_isIn ml_EncoresModel_56 (by decide) rfl rfl (Nat.le_of_ble_eq_true rfl) (c_X12_isIn N (d + 1) a3 0 9 m_24) ⟨Nat.le_refl _, Nat.le_refl _⟩ (Or.inl rfl) rfl (fun r_34 m_34 _ => ?_)
        refine ok_if_eq 44 40 dX12_canSet_37 (by decide) rfl (fun _ => ?_) (fun _ => ?_)
        · refine ok_iconst 45 0 dX12_canSet_44 rfl rfl ?_
          exact ok_zretc dX12_canSet_45 rfl rfl
        · refine ok_iconst 41 1 dX12_canSet_40 rfl rfl ?_
          refine ok_goto 45 dX12_canSet_41 (by decide) ?_
          exact ok_zretc dX12_canSet_45 rfl rfl
  · refine ok_iload_n 5 3 dX12_canSet_4 rfl rfl rfl ?_
    refine ok_iconst 6 0 dX12_canSet_5 rfl rfl ?_
    refine ok_sipush 9 1000 dX12_canSet_6 rfl rfl ?_
    refine ok_callSi (np := 3) (M' := m_X12_isIn) (As := [.int a3, .int 0, .int 1000]) (st := []) 12 dX12_canSet_9 rfl rfl km_X12_isIn ks_X12_isIn ml_EncoresModel_56 (by decide) rfl rfl (Nat.le_of_ble_eq_true rfl) (c_X12_isIn N (d + 1) a3 0 1000 m) ⟨Nat.le_refl _, Nat.le_refl _⟩ (Or.inl rfl) rfl (fun r_9 m_9 _ => ?_)
    exact ok_zret dX12_canSet_12 rfl

theorem c_X12_canSet (N d : Nat) (a1 : Int32) (a2 : Int32) (a3 : Int32)  (m : Mem) : CM (d + 2) m_X12_canSet SG SG [.ref 123, .int a1, .int a2, .int a3] m (f_X12_canSet N a1 a2 a3 m) :=
  CM.ofOk km_X12_canSet ⟨Nat.le_refl _, Nat.le_refl _⟩ (by simp [Value.category]) (Nat.le_of_ble_eq_true rfl) (ok_X12_canSet N d a1 a2 a3 m)

def f_X12_set (N : Nat) (a1 : Int32) (a2 : Int32) (a3 : Int32) (m : Mem) : Ans :=
bd (f_X12_canSet N a1 a2 a3 m) fun r_4 m_4 =>
if r_4 = 0 then (some (0, m_4))
else (if a1 = 0 then (bnd (mset m_4 124 39 a3) fun m_55 =>
bd (f_X12_forgets N m_55) fun _ m_103 =>
some (1, m_103))
else (if a1 = 4 then (chk (inb ((81 : Int32) + a2) 1707) <|
bnd (mset m_4 124 ((81 : Int32) + a2).toNatClampNeg a3) fun m_68 =>
bd (f_X12_forgets N m_68) fun _ m_103 =>
some (1, m_103))
else (if a1 = 5 then (chk (inb ((21 : Int32) + a2) 1707) <|
bnd (mset m_4 124 ((21 : Int32) + a2).toNatClampNeg a3) fun m_81 =>
bd (f_X12_forgets N m_81) fun _ m_103 =>
some (1, m_103))
else (chk (inb (((45 : Int32) + ((12 : Int32) * (a1 - (1 : Int32)))) + a2) 1707) <|
bnd (mset m_4 124 (((45 : Int32) + ((12 : Int32) * (a1 - (1 : Int32)))) + a2).toNatClampNeg a3) fun m_101 =>
bd (f_X12_forgets N m_101) fun _ m_103 =>
some (1, m_103)))))

set_option maxRecDepth 100000 in
set_option maxHeartbeats 4000000 in
theorem ok_X12_set (N d : Nat) (a1 : Int32) (a2 : Int32) (a3 : Int32)  (m : Mem) : Ok none SG (d + 3) m_X12_set 0 [some (.ref 123), some (.int a1), some (.int a2), some (.int a3)] [] SG m (f_X12_set N a1 a2 a3 m) := by
  unfold f_X12_set
  refine ok_aload_n 1 0 dX12_set_0 rfl rfl rfl ?_
  refine ok_iload_n 2 1 dX12_set_1 rfl rfl rfl ?_
  refine ok_iload_n 3 2 dX12_set_2 rfl rfl rfl ?_
  refine ok_iload_n 4 3 dX12_set_3 rfl rfl rfl ?_
  refine ok_callVi (np := 3) (M' := m_X12_canSet) (As := [.int a1, .int a2, .int a3]) (st := []) 7 dX12_set_4 rfl rfl km_X12_canSet ki_X12_canSet kv_X12_canSet ml_EncoresModel_75 (by decide) sg_123 rfl (Nat.le_of_ble_eq_true rfl) rfl rfl rfl (Nat.le_of_ble_eq_true rfl) (c_X12_canSet N (d + 0) a1 a2 a3 m) ⟨Nat.le_refl _, Nat.le_refl _⟩ (Or.inl rfl) rfl (fun r_4 m_4 _ => ?_)
  refine ok_if_ne 12 10 dX12_set_7 (by decide) rfl (fun _ => ?_) (fun _ => ?_)
  · refine ok_iload_n 13 1 dX12_set_12 rfl rfl rfl ?_
    refine ok_lsw dX12_set_13 (by decide) ?_
    by_cases hq_13_0 : a1 = 0
    · rw [if_pos hq_13_0]
      refine ⟨48, by rw [hq_13_0]; decide, ?_⟩
      refine ok_aload_n 49 0 dX12_set_48 rfl rfl rfl ?_
      refine ok_getR 52 dX12_set_49 rfl rfl F_EncoresModel_7 sg_123 rfl (Nat.le_of_ble_eq_true rfl) rfl rfl ?_
      refine ok_bipush 54 39 dX12_set_52 rfl rfl ?_
      refine ok_iload_n 55 3 dX12_set_54 rfl rfl rfl ?_
      refine ok_iastc 56 39 dX12_set_55 rfl sg_124 (by decide) (by decide) ?_
      refine ok_bndM (fun m_55 => ?_)
      refine ok_goto 102 dX12_set_56 (by decide) ?_
      refine ok_aload_n 103 0 dX12_set_102 rfl rfl rfl ?_
      refine ok_callVv (np := 0) (M' := m_X12_forgets) (As := []) (st := []) 106 dX12_set_103 rfl rfl km_X12_forgets ki_X12_forgets kv_X12_forgets ml_EncoresModel_63 (by decide) sg_123 rfl (Nat.le_of_ble_eq_true rfl) rfl rfl rfl (Nat.le_of_ble_eq_true rfl) (c_X12_forgets N (d + 2) m_55) ⟨Nat.le_refl _, Nat.le_refl _⟩ (Or.inl rfl) rfl (fun _ m_103 _ => ?_)
      refine ok_iconst 107 1 dX12_set_106 rfl rfl ?_
      exact ok_zretc dX12_set_107 rfl rfl
    rw [if_neg hq_13_0]
    by_cases hq_13_4 : a1 = 4
    · rw [if_pos hq_13_4]
      refine ⟨59, by rw [hq_13_4]; decide, ?_⟩
      refine ok_aload_n 60 0 dX12_set_59 rfl rfl rfl ?_
      refine ok_getR 63 dX12_set_60 rfl rfl F_EncoresModel_7 sg_123 rfl (Nat.le_of_ble_eq_true rfl) rfl rfl ?_
      refine ok_bipush 65 81 dX12_set_63 rfl rfl ?_
      refine ok_iload_n 66 2 dX12_set_65 rfl rfl rfl ?_
      refine ok_iadd 67 dX12_set_66 rfl ?_
      refine ok_iload_n 68 3 dX12_set_67 rfl rfl rfl ?_
      refine ok_iast 69 dX12_set_68 rfl sg_124 ?_
      refine ok_bndM (fun m_68 => ?_)
      refine ok_goto 102 dX12_set_69 (by decide) ?_
      refine ok_aload_n 103 0 dX12_set_102 rfl rfl rfl ?_
      refine ok_callVv (np := 0) (M' := m_X12_forgets) (As := []) (st := []) 106 dX12_set_103 rfl rfl km_X12_forgets ki_X12_forgets kv_X12_forgets ml_EncoresModel_63 (by decide) sg_123 rfl (Nat.le_of_ble_eq_true rfl) rfl rfl rfl (Nat.le_of_ble_eq_true rfl) (c_X12_forgets N (d + 2) m_68) ⟨Nat.le_refl _, Nat.le_refl _⟩ (Or.inl rfl) rfl (fun _ m_103 _ => ?_)
      refine ok_iconst 107 1 dX12_set_106 rfl rfl ?_
      exact ok_zretc dX12_set_107 rfl rfl
    rw [if_neg hq_13_4]
    by_cases hq_13_5 : a1 = 5
    · rw [if_pos hq_13_5]
      refine ⟨72, by rw [hq_13_5]; decide, ?_⟩
      refine ok_aload_n 73 0 dX12_set_72 rfl rfl rfl ?_
      refine ok_getR 76 dX12_set_73 rfl rfl F_EncoresModel_7 sg_123 rfl (Nat.le_of_ble_eq_true rfl) rfl rfl ?_
      refine ok_bipush 78 21 dX12_set_76 rfl rfl ?_
      refine ok_iload_n 79 2 dX12_set_78 rfl rfl rfl ?_
      refine ok_iadd 80 dX12_set_79 rfl ?_
      refine ok_iload_n 81 3 dX12_set_80 rfl rfl rfl ?_
      refine ok_iast 82 dX12_set_81 rfl sg_124 ?_
      refine ok_bndM (fun m_81 => ?_)
      refine ok_goto 102 dX12_set_82 (by decide) ?_
      refine ok_aload_n 103 0 dX12_set_102 rfl rfl rfl ?_
      refine ok_callVv (np := 0) (M' := m_X12_forgets) (As := []) (st := []) 106 dX12_set_103 rfl rfl km_X12_forgets ki_X12_forgets kv_X12_forgets ml_EncoresModel_63 (by decide) sg_123 rfl (Nat.le_of_ble_eq_true rfl) rfl rfl rfl (Nat.le_of_ble_eq_true rfl) (c_X12_forgets N (d + 2) m_81) ⟨Nat.le_refl _, Nat.le_refl _⟩ (Or.inl rfl) rfl (fun _ m_103 _ => ?_)
      refine ok_iconst 107 1 dX12_set_106 rfl rfl ?_
      exact ok_zretc dX12_set_107 rfl rfl
    rw [if_neg hq_13_5]
    refine ⟨85, ?_, ?_⟩
    · refine lsw_none (by decide) (fun q hq => ?_)
      simp only [List.mem_cons, List.not_mem_nil, or_false] at hq
      rcases hq with rfl | rfl | rfl
      · exact fun h2 => hq_13_0 (Int32.toInt_inj.mp (h2.trans (by decide : (0 : Int) = (0 : Int32).toInt)))
      · exact fun h2 => hq_13_4 (Int32.toInt_inj.mp (h2.trans (by decide : (4 : Int) = (4 : Int32).toInt)))
      · exact fun h2 => hq_13_5 (Int32.toInt_inj.mp (h2.trans (by decide : (5 : Int) = (5 : Int32).toInt)))
    · refine ok_aload_n 86 0 dX12_set_85 rfl rfl rfl ?_
      refine ok_getR 89 dX12_set_86 rfl rfl F_EncoresModel_7 sg_123 rfl (Nat.le_of_ble_eq_true rfl) rfl rfl ?_
      refine ok_bipush 91 45 dX12_set_89 rfl rfl ?_
      refine ok_bipush 93 12 dX12_set_91 rfl rfl ?_
      refine ok_iload_n 94 1 dX12_set_93 rfl rfl rfl ?_
      refine ok_iconst 95 1 dX12_set_94 rfl rfl ?_
      refine ok_isub 96 dX12_set_95 rfl ?_
      refine ok_imul 97 dX12_set_96 rfl ?_
      refine ok_iadd 98 dX12_set_97 rfl ?_
      refine ok_iload_n 99 2 dX12_set_98 rfl rfl rfl ?_
      refine ok_iadd 100 dX12_set_99 rfl ?_
      refine ok_iload_n 101 3 dX12_set_100 rfl rfl rfl ?_
      refine ok_iast 102 dX12_set_101 rfl sg_124 ?_
      refine ok_bndM (fun m_101 => ?_)
      refine ok_aload_n 103 0 dX12_set_102 rfl rfl rfl ?_
      refine ok_callVv (np := 0) (M' := m_X12_forgets) (As := []) (st := []) 106 dX12_set_103 rfl rfl km_X12_forgets ki_X12_forgets kv_X12_forgets ml_EncoresModel_63 (by decide) sg_123 rfl (Nat.le_of_ble_eq_true rfl) rfl rfl rfl (Nat.le_of_ble_eq_true rfl) (c_X12_forgets N (d + 2) m_101) ⟨Nat.le_refl _, Nat.le_refl _⟩ (Or.inl rfl) rfl (fun _ m_103 _ => ?_)
      refine ok_iconst 107 1 dX12_set_106 rfl rfl ?_
      exact ok_zretc dX12_set_107 rfl rfl
  · refine ok_iconst 11 0 dX12_set_10 rfl rfl ?_
    exact ok_zretc dX12_set_11 rfl rfl

theorem c_X12_set (N d : Nat) (a1 : Int32) (a2 : Int32) (a3 : Int32)  (m : Mem) : CM (d + 3) m_X12_set SG SG [.ref 123, .int a1, .int a2, .int a3] m (f_X12_set N a1 a2 a3 m) :=
  CM.ofOk km_X12_set ⟨Nat.le_refl _, Nat.le_refl _⟩ (by simp [Value.category]) (Nat.le_of_ble_eq_true rfl) (ok_X12_set N d a1 a2 a3 m)

def f_X12_feed_J71 (N : Nat) (a1 : Int32) (a2 : Int32) (a3 : Int32) (a4 : Int32) (a5 : Int32)   (X : Int32 → Mem → Ans) (s6_71 : Int32) (t0_71 : Int32) (m : Mem) : Ans :=
chk (inb (m 123 16) 400) <|
bnd (mset m 131 (m 123 16).toNatClampNeg ((t0_71 >>> (((24 : Int32) - ((8 : Int32) * (irm s6_71 (4 : Int32)))) &&& 31)) &&& (255 : Int32))) fun m_98 =>
bnd (mset m_98 123 16 ((m_98 123 16) + (1 : Int32))) fun m_106 =>
X (s6_71 + 1) m_106

def f_X12_feed_L18 (N : Nat) (a1 : Int32) (a2 : Int32) (a3 : Int32) (a4 : Int32) (a5 : Int32)   (X : Int32 → Mem → Ans) (s6_18 : Int32) (m : Mem) : Ans :=
if (20 : Int32) ≤ s6_18 then (some (m 123 16, m))
else (if (4 : Int32) ≤ s6_18 then (if (8 : Int32) ≤ s6_18 then (if (12 : Int32) ≤ s6_18 then (if (16 : Int32) ≤ s6_18 then (f_X12_feed_J71 N a1 a2 a3 a4 a5  X s6_18 a5 m)
else (f_X12_feed_J71 N a1 a2 a3 a4 a5  X s6_18 a4 m))
else (f_X12_feed_J71 N a1 a2 a3 a4 a5  X s6_18 a3 m))
else (f_X12_feed_J71 N a1 a2 a3 a4 a5  X s6_18 a2 m))
else (f_X12_feed_J71 N a1 a2 a3 a4 a5  X s6_18 a1 m))

def f_X12_feed (N : Nat) (a1 : Int32) (a2 : Int32) (a3 : Int32) (a4 : Int32) (a5 : Int32) (m : Mem) : Ans :=
if ((m 123 16) + (20 : Int32)) ≤ (400 : Int32) then (it1 (f_X12_feed_L18 N a1 a2 a3 a4 a5 ) N 0 m)
else (some ((-1), m))

set_option maxRecDepth 100000 in
set_option maxHeartbeats 4000000 in
theorem ok_X12_feed_J71 (N d : Nat) (a1 : Int32) (a2 : Int32) (a3 : Int32) (a4 : Int32) (a5 : Int32)    (X : Int32 → Mem → Ans) (hX : ∀ (k6 : Int32) (m : Mem), Ok none SG (d + 0) m_X12_feed 18 [some (.ref 123), some (.int a1), some (.int a2), some (.int a3), some (.int a4), some (.int a5), some (.int k6), none] [] SG m (X k6 m)) (s6_71 : Int32) (t0_71 : Int32) (m : Mem) : Ok none SG (d + 0) m_X12_feed 71 [some (.ref 123), some (.int a1), some (.int a2), some (.int a3), some (.int a4), some (.int a5), some (.int s6_71), none] [.int t0_71] SG m (f_X12_feed_J71 N a1 a2 a3 a4 a5  X s6_71 t0_71 m) := by
  unfold f_X12_feed_J71
  refine ok_istore 73 7 [some (.ref 123), some (.int a1), some (.int a2), some (.int a3), some (.int a4), some (.int a5), some (.int s6_71), some (.int t0_71)] dX12_feed_71 rfl (by decide) rfl ?_
  refine ok_aload_n 74 0 dX12_feed_73 rfl rfl rfl ?_
  refine ok_getR 77 dX12_feed_74 rfl rfl F_EncoresModel_31 sg_123 rfl (Nat.le_of_ble_eq_true rfl) rfl rfl ?_
  refine ok_aload_n 78 0 dX12_feed_77 rfl rfl rfl ?_
  refine ok_getI 81 dX12_feed_78 rfl rfl F_EncoresModel_78 sg_123 rfl (Nat.le_of_ble_eq_true rfl) rfl ?_
  refine ok_iload 83 7 dX12_feed_81 rfl rfl ?_
  refine ok_bipush 85 24 dX12_feed_83 rfl rfl ?_
  refine ok_bipush 87 8 dX12_feed_85 rfl rfl ?_
  refine ok_iload 89 6 dX12_feed_87 rfl rfl ?_
  refine ok_iconst 90 4 dX12_feed_89 rfl rfl ?_
  refine ok_iremc 91 dX12_feed_90 rfl (by decide) ?_
  refine ok_imul 92 dX12_feed_91 rfl ?_
  refine ok_isub 93 dX12_feed_92 rfl ?_
  refine ok_ishr 94 dX12_feed_93 rfl ?_
  refine ok_sipush 97 255 dX12_feed_94 rfl rfl ?_
  refine ok_iand 98 dX12_feed_97 rfl ?_
  refine ok_iast 99 dX12_feed_98 rfl sg_131 ?_
  refine ok_bndM (fun m_98 => ?_)
  refine ok_aload_n 100 0 dX12_feed_99 rfl rfl rfl ?_
  refine ok_dup 101 dX12_feed_100 rfl rfl ?_
  refine ok_getI 104 dX12_feed_101 rfl rfl F_EncoresModel_78 sg_123 rfl (Nat.le_of_ble_eq_true rfl) rfl ?_
  refine ok_iconst 105 1 dX12_feed_104 rfl rfl ?_
  refine ok_iadd 106 dX12_feed_105 rfl ?_
  refine ok_putI 109 dX12_feed_106 rfl rfl F_EncoresModel_78 sg_123 rfl (Nat.le_of_ble_eq_true rfl) rfl rfl pZ_12_16 rfl rfl ?_
  refine ok_bndM (fun m_106 => ?_)
  refine ok_iinc 112 6 1 [some (.ref 123), some (.int a1), some (.int a2), some (.int a3), some (.int a4), some (.int a5), some (.int (s6_71 + 1)), some (.int t0_71)] dX12_feed_109 rfl rfl rfl (by decide) rfl ?_
  refine ok_goto 18 dX12_feed_112 (by decide) ?_
  exact ok_less [some (.ref 123), some (.int a1), some (.int a2), some (.int a3), some (.int a4), some (.int a5), some (.int (s6_71 + 1)), none] (And.intro rfl (And.intro rfl (And.intro rfl (And.intro rfl (And.intro rfl (And.intro rfl (And.intro rfl (trivial)))))))) (hX (s6_71 + 1) m_106)

set_option maxRecDepth 100000 in
set_option maxHeartbeats 4000000 in
theorem ok_X12_feed_L18 (N d : Nat) (a1 : Int32) (a2 : Int32) (a3 : Int32) (a4 : Int32) (a5 : Int32)    : ∀ (n : Nat) (s6_18 : Int32) (m : Mem), Ok none SG (d + 0) m_X12_feed 18 [some (.ref 123), some (.int a1), some (.int a2), some (.int a3), some (.int a4), some (.int a5), some (.int s6_18), none] [] SG m (it1 (f_X12_feed_L18 N a1 a2 a3 a4 a5) n s6_18 m) :=
  ok_it1 (fun s6_18 => [some (.ref 123), some (.int a1), some (.int a2), some (.int a3), some (.int a4), some (.int a5), some (.int s6_18), none]) (fun X hX s6_18 m => by
    try unfold f_X12_feed_L18
    refine ok_iload 20 6 dX12_feed_18 rfl rfl ?_
    refine ok_bipush 22 20 dX12_feed_20 rfl rfl ?_
    refine ok_icmp_ge 115 25 dX12_feed_22 (by decide) rfl (fun _ => ?_) (fun _ => ?_)
    · refine ok_aload_n 116 0 dX12_feed_115 rfl rfl rfl ?_
      refine ok_getI 119 dX12_feed_116 rfl rfl F_EncoresModel_78 sg_123 rfl (Nat.le_of_ble_eq_true rfl) rfl ?_
      exact ok_iret dX12_feed_119 rfl
    · refine ok_iload 27 6 dX12_feed_25 rfl rfl ?_
      refine ok_iconst 28 4 dX12_feed_27 rfl rfl ?_
      refine ok_icmp_ge 35 31 dX12_feed_28 (by decide) rfl (fun _ => ?_) (fun _ => ?_)
      · refine ok_iload 37 6 dX12_feed_35 rfl rfl ?_
        refine ok_bipush 39 8 dX12_feed_37 rfl rfl ?_
        refine ok_icmp_ge 46 42 dX12_feed_39 (by decide) rfl (fun _ => ?_) (fun _ => ?_)
        · refine ok_iload 48 6 dX12_feed_46 rfl rfl ?_
          refine ok_bipush 50 12 dX12_feed_48 rfl rfl ?_
          refine ok_icmp_ge 57 53 dX12_feed_50 (by decide) rfl (fun _ => ?_) (fun _ => ?_)
          · refine ok_iload 59 6 dX12_feed_57 rfl rfl ?_
            refine ok_bipush 61 16 dX12_feed_59 rfl rfl ?_
            refine ok_icmp_ge 69 64 dX12_feed_61 (by decide) rfl (fun _ => ?_) (fun _ => ?_)
            · refine ok_iload 71 5 dX12_feed_69 rfl rfl ?_
              exact ok_less [some (.ref 123), some (.int a1), some (.int a2), some (.int a3), some (.int a4), some (.int a5), some (.int s6_18), none] (And.intro rfl (And.intro rfl (And.intro rfl (And.intro rfl (And.intro rfl (And.intro rfl (And.intro rfl (trivial)))))))) (ok_X12_feed_J71 N d a1 a2 a3 a4 a5   X hX s6_18 a5 m)
            · refine ok_iload 66 4 dX12_feed_64 rfl rfl ?_
              refine ok_goto 71 dX12_feed_66 (by decide) ?_
              exact ok_less [some (.ref 123), some (.int a1), some (.int a2), some (.int a3), some (.int a4), some (.int a5), some (.int s6_18), none] (And.intro rfl (And.intro rfl (And.intro rfl (And.intro rfl (And.intro rfl (And.intro rfl (And.intro rfl (trivial)))))))) (ok_X12_feed_J71 N d a1 a2 a3 a4 a5   X hX s6_18 a4 m)
          · refine ok_iload_n 54 3 dX12_feed_53 rfl rfl rfl ?_
            refine ok_goto 71 dX12_feed_54 (by decide) ?_
            exact ok_less [some (.ref 123), some (.int a1), some (.int a2), some (.int a3), some (.int a4), some (.int a5), some (.int s6_18), none] (And.intro rfl (And.intro rfl (And.intro rfl (And.intro rfl (And.intro rfl (And.intro rfl (And.intro rfl (trivial)))))))) (ok_X12_feed_J71 N d a1 a2 a3 a4 a5   X hX s6_18 a3 m)
        · refine ok_iload_n 43 2 dX12_feed_42 rfl rfl rfl ?_
          refine ok_goto 71 dX12_feed_43 (by decide) ?_
          exact ok_less [some (.ref 123), some (.int a1), some (.int a2), some (.int a3), some (.int a4), some (.int a5), some (.int s6_18), none] (And.intro rfl (And.intro rfl (And.intro rfl (And.intro rfl (And.intro rfl (And.intro rfl (And.intro rfl (trivial)))))))) (ok_X12_feed_J71 N d a1 a2 a3 a4 a5   X hX s6_18 a2 m)
      · refine ok_iload_n 32 1 dX12_feed_31 rfl rfl rfl ?_
        refine ok_goto 71 dX12_feed_32 (by decide) ?_
        exact ok_less [some (.ref 123), some (.int a1), some (.int a2), some (.int a3), some (.int a4), some (.int a5), some (.int s6_18), none] (And.intro rfl (And.intro rfl (And.intro rfl (And.intro rfl (And.intro rfl (And.intro rfl (And.intro rfl (trivial)))))))) (ok_X12_feed_J71 N d a1 a2 a3 a4 a5   X hX s6_18 a1 m))

set_option maxRecDepth 100000 in
set_option maxHeartbeats 4000000 in
theorem ok_X12_feed (N d : Nat) (a1 : Int32) (a2 : Int32) (a3 : Int32) (a4 : Int32) (a5 : Int32)  (m : Mem) : Ok none SG (d + 0) m_X12_feed 0 [some (.ref 123), some (.int a1), some (.int a2), some (.int a3), some (.int a4), some (.int a5), none, none] [] SG m (f_X12_feed N a1 a2 a3 a4 a5 m) := by
  unfold f_X12_feed
  refine ok_aload_n 1 0 dX12_feed_0 rfl rfl rfl ?_
  refine ok_getI 4 dX12_feed_1 rfl rfl F_EncoresModel_78 sg_123 rfl (Nat.le_of_ble_eq_true rfl) rfl ?_
  refine ok_bipush 6 20 dX12_feed_4 rfl rfl ?_
  refine ok_iadd 7 dX12_feed_6 rfl ?_
  refine ok_sipush 10 400 dX12_feed_7 rfl rfl ?_
  refine ok_icmp_le 15 13 dX12_feed_10 (by decide) rfl (fun _ => ?_) (fun _ => ?_)
  · refine ok_iconst 16 0 dX12_feed_15 rfl rfl ?_
    refine ok_istore 18 6 [some (.ref 123), some (.int a1), some (.int a2), some (.int a3), some (.int a4), some (.int a5), some (.int 0), none] dX12_feed_16 rfl (by decide) rfl ?_
    refine ok_less [some (.ref 123), some (.int a1), some (.int a2), some (.int a3), some (.int a4), some (.int a5), some (.int 0), none] (And.intro rfl (And.intro rfl (And.intro rfl (And.intro rfl (And.intro rfl (And.intro rfl (And.intro rfl (trivial)))))))) ?_
    exact ok_X12_feed_L18 N d a1 a2 a3 a4 a5    N 0 m
  · refine ok_iconst 14 (-1) dX12_feed_13 rfl rfl ?_
    exact ok_iret dX12_feed_14 rfl

theorem c_X12_feed (N d : Nat) (a1 : Int32) (a2 : Int32) (a3 : Int32) (a4 : Int32) (a5 : Int32)  (m : Mem) : CM (d + 0) m_X12_feed SG SG [.ref 123, .int a1, .int a2, .int a3, .int a4, .int a5] m (f_X12_feed N a1 a2 a3 a4 a5 m) :=
  CM.ofOk km_X12_feed ⟨Nat.le_refl _, Nat.le_refl _⟩ (by simp [Value.category]) (Nat.le_of_ble_eq_true rfl) (ok_X12_feed N d a1 a2 a3 a4 a5 m)

def f_X12_end (N : Nat) (a1 : Int32) (m : Mem) : Ans :=
bd (f_X12_isIn N a1 0 (m 123 16) m) fun r_6 m_6 =>
if r_6 = 0 then (some (0, m_6))
else (bnd (mset m_6 123 16 a1) fun m_16 =>
some (1, m_16))

set_option maxRecDepth 100000 in
set_option maxHeartbeats 4000000 in
theorem ok_X12_end (N d : Nat) (a1 : Int32)  (m : Mem) : Ok none SG (d + 1) m_X12_end 0 [some (.ref 123), some (.int a1)] [] SG m (f_X12_end N a1 m) := by
  unfold f_X12_end
  refine ok_iload_n 1 1 dX12_end_0 rfl rfl rfl ?_
  refine ok_iconst 2 0 dX12_end_1 rfl rfl ?_
  refine ok_aload_n 3 0 dX12_end_2 rfl rfl rfl ?_
  refine ok_getI 6 dX12_end_3 rfl rfl F_EncoresModel_78 sg_123 rfl (Nat.le_of_ble_eq_true rfl) rfl ?_
  refine ok_callSi (np := 3) (M' := m_X12_isIn) (As := [.int a1, .int 0, .int (m 123 16)]) (st := []) 9 dX12_end_6 rfl rfl km_X12_isIn ks_X12_isIn ml_EncoresModel_56 (by decide) rfl rfl (Nat.le_of_ble_eq_true rfl) (c_X12_isIn N (d + 0) a1 0 (m 123 16) m) ⟨Nat.le_refl _, Nat.le_refl _⟩ (Or.inl rfl) rfl (fun r_6 m_6 _ => ?_)
  refine ok_if_ne 14 12 dX12_end_9 (by decide) rfl (fun _ => ?_) (fun _ => ?_)
  · refine ok_aload_n 15 0 dX12_end_14 rfl rfl rfl ?_
    refine ok_iload_n 16 1 dX12_end_15 rfl rfl rfl ?_
    refine ok_putI 19 dX12_end_16 rfl rfl F_EncoresModel_78 sg_123 rfl (Nat.le_of_ble_eq_true rfl) rfl rfl pZ_12_16 rfl rfl ?_
    refine ok_bndM (fun m_16 => ?_)
    refine ok_iconst 20 1 dX12_end_19 rfl rfl ?_
    exact ok_zretc dX12_end_20 rfl rfl
  · refine ok_iconst 13 0 dX12_end_12 rfl rfl ?_
    exact ok_zretc dX12_end_13 rfl rfl

theorem c_X12_end (N d : Nat) (a1 : Int32)  (m : Mem) : CM (d + 1) m_X12_end SG SG [.ref 123, .int a1] m (f_X12_end N a1 m) :=
  CM.ofOk km_X12_end ⟨Nat.le_refl _, Nat.le_refl _⟩ (by simp [Value.category]) (Nat.le_of_ble_eq_true rfl) (ok_X12_end N d a1 m)

def f_X12_see (N : Nat) (a1 : Int32) (m : Mem) : Ans :=
if (m 123 16) ≤ a1 then (some ((-1), m))
else (chk (inb a1 400) <|
some (m 131 a1.toNatClampNeg, m))

set_option maxRecDepth 100000 in
set_option maxHeartbeats 4000000 in
theorem ok_X12_see (N d : Nat) (a1 : Int32)  (m : Mem) : Ok none SG (d + 0) m_X12_see 0 [some (.ref 123), some (.int a1)] [] SG m (f_X12_see N a1 m) := by
  unfold f_X12_see
  refine ok_iload_n 1 1 dX12_see_0 rfl rfl rfl ?_
  refine ok_aload_n 2 0 dX12_see_1 rfl rfl rfl ?_
  refine ok_getI 5 dX12_see_2 rfl rfl F_EncoresModel_78 sg_123 rfl (Nat.le_of_ble_eq_true rfl) rfl ?_
  refine ok_icmp_ge 17 8 dX12_see_5 (by decide) rfl (fun _ => ?_) (fun _ => ?_)
  · refine ok_iconst 18 (-1) dX12_see_17 rfl rfl ?_
    exact ok_iret dX12_see_18 rfl
  · refine ok_aload_n 9 0 dX12_see_8 rfl rfl rfl ?_
    refine ok_getR 12 dX12_see_9 rfl rfl F_EncoresModel_31 sg_123 rfl (Nat.le_of_ble_eq_true rfl) rfl rfl ?_
    refine ok_iload_n 13 1 dX12_see_12 rfl rfl rfl ?_
    refine ok_iald 14 dX12_see_13 rfl sg_131 ?_
    refine ok_goto 18 dX12_see_14 (by decide) ?_
    exact ok_iret dX12_see_18 rfl

theorem c_X12_see (N d : Nat) (a1 : Int32)  (m : Mem) : CM (d + 0) m_X12_see SG SG [.ref 123, .int a1] m (f_X12_see N a1 m) :=
  CM.ofOk km_X12_see ⟨Nat.le_refl _, Nat.le_refl _⟩ (by simp [Value.category]) (Nat.le_of_ble_eq_true rfl) (ok_X12_see N d a1 m)

def f_X12_isLetter (N : Nat) (a0 : Int32) (m : Mem) : Ans :=
bd (f_X12_isIn N a0 97 122 m) fun r_5 m_5 =>
if r_5 = 0 then (bd (f_X12_isIn N a0 65 90 m_5) fun r_16 m_16 =>
if r_16 = 0 then (some (0, m_16))
else (some (1, m_16)))
else (some (1, m_5))

set_option maxRecDepth 100000 in
set_option maxHeartbeats 4000000 in
theorem ok_X12_isLetter (N d : Nat) (a0 : Int32)  (m : Mem) : Ok none SG (d + 1) m_X12_isLetter 0 [some (.int a0)] [] SG m (f_X12_isLetter N a0 m) := by
  unfold f_X12_isLetter
  refine ok_iload_n 1 0 dX12_isLetter_0 rfl rfl rfl ?_
  refine ok_bipush 3 97 dX12_isLetter_1 rfl rfl ?_
  refine ok_bipush 5 122 dX12_isLetter_3 rfl rfl ?_
  refine ok_callSi (np := 3) (M' := m_X12_isIn) (As := [.int a0, .int 97, .int 122]) (st := []) 8 dX12_isLetter_5 rfl rfl km_X12_isIn ks_X12_isIn ml_EncoresModel_56 (by decide) rfl rfl (Nat.le_of_ble_eq_true rfl) (c_X12_isIn N (d + 0) a0 97 122 m) ⟨Nat.le_refl _, Nat.le_refl _⟩ (Or.inl rfl) rfl (fun r_5 m_5 _ => ?_)
  refine ok_if_ne 22 11 dX12_isLetter_8 (by decide) rfl (fun _ => ?_) (fun _ => ?_)
  · refine ok_iconst 23 1 dX12_isLetter_22 rfl rfl ?_
    refine ok_goto 27 dX12_isLetter_23 (by decide) ?_
    exact ok_zretc dX12_isLetter_27 rfl rfl
  · refine ok_iload_n 12 0 dX12_isLetter_11 rfl rfl rfl ?_
    refine ok_bipush 14 65 dX12_isLetter_12 rfl rfl ?_
    refine ok_bipush 16 90 dX12_isLetter_14 rfl rfl ?_
    refine ok_callSi (np := 3) (M' := m_X12_isIn) (As := [.int a0, .int 65, .int 90]) (st := []) 19 dX12_isLetter_16 rfl rfl km_X12_isIn ks_X12_isIn ml_EncoresModel_56 (by decide) rfl rfl (Nat.le_of_ble_eq_true rfl) (c_X12_isIn N (d + 0) a0 65 90 m_5) ⟨Nat.le_refl _, Nat.le_refl _⟩ (Or.inl rfl) rfl (fun r_16 m_16 _ => ?_)
    refine ok_if_eq 26 22 dX12_isLetter_19 (by decide) rfl (fun _ => ?_) (fun _ => ?_)
    · refine ok_iconst 27 0 dX12_isLetter_26 rfl rfl ?_
      exact ok_zretc dX12_isLetter_27 rfl rfl
    · refine ok_iconst 23 1 dX12_isLetter_22 rfl rfl ?_
      refine ok_goto 27 dX12_isLetter_23 (by decide) ?_
      exact ok_zretc dX12_isLetter_27 rfl rfl

theorem c_X12_isLetter (N d : Nat) (a0 : Int32)  (m : Mem) : CM (d + 1) m_X12_isLetter SG SG [.int a0] m (f_X12_isLetter N a0 m) :=
  CM.ofOk km_X12_isLetter ⟨Nat.le_refl _, Nat.le_refl _⟩ (by simp [Value.category]) (Nat.le_of_ble_eq_true rfl) (ok_X12_isLetter N d a0 m)

def f_X12_isDigit (N : Nat) (a0 : Int32) (m : Mem) : Ans :=
bd (f_X12_isIn N a0 48 57 m) fun r_5 m_5 =>
chk (isB r_5) (some (r_5, m_5))

set_option maxRecDepth 100000 in
set_option maxHeartbeats 4000000 in
theorem ok_X12_isDigit (N d : Nat) (a0 : Int32)  (m : Mem) : Ok none SG (d + 1) m_X12_isDigit 0 [some (.int a0)] [] SG m (f_X12_isDigit N a0 m) := by
  unfold f_X12_isDigit
  refine ok_iload_n 1 0 dX12_isDigit_0 rfl rfl rfl ?_
  refine ok_bipush 3 48 dX12_isDigit_1 rfl rfl ?_
  refine ok_bipush 5 57 dX12_isDigit_3 rfl rfl ?_
  refine ok_callSi (np := 3) (M' := m_X12_isIn) (As := [.int a0, .int 48, .int 57]) (st := []) 8 dX12_isDigit_5 rfl rfl km_X12_isIn ks_X12_isIn ml_EncoresModel_56 (by decide) rfl rfl (Nat.le_of_ble_eq_true rfl) (c_X12_isIn N (d + 0) a0 48 57 m) ⟨Nat.le_refl _, Nat.le_refl _⟩ (Or.inl rfl) rfl (fun r_5 m_5 _ => ?_)
  exact ok_zret dX12_isDigit_8 rfl

theorem c_X12_isDigit (N d : Nat) (a0 : Int32)  (m : Mem) : CM (d + 1) m_X12_isDigit SG SG [.int a0] m (f_X12_isDigit N a0 m) :=
  CM.ofOk km_X12_isDigit ⟨Nat.le_refl _, Nat.le_refl _⟩ (by simp [Value.category]) (Nat.le_of_ble_eq_true rfl) (ok_X12_isDigit N d a0 m)

def f_X12_is_L24 (N : Nat) (a1 : Nat)   (X : Int32 → Int32 → Mem → Ans) (s2_24 : Int32) (s3_24 : Int32) (m : Mem) : Ans :=
bd (f_J0_length_8abf5 N a1 m) fun r_26 m_26 =>
if r_26 ≤ s3_24 then (chk (isB s2_24) (some (s2_24, m_26)))
else (if s2_24 = 0 then (chk (isB s2_24) (some (s2_24, m_26)))
else (chk (inb ((m_26 123 19) + s3_24) 400) <|
bd (f_J0_charAt_5068e N a1 s3_24 m_26) fun r_49 m_49 =>
if (m_26 131 ((m_26 123 19) + s3_24).toNatClampNeg) = r_49 then (X 1 (s3_24 + 1) m_49)
else (X 0 (s3_24 + 1) m_49)))

def f_X12_is_J21 (N : Nat) (a1 : Nat)   (t0_21 : Int32) (m : Mem) : Ans :=
it2 (f_X12_is_L24 N a1 ) N t0_21 0 m

def f_X12_is (N : Nat) (a1 : Nat) (m : Mem) : Ans :=
bd (f_J0_length_8abf5 N a1 m) fun r_10 m_10 =>
if ((m 123 17) - (m 123 19)) = r_10 then (f_X12_is_J21 N a1 1 m_10)
else (f_X12_is_J21 N a1 0 m_10)

set_option maxRecDepth 100000 in
set_option maxHeartbeats 4000000 in
theorem ok_X12_is_L24 (N d : Nat) (a1 : Nat) (h1 : 1000 ≤ a1 ∧ a1 < 1000 + strN)   : ∀ (n : Nat) (s2_24 : Int32) (s3_24 : Int32) (m : Mem), Ok none SG (d + 4) m_X12_is 24 [some (.ref 123), some (.ref a1), some (.int s2_24), some (.int s3_24)] [] SG m (it2 (f_X12_is_L24 N a1) n s2_24 s3_24 m) :=
  ok_it2 (fun s2_24 s3_24 => [some (.ref 123), some (.ref a1), some (.int s2_24), some (.int s3_24)]) (fun X hX s2_24 s3_24 m => by
    try unfold f_X12_is_L24
    refine ok_iload_n 25 3 dX12_is_24 rfl rfl rfl ?_
    refine ok_aload_n 26 1 dX12_is_25 rfl rfl rfl ?_
    refine ok_callVStr (np := 0) (M' := m_J0_length_8abf5) (As := []) (st := [.int s3_24]) 29 dX12_is_26 rfl rfl km_J0_length_8abf5 ki_J0_length_8abf5 kv_J0_length_8abf5 ml_EncoresModel_87 (by decide) h1 rfl rfl rfl (Nat.le_of_ble_eq_true rfl) (c_J0_length_8abf5 N (d + 2) a1 h1 m) ⟨Nat.le_refl _, Nat.le_refl _⟩ (Or.inl rfl) rfl (fun r_26 m_26 _ => ?_)
    refine ok_icmp_ge 67 32 dX12_is_29 (by decide) rfl (fun _ => ?_) (fun _ => ?_)
    · refine ok_iload_n 68 2 dX12_is_67 rfl rfl rfl ?_
      exact ok_zret dX12_is_68 rfl
    · refine ok_iload_n 33 2 dX12_is_32 rfl rfl rfl ?_
      refine ok_if_eq 67 36 dX12_is_33 (by decide) rfl (fun _ => ?_) (fun _ => ?_)
      · refine ok_iload_n 68 2 dX12_is_67 rfl rfl rfl ?_
        exact ok_zret dX12_is_68 rfl
      · refine ok_aload_n 37 0 dX12_is_36 rfl rfl rfl ?_
        refine ok_getR 40 dX12_is_37 rfl rfl F_EncoresModel_31 sg_123 rfl (Nat.le_of_ble_eq_true rfl) rfl rfl ?_
        refine ok_aload_n 41 0 dX12_is_40 rfl rfl rfl ?_
        refine ok_getI 44 dX12_is_41 rfl rfl F_EncoresModel_84 sg_123 rfl (Nat.le_of_ble_eq_true rfl) rfl ?_
        refine ok_iload_n 45 3 dX12_is_44 rfl rfl rfl ?_
        refine ok_iadd 46 dX12_is_45 rfl ?_
        refine ok_iald 47 dX12_is_46 rfl sg_131 ?_
        refine ok_aload_n 48 1 dX12_is_47 rfl rfl rfl ?_
        refine ok_iload_n 49 3 dX12_is_48 rfl rfl rfl ?_
        refine ok_callVStr (np := 1) (M' := m_J0_charAt_5068e) (As := [.int s3_24]) (st := [.int (m_26 131 ((m_26 123 19) + s3_24).toNatClampNeg)]) 52 dX12_is_49 rfl rfl km_J0_charAt_5068e ki_J0_charAt_5068e kv_J0_charAt_5068e ml_EncoresModel_93 (by decide) h1 rfl rfl rfl (Nat.le_of_ble_eq_true rfl) (c_J0_charAt_5068e N (d + 0) a1 s3_24 h1 m_26) ⟨Nat.le_refl _, Nat.le_refl _⟩ (Or.inl rfl) rfl (fun r_49 m_49 _ => ?_)
        refine ok_icmp_ne 59 55 dX12_is_52 (by decide) rfl (fun _ => ?_) (fun _ => ?_)
        · refine ok_iconst 60 0 dX12_is_59 rfl rfl ?_
          refine ok_istore_n 61 2 [some (.ref 123), some (.ref a1), some (.int 0), some (.int s3_24)] dX12_is_60 rfl rfl (by decide) rfl ?_
          refine ok_iinc 64 3 1 [some (.ref 123), some (.ref a1), some (.int 0), some (.int (s3_24 + 1))] dX12_is_61 rfl rfl rfl (by decide) rfl ?_
          refine ok_goto 24 dX12_is_64 (by decide) ?_
          exact ok_less [some (.ref 123), some (.ref a1), some (.int 0), some (.int (s3_24 + 1))] (And.intro rfl (And.intro rfl (And.intro rfl (And.intro rfl (trivial))))) (hX 0 (s3_24 + 1) m_49)
        · refine ok_iconst 56 1 dX12_is_55 rfl rfl ?_
          refine ok_goto 60 dX12_is_56 (by decide) ?_
          refine ok_istore_n 61 2 [some (.ref 123), some (.ref a1), some (.int 1), some (.int s3_24)] dX12_is_60 rfl rfl (by decide) rfl ?_
          refine ok_iinc 64 3 1 [some (.ref 123), some (.ref a1), some (.int 1), some (.int (s3_24 + 1))] dX12_is_61 rfl rfl rfl (by decide) rfl ?_
          refine ok_goto 24 dX12_is_64 (by decide) ?_
          exact ok_less [some (.ref 123), some (.ref a1), some (.int 1), some (.int (s3_24 + 1))] (And.intro rfl (And.intro rfl (And.intro rfl (And.intro rfl (trivial))))) (hX 1 (s3_24 + 1) m_49))

set_option maxRecDepth 100000 in
set_option maxHeartbeats 4000000 in
theorem ok_X12_is_J21 (N d : Nat) (a1 : Nat) (h1 : 1000 ≤ a1 ∧ a1 < 1000 + strN)   (t0_21 : Int32) (m : Mem) : Ok none SG (d + 4) m_X12_is 21 [some (.ref 123), some (.ref a1), none, none] [.int t0_21] SG m (f_X12_is_J21 N a1 t0_21 m) := by
  unfold f_X12_is_J21
  refine ok_istore_n 22 2 [some (.ref 123), some (.ref a1), some (.int t0_21), none] dX12_is_21 rfl rfl (by decide) rfl ?_
  refine ok_iconst 23 0 dX12_is_22 rfl rfl ?_
  refine ok_istore_n 24 3 [some (.ref 123), some (.ref a1), some (.int t0_21), some (.int 0)] dX12_is_23 rfl rfl (by decide) rfl ?_
  refine ok_less [some (.ref 123), some (.ref a1), some (.int t0_21), some (.int 0)] (And.intro rfl (And.intro rfl (And.intro rfl (And.intro rfl (trivial))))) ?_
  exact ok_X12_is_L24 N d a1 h1    N t0_21 0 m

set_option maxRecDepth 100000 in
set_option maxHeartbeats 4000000 in
theorem ok_X12_is (N d : Nat) (a1 : Nat) (h1 : 1000 ≤ a1 ∧ a1 < 1000 + strN) (m : Mem) : Ok none SG (d + 4) m_X12_is 0 [some (.ref 123), some (.ref a1), none, none] [] SG m (f_X12_is N a1 m) := by
  unfold f_X12_is
  refine ok_aload_n 1 0 dX12_is_0 rfl rfl rfl ?_
  refine ok_getI 4 dX12_is_1 rfl rfl F_EncoresModel_81 sg_123 rfl (Nat.le_of_ble_eq_true rfl) rfl ?_
  refine ok_aload_n 5 0 dX12_is_4 rfl rfl rfl ?_
  refine ok_getI 8 dX12_is_5 rfl rfl F_EncoresModel_84 sg_123 rfl (Nat.le_of_ble_eq_true rfl) rfl ?_
  refine ok_isub 9 dX12_is_8 rfl ?_
  refine ok_aload_n 10 1 dX12_is_9 rfl rfl rfl ?_
  refine ok_callVStr (np := 0) (M' := m_J0_length_8abf5) (As := []) (st := [.int ((m 123 17) - (m 123 19))]) 13 dX12_is_10 rfl rfl km_J0_length_8abf5 ki_J0_length_8abf5 kv_J0_length_8abf5 ml_EncoresModel_87 (by decide) h1 rfl rfl rfl (Nat.le_of_ble_eq_true rfl) (c_J0_length_8abf5 N (d + 2) a1 h1 m) ⟨Nat.le_refl _, Nat.le_refl _⟩ (Or.inl rfl) rfl (fun r_10 m_10 _ => ?_)
  refine ok_icmp_ne 20 16 dX12_is_13 (by decide) rfl (fun _ => ?_) (fun _ => ?_)
  · refine ok_iconst 21 0 dX12_is_20 rfl rfl ?_
    exact ok_less [some (.ref 123), some (.ref a1), none, none] (And.intro rfl (And.intro rfl (trivial))) (ok_X12_is_J21 N d a1 h1   0 m_10)
  · refine ok_iconst 17 1 dX12_is_16 rfl rfl ?_
    refine ok_goto 21 dX12_is_17 (by decide) ?_
    exact ok_less [some (.ref 123), some (.ref a1), none, none] (And.intro rfl (And.intro rfl (trivial))) (ok_X12_is_J21 N d a1 h1   1 m_10)

theorem c_X12_is (N d : Nat) (a1 : Nat) (h1 : 1000 ≤ a1 ∧ a1 < 1000 + strN) (m : Mem) : CM (d + 4) m_X12_is SG SG [.ref 123, .ref a1] m (f_X12_is N a1 m) :=
  CM.ofOk km_X12_is ⟨Nat.le_refl _, Nat.le_refl _⟩ (by simp [Value.category]) (Nat.le_of_ble_eq_true rfl) (ok_X12_is N d a1 h1 m)

