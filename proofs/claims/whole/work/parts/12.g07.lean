def f_X12_image_L15 (N : Nat) (a1 : Int32)  (K59 : Mem → Ans) (X : Int32 → Mem → Ans) (s2_15 : Int32) (m : Mem) : Ans :=
if (1707 : Int32) ≤ s2_15 then (K59 m)
else (if a1 = 0 then (chk (inb s2_15 1707) <|
chk (inb s2_15 1707) <|
bnd (mset m 124 s2_15.toNatClampNeg (m 125 s2_15.toNatClampNeg)) fun m_52 =>
X (s2_15 + 1) m_52)
else (chk (inb s2_15 1707) <|
chk (inb s2_15 1707) <|
bnd (mset m 125 s2_15.toNatClampNeg (m 124 s2_15.toNatClampNeg)) fun m_37 =>
X (s2_15 + 1) m_37))

def f_X12_image_J13 (N : Nat) (a1 : Int32)    (m : Mem) : Ans :=
it1 (f_X12_image_L15 N a1 (fun mk59 => if a1 = 0 then (bd (f_X12_forgets N mk59) fun _ m_64 =>
bnd (mset m_64 123 5 1) fun m_69 =>
some (1, m_69))
else (bnd (mset mk59 123 5 1) fun m_69 =>
some (1, m_69)))) N 0 m

def f_X12_image (N : Nat) (a1 : Int32) (m : Mem) : Ans :=
if a1 = 0 then (if (m 123 5) = 0 then (some (0, m))
else (f_X12_image_J13 N a1 m))
else (f_X12_image_J13 N a1 m)

set_option maxRecDepth 100000 in
set_option maxHeartbeats 4000000 in
theorem ok_X12_image_L15 (N d : Nat) (a1 : Int32)   (K59 : Mem → Ans) (hK59 : ∀  (m : Mem), Ok none SG (d + 1) m_X12_image 59 [some (.ref 123), some (.int a1), none] [] SG m (K59 m)) : ∀ (n : Nat) (s2_15 : Int32) (m : Mem), Ok none SG (d + 1) m_X12_image 15 [some (.ref 123), some (.int a1), some (.int s2_15)] [] SG m (it1 (f_X12_image_L15 N a1 K59) n s2_15 m) :=
  ok_it1 (fun s2_15 => [some (.ref 123), some (.int a1), some (.int s2_15)]) (fun X hX s2_15 m => by
    try unfold f_X12_image_L15
    refine ok_iload_n 16 2 dX12_image_15 rfl rfl rfl ?_
    refine ok_sipush 19 1707 dX12_image_16 rfl rfl ?_
    refine ok_icmp_ge 59 22 dX12_image_19 (by decide) rfl (fun _ => ?_) (fun _ => ?_)
    · exact ok_less [some (.ref 123), some (.int a1), none] (And.intro rfl (And.intro rfl (trivial))) (hK59 m)
    · refine ok_iload_n 23 1 dX12_image_22 rfl rfl rfl ?_
      refine ok_if_eq 41 26 dX12_image_23 (by decide) rfl (fun _ => ?_) (fun _ => ?_)
      · refine ok_aload_n 42 0 dX12_image_41 rfl rfl rfl ?_
        refine ok_getR 45 dX12_image_42 rfl rfl F_EncoresModel_7 sg_123 rfl (Nat.le_of_ble_eq_true rfl) rfl rfl ?_
        refine ok_iload_n 46 2 dX12_image_45 rfl rfl rfl ?_
        refine ok_aload_n 47 0 dX12_image_46 rfl rfl rfl ?_
        refine ok_getR 50 dX12_image_47 rfl rfl F_EncoresModel_13 sg_123 rfl (Nat.le_of_ble_eq_true rfl) rfl rfl ?_
        refine ok_iload_n 51 2 dX12_image_50 rfl rfl rfl ?_
        refine ok_iald 52 dX12_image_51 rfl sg_125 ?_
        refine ok_iast 53 dX12_image_52 rfl sg_124 ?_
        refine ok_bndM (fun m_52 => ?_)
        refine ok_iinc 56 2 1 [some (.ref 123), some (.int a1), some (.int (s2_15 + 1))] dX12_image_53 rfl rfl rfl (by decide) rfl ?_
        refine ok_goto 15 dX12_image_56 (by decide) ?_
        exact ok_less [some (.ref 123), some (.int a1), some (.int (s2_15 + 1))] (And.intro rfl (And.intro rfl (And.intro rfl (trivial)))) (hX (s2_15 + 1) m_52)
      · refine ok_aload_n 27 0 dX12_image_26 rfl rfl rfl ?_
        refine ok_getR 30 dX12_image_27 rfl rfl F_EncoresModel_13 sg_123 rfl (Nat.le_of_ble_eq_true rfl) rfl rfl ?_
        refine ok_iload_n 31 2 dX12_image_30 rfl rfl rfl ?_
        refine ok_aload_n 32 0 dX12_image_31 rfl rfl rfl ?_
        refine ok_getR 35 dX12_image_32 rfl rfl F_EncoresModel_7 sg_123 rfl (Nat.le_of_ble_eq_true rfl) rfl rfl ?_
        refine ok_iload_n 36 2 dX12_image_35 rfl rfl rfl ?_
        refine ok_iald 37 dX12_image_36 rfl sg_124 ?_
        refine ok_iast 38 dX12_image_37 rfl sg_125 ?_
        refine ok_bndM (fun m_37 => ?_)
        refine ok_goto 53 dX12_image_38 (by decide) ?_
        refine ok_iinc 56 2 1 [some (.ref 123), some (.int a1), some (.int (s2_15 + 1))] dX12_image_53 rfl rfl rfl (by decide) rfl ?_
        refine ok_goto 15 dX12_image_56 (by decide) ?_
        exact ok_less [some (.ref 123), some (.int a1), some (.int (s2_15 + 1))] (And.intro rfl (And.intro rfl (And.intro rfl (trivial)))) (hX (s2_15 + 1) m_37))

set_option maxRecDepth 100000 in
set_option maxHeartbeats 4000000 in
theorem ok_X12_image_J13 (N d : Nat) (a1 : Int32)     (m : Mem) : Ok none SG (d + 1) m_X12_image 13 [some (.ref 123), some (.int a1), none] [] SG m (f_X12_image_J13 N a1 m) := by
  unfold f_X12_image_J13
  refine ok_iconst 14 0 dX12_image_13 rfl rfl ?_
  refine ok_istore_n 15 2 [some (.ref 123), some (.int a1), some (.int 0)] dX12_image_14 rfl rfl (by decide) rfl ?_
  refine ok_less [some (.ref 123), some (.int a1), some (.int 0)] (And.intro rfl (And.intro rfl (And.intro rfl (trivial)))) ?_
  exact ok_X12_image_L15 N d a1  _ (fun mk59 => by
      refine ok_iload_n 60 1 dX12_image_59 rfl rfl rfl ?_
      refine ok_if_ne 67 63 dX12_image_60 (by decide) rfl (fun _ => ?_) (fun _ => ?_)
      · refine ok_aload_n 68 0 dX12_image_67 rfl rfl rfl ?_
        refine ok_iconst 69 1 dX12_image_68 rfl rfl ?_
        refine ok_putZc 72 dX12_image_69 rfl rfl F_EncoresModel_437 sg_123 rfl (Nat.le_of_ble_eq_true rfl) rfl rfl pZ_12_5 rfl ?_
        refine ok_bndM (fun m_69 => ?_)
        refine ok_iconst 73 1 dX12_image_72 rfl rfl ?_
        exact ok_zretc dX12_image_73 rfl rfl
      · refine ok_aload_n 64 0 dX12_image_63 rfl rfl rfl ?_
        refine ok_callVv (np := 0) (M' := m_X12_forgets) (As := []) (st := []) 67 dX12_image_64 rfl rfl km_X12_forgets ki_X12_forgets kv_X12_forgets ml_EncoresModel_63 (by decide) sg_123 rfl (Nat.le_of_ble_eq_true rfl) rfl rfl rfl (Nat.le_of_ble_eq_true rfl) (c_X12_forgets N (d + 0) mk59) ⟨Nat.le_refl _, Nat.le_refl _⟩ (Or.inl rfl) rfl (fun _ m_64 _ => ?_)
        refine ok_aload_n 68 0 dX12_image_67 rfl rfl rfl ?_
        refine ok_iconst 69 1 dX12_image_68 rfl rfl ?_
        refine ok_putZc 72 dX12_image_69 rfl rfl F_EncoresModel_437 sg_123 rfl (Nat.le_of_ble_eq_true rfl) rfl rfl pZ_12_5 rfl ?_
        refine ok_bndM (fun m_69 => ?_)
        refine ok_iconst 73 1 dX12_image_72 rfl rfl ?_
        exact ok_zretc dX12_image_73 rfl rfl) N 0 m

set_option maxRecDepth 100000 in
set_option maxHeartbeats 4000000 in
theorem ok_X12_image (N d : Nat) (a1 : Int32)  (m : Mem) : Ok none SG (d + 1) m_X12_image 0 [some (.ref 123), some (.int a1), none] [] SG m (f_X12_image N a1 m) := by
  unfold f_X12_image
  refine ok_iload_n 1 1 dX12_image_0 rfl rfl rfl ?_
  refine ok_if_ne 13 4 dX12_image_1 (by decide) rfl (fun _ => ?_) (fun _ => ?_)
  · exact ok_less [some (.ref 123), some (.int a1), none] (And.intro rfl (And.intro rfl (trivial))) (ok_X12_image_J13 N d a1   m)
  · refine ok_aload_n 5 0 dX12_image_4 rfl rfl rfl ?_
    refine ok_getI 8 dX12_image_5 rfl rfl F_EncoresModel_437 sg_123 rfl (Nat.le_of_ble_eq_true rfl) rfl ?_
    refine ok_if_ne 13 11 dX12_image_8 (by decide) rfl (fun _ => ?_) (fun _ => ?_)
    · exact ok_less [some (.ref 123), some (.int a1), none] (And.intro rfl (And.intro rfl (trivial))) (ok_X12_image_J13 N d a1   m)
    · refine ok_iconst 12 0 dX12_image_11 rfl rfl ?_
      exact ok_zretc dX12_image_12 rfl rfl

theorem c_X12_image (N d : Nat) (a1 : Int32)  (m : Mem) : CM (d + 1) m_X12_image SG SG [.ref 123, .int a1] m (f_X12_image N a1 m) :=
  CM.ofOk km_X12_image ⟨Nat.le_refl _, Nat.le_refl _⟩ (by simp [Value.category]) (Nat.le_of_ble_eq_true rfl) (ok_X12_image N d a1 m)

def f_X12_look (N : Nat) (a1 : Int32) (m : Mem) : Ans :=
swt (Int32.toInt a1 - (0)) [(some (m 124 37, m)),
(some (m 124 38, m)),
(some (m 124 0, m)),
(some (m 124 1, m)),
(some (m 124 2, m)),
(some (m 124 39, m)),
(some (m 124 3, m)),
(some (m 124 4, m)),
(some (m 124 7, m)),
(some (m 124 6, m)),
(some (m 124 5, m)),
(some (m 124 40, m)),
(some (m 124 41, m)),
(some (m 124 42, m)),
(some (m 124 43, m)),
(some (m 124 44, m)),
(some (m 123 4, m))] (some ((-100000), m))

set_option maxRecDepth 100000 in
set_option maxHeartbeats 4000000 in
theorem ok_X12_look (N d : Nat) (a1 : Int32)  (m : Mem) : Ok none SG (d + 0) m_X12_look 0 [some (.ref 123), some (.int a1)] [] SG m (f_X12_look N a1 m) := by
  unfold f_X12_look
  refine ok_iload_n 1 1 dX12_look_0 rfl rfl rfl ?_
  refine ok_tsw 211 [84, 92, 100, 107, 114, 121, 129, 136, 143, 151, 159, 166, 174, 182, 190, 198, 206] dX12_look_1 (by decide) (by decide) (by decide) rfl ?_ ?_
  · refine And.intro ?_ (And.intro ?_ (And.intro ?_ (And.intro ?_ (And.intro ?_ (And.intro ?_ (And.intro ?_ (And.intro ?_ (And.intro ?_ (And.intro ?_ (And.intro ?_ (And.intro ?_ (And.intro ?_ (And.intro ?_ (And.intro ?_ (And.intro ?_ (And.intro ?_ (trivial)))))))))))))))))
    · refine ok_aload_n 85 0 dX12_look_84 rfl rfl rfl ?_
      refine ok_getR 88 dX12_look_85 rfl rfl F_EncoresModel_7 sg_123 rfl (Nat.le_of_ble_eq_true rfl) rfl rfl ?_
      refine ok_bipush 90 37 dX12_look_88 rfl rfl ?_
      refine ok_ialdc 91 37 dX12_look_90 rfl sg_124 (by decide) (by decide) ?_
      exact ok_iret dX12_look_91 rfl
    · refine ok_aload_n 93 0 dX12_look_92 rfl rfl rfl ?_
      refine ok_getR 96 dX12_look_93 rfl rfl F_EncoresModel_7 sg_123 rfl (Nat.le_of_ble_eq_true rfl) rfl rfl ?_
      refine ok_bipush 98 38 dX12_look_96 rfl rfl ?_
      refine ok_ialdc 99 38 dX12_look_98 rfl sg_124 (by decide) (by decide) ?_
      exact ok_iret dX12_look_99 rfl
    · refine ok_aload_n 101 0 dX12_look_100 rfl rfl rfl ?_
      refine ok_getR 104 dX12_look_101 rfl rfl F_EncoresModel_7 sg_123 rfl (Nat.le_of_ble_eq_true rfl) rfl rfl ?_
      refine ok_iconst 105 0 dX12_look_104 rfl rfl ?_
      refine ok_ialdc 106 0 dX12_look_105 rfl sg_124 (by decide) (by decide) ?_
      exact ok_iret dX12_look_106 rfl
    · refine ok_aload_n 108 0 dX12_look_107 rfl rfl rfl ?_
      refine ok_getR 111 dX12_look_108 rfl rfl F_EncoresModel_7 sg_123 rfl (Nat.le_of_ble_eq_true rfl) rfl rfl ?_
      refine ok_iconst 112 1 dX12_look_111 rfl rfl ?_
      refine ok_ialdc 113 1 dX12_look_112 rfl sg_124 (by decide) (by decide) ?_
      exact ok_iret dX12_look_113 rfl
    · refine ok_aload_n 115 0 dX12_look_114 rfl rfl rfl ?_
      refine ok_getR 118 dX12_look_115 rfl rfl F_EncoresModel_7 sg_123 rfl (Nat.le_of_ble_eq_true rfl) rfl rfl ?_
      refine ok_iconst 119 2 dX12_look_118 rfl rfl ?_
      refine ok_ialdc 120 2 dX12_look_119 rfl sg_124 (by decide) (by decide) ?_
      exact ok_iret dX12_look_120 rfl
    · refine ok_aload_n 122 0 dX12_look_121 rfl rfl rfl ?_
      refine ok_getR 125 dX12_look_122 rfl rfl F_EncoresModel_7 sg_123 rfl (Nat.le_of_ble_eq_true rfl) rfl rfl ?_
      refine ok_bipush 127 39 dX12_look_125 rfl rfl ?_
      refine ok_ialdc 128 39 dX12_look_127 rfl sg_124 (by decide) (by decide) ?_
      exact ok_iret dX12_look_128 rfl
    · refine ok_aload_n 130 0 dX12_look_129 rfl rfl rfl ?_
      refine ok_getR 133 dX12_look_130 rfl rfl F_EncoresModel_7 sg_123 rfl (Nat.le_of_ble_eq_true rfl) rfl rfl ?_
      refine ok_iconst 134 3 dX12_look_133 rfl rfl ?_
      refine ok_ialdc 135 3 dX12_look_134 rfl sg_124 (by decide) (by decide) ?_
      exact ok_iret dX12_look_135 rfl
    · refine ok_aload_n 137 0 dX12_look_136 rfl rfl rfl ?_
      refine ok_getR 140 dX12_look_137 rfl rfl F_EncoresModel_7 sg_123 rfl (Nat.le_of_ble_eq_true rfl) rfl rfl ?_
      refine ok_iconst 141 4 dX12_look_140 rfl rfl ?_
      refine ok_ialdc 142 4 dX12_look_141 rfl sg_124 (by decide) (by decide) ?_
      exact ok_iret dX12_look_142 rfl
    · refine ok_aload_n 144 0 dX12_look_143 rfl rfl rfl ?_
      refine ok_getR 147 dX12_look_144 rfl rfl F_EncoresModel_7 sg_123 rfl (Nat.le_of_ble_eq_true rfl) rfl rfl ?_
      refine ok_bipush 149 7 dX12_look_147 rfl rfl ?_
      refine ok_ialdc 150 7 dX12_look_149 rfl sg_124 (by decide) (by decide) ?_
      exact ok_iret dX12_look_150 rfl
    · refine ok_aload_n 152 0 dX12_look_151 rfl rfl rfl ?_
      refine ok_getR 155 dX12_look_152 rfl rfl F_EncoresModel_7 sg_123 rfl (Nat.le_of_ble_eq_true rfl) rfl rfl ?_
      refine ok_bipush 157 6 dX12_look_155 rfl rfl ?_
      refine ok_ialdc 158 6 dX12_look_157 rfl sg_124 (by decide) (by decide) ?_
      exact ok_iret dX12_look_158 rfl
    · refine ok_aload_n 160 0 dX12_look_159 rfl rfl rfl ?_
      refine ok_getR 163 dX12_look_160 rfl rfl F_EncoresModel_7 sg_123 rfl (Nat.le_of_ble_eq_true rfl) rfl rfl ?_
      refine ok_iconst 164 5 dX12_look_163 rfl rfl ?_
      refine ok_ialdc 165 5 dX12_look_164 rfl sg_124 (by decide) (by decide) ?_
      exact ok_iret dX12_look_165 rfl
    · refine ok_aload_n 167 0 dX12_look_166 rfl rfl rfl ?_
      refine ok_getR 170 dX12_look_167 rfl rfl F_EncoresModel_7 sg_123 rfl (Nat.le_of_ble_eq_true rfl) rfl rfl ?_
      refine ok_bipush 172 40 dX12_look_170 rfl rfl ?_
      refine ok_ialdc 173 40 dX12_look_172 rfl sg_124 (by decide) (by decide) ?_
      exact ok_iret dX12_look_173 rfl
    · refine ok_aload_n 175 0 dX12_look_174 rfl rfl rfl ?_
      refine ok_getR 178 dX12_look_175 rfl rfl F_EncoresModel_7 sg_123 rfl (Nat.le_of_ble_eq_true rfl) rfl rfl ?_
      refine ok_bipush 180 41 dX12_look_178 rfl rfl ?_
      refine ok_ialdc 181 41 dX12_look_180 rfl sg_124 (by decide) (by decide) ?_
      exact ok_iret dX12_look_181 rfl
    · refine ok_aload_n 183 0 dX12_look_182 rfl rfl rfl ?_
      refine ok_getR 186 dX12_look_183 rfl rfl F_EncoresModel_7 sg_123 rfl (Nat.le_of_ble_eq_true rfl) rfl rfl ?_
      refine ok_bipush 188 42 dX12_look_186 rfl rfl ?_
      refine ok_ialdc 189 42 dX12_look_188 rfl sg_124 (by decide) (by decide) ?_
      exact ok_iret dX12_look_189 rfl
    · refine ok_aload_n 191 0 dX12_look_190 rfl rfl rfl ?_
      refine ok_getR 194 dX12_look_191 rfl rfl F_EncoresModel_7 sg_123 rfl (Nat.le_of_ble_eq_true rfl) rfl rfl ?_
      refine ok_bipush 196 43 dX12_look_194 rfl rfl ?_
      refine ok_ialdc 197 43 dX12_look_196 rfl sg_124 (by decide) (by decide) ?_
      exact ok_iret dX12_look_197 rfl
    · refine ok_aload_n 199 0 dX12_look_198 rfl rfl rfl ?_
      refine ok_getR 202 dX12_look_199 rfl rfl F_EncoresModel_7 sg_123 rfl (Nat.le_of_ble_eq_true rfl) rfl rfl ?_
      refine ok_bipush 204 44 dX12_look_202 rfl rfl ?_
      refine ok_ialdc 205 44 dX12_look_204 rfl sg_124 (by decide) (by decide) ?_
      exact ok_iret dX12_look_205 rfl
    · refine ok_aload_n 207 0 dX12_look_206 rfl rfl rfl ?_
      refine ok_getI 210 dX12_look_207 rfl rfl F_EncoresModel_60 sg_123 rfl (Nat.le_of_ble_eq_true rfl) rfl ?_
      exact ok_iret dX12_look_210 rfl
  · refine ok_ldcw 214 (-100000) dX12_look_211 rfl rfl cn_EncoresModel_376 ?_
    exact ok_iret dX12_look_214 rfl

theorem c_X12_look (N d : Nat) (a1 : Int32)  (m : Mem) : CM (d + 0) m_X12_look SG SG [.ref 123, .int a1] m (f_X12_look N a1 m) :=
  CM.ofOk km_X12_look ⟨Nat.le_refl _, Nat.le_refl _⟩ (by simp [Value.category]) (Nat.le_of_ble_eq_true rfl) (ok_X12_look N d a1 m)

