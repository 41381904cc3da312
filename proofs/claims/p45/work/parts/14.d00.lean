variable {SX : SXT}
def g_X12_init (N : Nat) (this : Nat) (h : DS) : DA :=
bo (wI h this 12 4 (-1 : Int32)) fun h_6 =>
bo (wI h_6 this 12 10 (9 : Int32)) fun h_12 =>
bo (wI h_12 this 12 11 (300 : Int32)) fun h_19 =>
bo (nQ h_19 103 (12 : Int32)) fun h_25 =>
bo (wR h_25 this 12 15 (some h_19.2.1.length)) fun h_28 =>
bo (nQ h_28 103 (8 : Int32)) fun h_34 =>
bo (wR h_34 this 12 16 (some h_28.2.1.length)) fun h_37 =>
bo (nQ h_37 103 (150 : Int32)) fun h_44 =>
bo (wR h_44 this 12 17 (some h_37.2.1.length)) fun h_47 =>
bo (nQ h_47 103 (0 : Int32)) fun h_52 =>
bo (wR h_52 this 12 18 (some h_47.2.1.length)) fun h_55 =>
bo (nQ h_55 103 (0 : Int32)) fun h_60 =>
bo (wR h_60 this 12 19 (some h_55.2.1.length)) fun h_63 =>
bo (nA h_63 100 (12 : Int32)) fun h_69 =>
bo (wR h_69 this 12 20 (some h_63.2.1.length)) fun h_71 =>
some (0, h_71)

set_option maxRecDepth 100000 in
set_option maxHeartbeats 4000000 in
theorem dg_X12_init (N d : Nat) (this : Nat) (h : DS) : DOk SX (d + 1) m_X12_init 0 [some (.ref this)] [] h (g_X12_init N this h) := by
  unfold g_X12_init
  refine dk_aload_n 1 0 dX12_init_0 rfl rfl rfl ?_
  refine dk_objInit 4 dX12_init_1 rfl rfl ml_EncoresLaw_House_1 (Nat.le_of_ble_eq_true rfl) ?_
  refine dk_aload_n 5 0 dX12_init_4 rfl rfl rfl ?_
  refine dk_iconst 6 (-1) dX12_init_5 rfl rfl ?_
  refine dk_putI 9 dX12_init_6 rfl rfl F_EncoresLaw_House_7 rfl pZ_12_4 rfl rfl (fun h_6 _ => ?_)
  refine dk_aload_n 10 0 dX12_init_9 rfl rfl rfl ?_
  refine dk_bipush 12 9 dX12_init_10 rfl rfl ?_
  refine dk_putI 15 dX12_init_12 rfl rfl F_EncoresLaw_House_13 rfl pZ_12_10 rfl rfl (fun h_12 _ => ?_)
  refine dk_aload_n 16 0 dX12_init_15 rfl rfl rfl ?_
  refine dk_sipush 19 300 dX12_init_16 rfl rfl ?_
  refine dk_putI 22 dX12_init_19 rfl rfl F_EncoresLaw_House_16 rfl pZ_12_11 rfl rfl (fun h_19 _ => ?_)
  refine dk_aload_n 23 0 dX12_init_22 rfl rfl rfl ?_
  refine dk_bipush 25 12 dX12_init_23 rfl rfl ?_
  refine dk_newqI 28 dX12_init_25 rfl rfl kl_EncoresLaw_House_19 (fun h_25 _ => ?_)
  refine dk_putR (o := (some h_19.2.1.length)) 31 dX12_init_28 rfl rfl F_EncoresLaw_House_21 rfl pZ_12_15 (fun q => nr_a q) (fun q => ft_a q) (fun h_28 _ => ?_)
  refine dk_aload_n 32 0 dX12_init_31 rfl rfl rfl ?_
  refine dk_bipush 34 8 dX12_init_32 rfl rfl ?_
  refine dk_newqI 37 dX12_init_34 rfl rfl kl_EncoresLaw_House_19 (fun h_34 _ => ?_)
  refine dk_putR (o := (some h_28.2.1.length)) 40 dX12_init_37 rfl rfl F_EncoresLaw_House_25 rfl pZ_12_16 (fun q => nr_a q) (fun q => ft_a q) (fun h_37 _ => ?_)
  refine dk_aload_n 41 0 dX12_init_40 rfl rfl rfl ?_
  refine dk_sipush 44 150 dX12_init_41 rfl rfl ?_
  refine dk_newqI 47 dX12_init_44 rfl rfl kl_EncoresLaw_House_19 (fun h_44 _ => ?_)
  refine dk_putR (o := (some h_37.2.1.length)) 50 dX12_init_47 rfl rfl F_EncoresLaw_House_28 rfl pZ_12_17 (fun q => nr_a q) (fun q => ft_a q) (fun h_47 _ => ?_)
  refine dk_aload_n 51 0 dX12_init_50 rfl rfl rfl ?_
  refine dk_iconst 52 0 dX12_init_51 rfl rfl ?_
  refine dk_newqI 55 dX12_init_52 rfl rfl kl_EncoresLaw_House_19 (fun h_52 _ => ?_)
  refine dk_putR (o := (some h_47.2.1.length)) 58 dX12_init_55 rfl rfl F_EncoresLaw_House_31 rfl pZ_12_18 (fun q => nr_a q) (fun q => ft_a q) (fun h_55 _ => ?_)
  refine dk_aload_n 59 0 dX12_init_58 rfl rfl rfl ?_
  refine dk_iconst 60 0 dX12_init_59 rfl rfl ?_
  refine dk_newqI 63 dX12_init_60 rfl rfl kl_EncoresLaw_House_19 (fun h_60 _ => ?_)
  refine dk_putR (o := (some h_55.2.1.length)) 66 dX12_init_63 rfl rfl F_EncoresLaw_House_34 rfl pZ_12_19 (fun q => nr_a q) (fun q => ft_a q) (fun h_63 _ => ?_)
  refine dk_aload_n 67 0 dX12_init_66 rfl rfl rfl ?_
  refine dk_bipush 69 12 dX12_init_67 rfl rfl ?_
  refine dk_newaI 71 dX12_init_69 rfl (fun h_69 _ => ?_)
  refine dk_putR (o := (some h_63.2.1.length)) 74 dX12_init_71 rfl rfl F_EncoresLaw_House_37 rfl pZ_12_20 (fun q => nr_a q) (fun q => ft_a q) (fun h_71 _ => ?_)
  exact dk_vret dX12_init_74 rfl

theorem dc_X12_init (N d : Nat) (this : Nat) (h : DS) : DCM SX (d + 1) m_X12_init [.ref this] h (g_X12_init N this h) :=
  DCM.ofDOk km_X12_init (by simp [Value.category]) (Nat.le_of_ble_eq_true rfl) (dg_X12_init N d this h)

def g_X12_copy_L162 (N : Nat) (this : Nat) (p1_162 : Nat) (K194 : DS → DA) (X : Int32 → DS → DA) (s2_162 : Int32) (h : DS) : DA :=
bo (dI h this 12 7) fun a_164 =>
if a_164 ≤ s2_162 then (K194 h)
else (bo (nn (dR h p1_162 12 15)) fun r_171 =>
bo (nn (dR h this 12 15)) fun r_176 =>
bo (lQ h 103 r_176 s2_162) fun r_180 =>
bo (cA h 100 r_180) fun h_181 =>
bo (sQ h_181 103 r_171 s2_162 h.2.1.length) fun h_187 =>
X ((s2_162 + 1)) h_187)

def g_X12_copy_L196 (N : Nat) (this : Nat) (p1_196 : Nat) (K228 : DS → DA) (X : Int32 → DS → DA) (s2_196 : Int32) (h : DS) : DA :=
bo (dI h this 12 8) fun a_198 =>
if a_198 ≤ s2_196 then (K228 h)
else (bo (nn (dR h p1_196 12 16)) fun r_205 =>
bo (nn (dR h this 12 16)) fun r_210 =>
bo (lQ h 103 r_210 s2_196) fun r_214 =>
bo (cA h 100 r_214) fun h_215 =>
bo (sQ h_215 103 r_205 s2_196 h.2.1.length) fun h_221 =>
X ((s2_196 + 1)) h_221)

def g_X12_copy_L230 (N : Nat) (this : Nat) (p1_230 : Nat)  (X : Int32 → DS → DA) (s2_230 : Int32) (h : DS) : DA :=
bo (dI h this 12 9) fun a_232 =>
if a_232 ≤ s2_230 then (chk (decide (p1_230 < 2 ^ 31)) (some (nI p1_230, h)))
else (bo (nn (dR h p1_230 12 17)) fun r_239 =>
bo (nn (dR h this 12 17)) fun r_244 =>
bo (lQ h 103 r_244 s2_230) fun r_248 =>
bo (sQ h 103 r_239 s2_230 r_248) fun h_249 =>
X ((s2_230 + 1)) h_249)

def g_X12_copy (N : Nat) (this : Nat) (h : DS) : DA :=
bo (nO h 12 25) fun h_0 =>
bd3 (g_X12_init N h.2.1.length h_0) fun v_4 h_4 =>
bo (dI h_4 this 12 0) fun a_10 =>
bo (wI h_4 h.2.1.length 12 0 a_10) fun h_13 =>
bo (dI h_13 this 12 1) fun a_18 =>
bo (wI h_13 h.2.1.length 12 1 a_18) fun h_21 =>
bo (dI h_21 this 12 2) fun a_26 =>
bo (wI h_21 h.2.1.length 12 2 a_26) fun h_29 =>
bo (dI h_29 this 12 3) fun a_34 =>
bo (wI h_29 h.2.1.length 12 3 a_34) fun h_37 =>
bo (dI h_37 this 12 4) fun a_42 =>
bo (wI h_37 h.2.1.length 12 4 a_42) fun h_45 =>
bo (dI h_45 this 12 5) fun a_50 =>
bo (wI h_45 h.2.1.length 12 5 a_50) fun h_53 =>
bo (dI h_53 this 12 6) fun a_58 =>
bo (wI h_53 h.2.1.length 12 6 a_58) fun h_61 =>
bo (dI h_61 this 12 7) fun a_66 =>
bo (wI h_61 h.2.1.length 12 7 a_66) fun h_69 =>
bo (dI h_69 this 12 8) fun a_74 =>
bo (wI h_69 h.2.1.length 12 8 a_74) fun h_77 =>
bo (dI h_77 this 12 9) fun a_82 =>
bo (wI h_77 h.2.1.length 12 9 a_82) fun h_85 =>
bo (dI h_85 this 12 10) fun a_90 =>
bo (wI h_85 h.2.1.length 12 10 a_90) fun h_93 =>
bo (dI h_93 this 12 11) fun a_98 =>
bo (wI h_93 h.2.1.length 12 11 a_98) fun h_101 =>
bo (dI h_101 this 12 12) fun a_106 =>
bo (wI h_101 h.2.1.length 12 12 a_106) fun h_109 =>
bo (dI h_109 this 12 13) fun a_114 =>
bo (wI h_109 h.2.1.length 12 13 a_114) fun h_117 =>
bo (dI h_117 this 12 14) fun a_122 =>
bo (wI h_117 h.2.1.length 12 14 a_122) fun h_125 =>
bo (nn (dR h_125 this 12 18)) fun r_130 =>
bo (wR h_125 h.2.1.length 12 18 (some r_130)) fun h_133 =>
bo (nn (dR h_133 this 12 19)) fun r_138 =>
bo (wR h_133 h.2.1.length 12 19 (some r_138)) fun h_141 =>
bo (nn (dR h_141 this 12 20)) fun r_146 =>
bo (wR h_141 h.2.1.length 12 20 (some r_146)) fun h_149 =>
bo (dR h_149 this 12 21) fun o_154 =>
bo (wR h_149 h.2.1.length 12 21 o_154) fun h_157 =>
jt (fun Y a hz => g_X12_copy_L162 N this h.2.1.length (fun hk194 => jt (fun Y a hz => g_X12_copy_L196 N this h.2.1.length (fun hk228 => jt (fun Y a hz => g_X12_copy_L230 N this h.2.1.length  Y a hz) N (0) hk228) Y a hz) N (0) hk194) Y a hz) N (0) h_157

set_option maxRecDepth 100000 in
set_option maxHeartbeats 4000000 in
theorem db_X12_copy_L162 (N d : Nat) (this : Nat) (p1_162 : Nat) (K194 : DS → DA) (hK194 : ∀  (h : DS), DOk SX (d + 2) m_X12_copy 194 [some (.ref this), some (.ref p1_162), none] [] h (K194 h)) (X : Int32 → DS → DA) (hX : ∀ (a : Int32) (h : DS), DOk SX (d + 2) m_X12_copy 162 [some (.ref this), some (.ref p1_162), some (.int a)] [] h (X a h)) (s2_162 : Int32) (h : DS) : DOk SX (d + 2) m_X12_copy 162 [some (.ref this), some (.ref p1_162), some (.int s2_162)] [] h (g_X12_copy_L162 N this p1_162 K194 X s2_162 h) := by
  unfold g_X12_copy_L162
  refine dk_iload_n 163 2 dX12_copy_162 rfl rfl rfl ?_
  refine dk_aload_n 164 0 dX12_copy_163 rfl rfl rfl ?_
  refine dk_getI 167 dX12_copy_164 rfl rfl F_EncoresLaw_House_59 (fun a_164 _ => ?_)
  refine dk_icmp_ge 194 170 dX12_copy_167 (by decide) rfl (fun _ => ?_) (fun _ => ?_)
  · exact dk_less [some (.ref this), some (.ref p1_162), none] (And.intro rfl (And.intro rfl (trivial))) (hK194 h)
  · refine dk_aload_n 171 1 dX12_copy_170 rfl rfl rfl ?_
    refine dk_getR 174 dX12_copy_171 rfl rfl F_EncoresLaw_House_21 (fun r_171 _ => ?_)
    refine dk_iload_n 175 2 dX12_copy_174 rfl rfl rfl ?_
    refine dk_aload_n 176 0 dX12_copy_175 rfl rfl rfl ?_
    refine dk_getR 179 dX12_copy_176 rfl rfl F_EncoresLaw_House_21 (fun r_176 _ => ?_)
    refine dk_iload_n 180 2 dX12_copy_179 rfl rfl rfl ?_
    refine dk_aald 103 181 (Or.inl rfl) dX12_copy_180 rfl (fun r_180 _ => ?_)
    refine dk_clone 184 dX12_copy_181 rfl rfl ml_EncoresLaw_House_80 (Nat.le_of_ble_eq_true rfl) (fun h_181 hh_181 => ?_)
    obtain ⟨N_181, hN_181⟩ := cA_at hh_181
    refine dk_castI 187 dX12_copy_184 rfl rfl kl_EncoresLaw_House_19 hN_181 ?_
    refine dk_aast 103 188 (Or.inl rfl) dX12_copy_187 rfl (fun h_187 _ => ?_)
    refine dk_iinc 191 2 1 [some (.ref this), some (.ref p1_162), some (.int (s2_162 + 1))] dX12_copy_188 rfl rfl rfl (by decide) rfl ?_
    refine dk_goto 162 dX12_copy_191 (by decide) ?_
    exact dk_less [some (.ref this), some (.ref p1_162), some (.int (s2_162 + 1))] (And.intro rfl (And.intro rfl (And.intro rfl (trivial)))) (hX ((s2_162 + 1)) h_187)

set_option maxRecDepth 100000 in
set_option maxHeartbeats 4000000 in
theorem dl_X12_copy_L162 (N d : Nat) (this : Nat) (p1_162 : Nat) (K194 : DS → DA) (hK194 : ∀  (h : DS), DOk SX (d + 2) m_X12_copy 194 [some (.ref this), some (.ref p1_162), none] [] h (K194 h)) : ∀ (n : Nat) (a : Int32) (h : DS), DOk SX (d + 2) m_X12_copy 162 [some (.ref this), some (.ref p1_162), some (.int a)] [] h (jt (fun Y a hz => g_X12_copy_L162 N this p1_162 K194 Y a hz) n a h) :=
  dk_jt (fun a => [some (.ref this), some (.ref p1_162), some (.int a)]) (fun X hX a h => db_X12_copy_L162 (SX := SX) N d this p1_162 K194 hK194 X hX a h)

set_option maxRecDepth 100000 in
set_option maxHeartbeats 4000000 in
theorem db_X12_copy_L196 (N d : Nat) (this : Nat) (p1_196 : Nat) (K228 : DS → DA) (hK228 : ∀  (h : DS), DOk SX (d + 2) m_X12_copy 228 [some (.ref this), some (.ref p1_196), none] [] h (K228 h)) (X : Int32 → DS → DA) (hX : ∀ (a : Int32) (h : DS), DOk SX (d + 2) m_X12_copy 196 [some (.ref this), some (.ref p1_196), some (.int a)] [] h (X a h)) (s2_196 : Int32) (h : DS) : DOk SX (d + 2) m_X12_copy 196 [some (.ref this), some (.ref p1_196), some (.int s2_196)] [] h (g_X12_copy_L196 N this p1_196 K228 X s2_196 h) := by
  unfold g_X12_copy_L196
  refine dk_iload_n 197 2 dX12_copy_196 rfl rfl rfl ?_
  refine dk_aload_n 198 0 dX12_copy_197 rfl rfl rfl ?_
  refine dk_getI 201 dX12_copy_198 rfl rfl F_EncoresLaw_House_62 (fun a_198 _ => ?_)
  refine dk_icmp_ge 228 204 dX12_copy_201 (by decide) rfl (fun _ => ?_) (fun _ => ?_)
  · exact dk_less [some (.ref this), some (.ref p1_196), none] (And.intro rfl (And.intro rfl (trivial))) (hK228 h)
  · refine dk_aload_n 205 1 dX12_copy_204 rfl rfl rfl ?_
    refine dk_getR 208 dX12_copy_205 rfl rfl F_EncoresLaw_House_25 (fun r_205 _ => ?_)
    refine dk_iload_n 209 2 dX12_copy_208 rfl rfl rfl ?_
    refine dk_aload_n 210 0 dX12_copy_209 rfl rfl rfl ?_
    refine dk_getR 213 dX12_copy_210 rfl rfl F_EncoresLaw_House_25 (fun r_210 _ => ?_)
    refine dk_iload_n 214 2 dX12_copy_213 rfl rfl rfl ?_
    refine dk_aald 103 215 (Or.inl rfl) dX12_copy_214 rfl (fun r_214 _ => ?_)
    refine dk_clone 218 dX12_copy_215 rfl rfl ml_EncoresLaw_House_80 (Nat.le_of_ble_eq_true rfl) (fun h_215 hh_215 => ?_)
    obtain ⟨N_215, hN_215⟩ := cA_at hh_215
    refine dk_castI 221 dX12_copy_218 rfl rfl kl_EncoresLaw_House_19 hN_215 ?_
    refine dk_aast 103 222 (Or.inl rfl) dX12_copy_221 rfl (fun h_221 _ => ?_)
    refine dk_iinc 225 2 1 [some (.ref this), some (.ref p1_196), some (.int (s2_196 + 1))] dX12_copy_222 rfl rfl rfl (by decide) rfl ?_
    refine dk_goto 196 dX12_copy_225 (by decide) ?_
    exact dk_less [some (.ref this), some (.ref p1_196), some (.int (s2_196 + 1))] (And.intro rfl (And.intro rfl (And.intro rfl (trivial)))) (hX ((s2_196 + 1)) h_221)

set_option maxRecDepth 100000 in
set_option maxHeartbeats 4000000 in
theorem dl_X12_copy_L196 (N d : Nat) (this : Nat) (p1_196 : Nat) (K228 : DS → DA) (hK228 : ∀  (h : DS), DOk SX (d + 2) m_X12_copy 228 [some (.ref this), some (.ref p1_196), none] [] h (K228 h)) : ∀ (n : Nat) (a : Int32) (h : DS), DOk SX (d + 2) m_X12_copy 196 [some (.ref this), some (.ref p1_196), some (.int a)] [] h (jt (fun Y a hz => g_X12_copy_L196 N this p1_196 K228 Y a hz) n a h) :=
  dk_jt (fun a => [some (.ref this), some (.ref p1_196), some (.int a)]) (fun X hX a h => db_X12_copy_L196 (SX := SX) N d this p1_196 K228 hK228 X hX a h)

set_option maxRecDepth 100000 in
set_option maxHeartbeats 4000000 in
theorem db_X12_copy_L230 (N d : Nat) (this : Nat) (p1_230 : Nat)  (X : Int32 → DS → DA) (hX : ∀ (a : Int32) (h : DS), DOk SX (d + 2) m_X12_copy 230 [some (.ref this), some (.ref p1_230), some (.int a)] [] h (X a h)) (s2_230 : Int32) (h : DS) : DOk SX (d + 2) m_X12_copy 230 [some (.ref this), some (.ref p1_230), some (.int s2_230)] [] h (g_X12_copy_L230 N this p1_230 X s2_230 h) := by
  unfold g_X12_copy_L230
  refine dk_iload_n 231 2 dX12_copy_230 rfl rfl rfl ?_
  refine dk_aload_n 232 0 dX12_copy_231 rfl rfl rfl ?_
  refine dk_getI 235 dX12_copy_232 rfl rfl F_EncoresLaw_House_65 (fun a_232 _ => ?_)
  refine dk_icmp_ge 256 238 dX12_copy_235 (by decide) rfl (fun _ => ?_) (fun _ => ?_)
  · refine dk_aload_n 257 1 dX12_copy_256 rfl rfl rfl ?_
    exact dk_aret dX12_copy_257 rfl (Or.inl ⟨_, rfl⟩)
  · refine dk_aload_n 239 1 dX12_copy_238 rfl rfl rfl ?_
    refine dk_getR 242 dX12_copy_239 rfl rfl F_EncoresLaw_House_28 (fun r_239 _ => ?_)
    refine dk_iload_n 243 2 dX12_copy_242 rfl rfl rfl ?_
    refine dk_aload_n 244 0 dX12_copy_243 rfl rfl rfl ?_
    refine dk_getR 247 dX12_copy_244 rfl rfl F_EncoresLaw_House_28 (fun r_244 _ => ?_)
    refine dk_iload_n 248 2 dX12_copy_247 rfl rfl rfl ?_
    refine dk_aald 103 249 (Or.inl rfl) dX12_copy_248 rfl (fun r_248 _ => ?_)
    refine dk_aast 103 250 (Or.inl rfl) dX12_copy_249 rfl (fun h_249 _ => ?_)
    refine dk_iinc 253 2 1 [some (.ref this), some (.ref p1_230), some (.int (s2_230 + 1))] dX12_copy_250 rfl rfl rfl (by decide) rfl ?_
    refine dk_goto 230 dX12_copy_253 (by decide) ?_
    exact dk_less [some (.ref this), some (.ref p1_230), some (.int (s2_230 + 1))] (And.intro rfl (And.intro rfl (And.intro rfl (trivial)))) (hX ((s2_230 + 1)) h_249)

set_option maxRecDepth 100000 in
set_option maxHeartbeats 4000000 in
theorem dl_X12_copy_L230 (N d : Nat) (this : Nat) (p1_230 : Nat)  : ∀ (n : Nat) (a : Int32) (h : DS), DOk SX (d + 2) m_X12_copy 230 [some (.ref this), some (.ref p1_230), some (.int a)] [] h (jt (fun Y a hz => g_X12_copy_L230 N this p1_230 Y a hz) n a h) :=
  dk_jt (fun a => [some (.ref this), some (.ref p1_230), some (.int a)]) (fun X hX a h => db_X12_copy_L230 (SX := SX) N d this p1_230   X hX a h)

set_option maxRecDepth 100000 in
set_option maxHeartbeats 4000000 in
theorem dg_X12_copy (N d : Nat) (this : Nat) (h : DS) : DOk SX (d + 2) m_X12_copy 0 [some (.ref this), none, none] [] h (g_X12_copy N this h) := by
  unfold g_X12_copy
  refine dk_new (ty := ty12) (ci := 12) 3 dX12_copy_0 rfl rfl kl_EncoresLaw_House_8 in_EncoresLaw_House wi_EncoresLaw_House (by decide) rfl ty12_ok dv_12 (fun h_0 _ => ?_)
  refine dk_dup 4 dX12_copy_3 rfl rfl ?_
  refine dk_callI (np := 0) (M' := m_X12_init) (As := []) (st := [.ref h.2.1.length]) 7 dX12_copy_4 rfl rfl km_X12_init ki_X12_init ml_EncoresLaw_House_40 (by decide) rfl rfl rfl rfl (Nat.le_of_ble_eq_true rfl) (dc_X12_init N (d + 0) h.2.1.length h_0) (fun v_4 h_4 e_4 => ?_)
  refine dk_astore_n 8 1 [some (.ref this), some (.ref h.2.1.length), none] dX12_copy_7 rfl rfl (by decide) rfl ?_
  refine dk_aload_n 9 1 dX12_copy_8 rfl rfl rfl ?_
  refine dk_aload_n 10 0 dX12_copy_9 rfl rfl rfl ?_
  refine dk_getI 13 dX12_copy_10 rfl rfl F_EncoresLaw_House_41 (fun a_10 _ => ?_)
  refine dk_putI 16 dX12_copy_13 rfl rfl F_EncoresLaw_House_41 rfl pZ_12_0 rfl rfl (fun h_13 _ => ?_)
  refine dk_aload_n 17 1 dX12_copy_16 rfl rfl rfl ?_
  refine dk_aload_n 18 0 dX12_copy_17 rfl rfl rfl ?_
  refine dk_getI 21 dX12_copy_18 rfl rfl F_EncoresLaw_House_44 (fun a_18 _ => ?_)
  refine dk_putI 24 dX12_copy_21 rfl rfl F_EncoresLaw_House_44 rfl pZ_12_1 rfl rfl (fun h_21 _ => ?_)
  refine dk_aload_n 25 1 dX12_copy_24 rfl rfl rfl ?_
  refine dk_aload_n 26 0 dX12_copy_25 rfl rfl rfl ?_
  refine dk_getI 29 dX12_copy_26 rfl rfl F_EncoresLaw_House_47 (fun a_26 _ => ?_)
  refine dk_putI 32 dX12_copy_29 rfl rfl F_EncoresLaw_House_47 rfl pZ_12_2 rfl rfl (fun h_29 _ => ?_)
  refine dk_aload_n 33 1 dX12_copy_32 rfl rfl rfl ?_
  refine dk_aload_n 34 0 dX12_copy_33 rfl rfl rfl ?_
  refine dk_getI 37 dX12_copy_34 rfl rfl F_EncoresLaw_House_50 (fun a_34 _ => ?_)
  refine dk_putI 40 dX12_copy_37 rfl rfl F_EncoresLaw_House_50 rfl pZ_12_3 rfl rfl (fun h_37 _ => ?_)
  refine dk_aload_n 41 1 dX12_copy_40 rfl rfl rfl ?_
  refine dk_aload_n 42 0 dX12_copy_41 rfl rfl rfl ?_
  refine dk_getI 45 dX12_copy_42 rfl rfl F_EncoresLaw_House_7 (fun a_42 _ => ?_)
  refine dk_putI 48 dX12_copy_45 rfl rfl F_EncoresLaw_House_7 rfl pZ_12_4 rfl rfl (fun h_45 _ => ?_)
  refine dk_aload_n 49 1 dX12_copy_48 rfl rfl rfl ?_
  refine dk_aload_n 50 0 dX12_copy_49 rfl rfl rfl ?_
  refine dk_getI 53 dX12_copy_50 rfl rfl F_EncoresLaw_House_53 (fun a_50 _ => ?_)
  refine dk_putI 56 dX12_copy_53 rfl rfl F_EncoresLaw_House_53 rfl pZ_12_5 rfl rfl (fun h_53 _ => ?_)
  refine dk_aload_n 57 1 dX12_copy_56 rfl rfl rfl ?_
  refine dk_aload_n 58 0 dX12_copy_57 rfl rfl rfl ?_
  refine dk_getI 61 dX12_copy_58 rfl rfl F_EncoresLaw_House_56 (fun a_58 _ => ?_)
  refine dk_putI 64 dX12_copy_61 rfl rfl F_EncoresLaw_House_56 rfl pZ_12_6 rfl rfl (fun h_61 _ => ?_)
  refine dk_aload_n 65 1 dX12_copy_64 rfl rfl rfl ?_
  refine dk_aload_n 66 0 dX12_copy_65 rfl rfl rfl ?_
  refine dk_getI 69 dX12_copy_66 rfl rfl F_EncoresLaw_House_59 (fun a_66 _ => ?_)
  refine dk_putI 72 dX12_copy_69 rfl rfl F_EncoresLaw_House_59 rfl pZ_12_7 rfl rfl (fun h_69 _ => ?_)
  refine dk_aload_n 73 1 dX12_copy_72 rfl rfl rfl ?_
  refine dk_aload_n 74 0 dX12_copy_73 rfl rfl rfl ?_
  refine dk_getI 77 dX12_copy_74 rfl rfl F_EncoresLaw_House_62 (fun a_74 _ => ?_)
  refine dk_putI 80 dX12_copy_77 rfl rfl F_EncoresLaw_House_62 rfl pZ_12_8 rfl rfl (fun h_77 _ => ?_)
  refine dk_aload_n 81 1 dX12_copy_80 rfl rfl rfl ?_
  refine dk_aload_n 82 0 dX12_copy_81 rfl rfl rfl ?_
  refine dk_getI 85 dX12_copy_82 rfl rfl F_EncoresLaw_House_65 (fun a_82 _ => ?_)
  refine dk_putI 88 dX12_copy_85 rfl rfl F_EncoresLaw_House_65 rfl pZ_12_9 rfl rfl (fun h_85 _ => ?_)
  refine dk_aload_n 89 1 dX12_copy_88 rfl rfl rfl ?_
  refine dk_aload_n 90 0 dX12_copy_89 rfl rfl rfl ?_
  refine dk_getI 93 dX12_copy_90 rfl rfl F_EncoresLaw_House_13 (fun a_90 _ => ?_)
  refine dk_putI 96 dX12_copy_93 rfl rfl F_EncoresLaw_House_13 rfl pZ_12_10 rfl rfl (fun h_93 _ => ?_)
  refine dk_aload_n 97 1 dX12_copy_96 rfl rfl rfl ?_
  refine dk_aload_n 98 0 dX12_copy_97 rfl rfl rfl ?_
  refine dk_getI 101 dX12_copy_98 rfl rfl F_EncoresLaw_House_16 (fun a_98 _ => ?_)
  refine dk_putI 104 dX12_copy_101 rfl rfl F_EncoresLaw_House_16 rfl pZ_12_11 rfl rfl (fun h_101 _ => ?_)
  refine dk_aload_n 105 1 dX12_copy_104 rfl rfl rfl ?_
  refine dk_aload_n 106 0 dX12_copy_105 rfl rfl rfl ?_
  refine dk_getI 109 dX12_copy_106 rfl rfl F_EncoresLaw_House_68 (fun a_106 _ => ?_)
  refine dk_putI 112 dX12_copy_109 rfl rfl F_EncoresLaw_House_68 rfl pZ_12_12 rfl rfl (fun h_109 _ => ?_)
  refine dk_aload_n 113 1 dX12_copy_112 rfl rfl rfl ?_
  refine dk_aload_n 114 0 dX12_copy_113 rfl rfl rfl ?_
  refine dk_getI 117 dX12_copy_114 rfl rfl F_EncoresLaw_House_71 (fun a_114 _ => ?_)
  refine dk_putI 120 dX12_copy_117 rfl rfl F_EncoresLaw_House_71 rfl pZ_12_13 rfl rfl (fun h_117 _ => ?_)
  refine dk_aload_n 121 1 dX12_copy_120 rfl rfl rfl ?_
  refine dk_aload_n 122 0 dX12_copy_121 rfl rfl rfl ?_
  refine dk_getI 125 dX12_copy_122 rfl rfl F_EncoresLaw_House_74 (fun a_122 _ => ?_)
  refine dk_putI 128 dX12_copy_125 rfl rfl F_EncoresLaw_House_74 rfl pZ_12_14 rfl rfl (fun h_125 _ => ?_)
  refine dk_aload_n 129 1 dX12_copy_128 rfl rfl rfl ?_
  refine dk_aload_n 130 0 dX12_copy_129 rfl rfl rfl ?_
  refine dk_getR 133 dX12_copy_130 rfl rfl F_EncoresLaw_House_31 (fun r_130 _ => ?_)
  refine dk_putR (o := (some r_130)) 136 dX12_copy_133 rfl rfl F_EncoresLaw_House_31 rfl pZ_12_18 (fun q => nr_a q) (fun q => ft_a q) (fun h_133 _ => ?_)
  refine dk_aload_n 137 1 dX12_copy_136 rfl rfl rfl ?_
  refine dk_aload_n 138 0 dX12_copy_137 rfl rfl rfl ?_
  refine dk_getR 141 dX12_copy_138 rfl rfl F_EncoresLaw_House_34 (fun r_138 _ => ?_)
  refine dk_putR (o := (some r_138)) 144 dX12_copy_141 rfl rfl F_EncoresLaw_House_34 rfl pZ_12_19 (fun q => nr_a q) (fun q => ft_a q) (fun h_141 _ => ?_)
  refine dk_aload_n 145 1 dX12_copy_144 rfl rfl rfl ?_
  refine dk_aload_n 146 0 dX12_copy_145 rfl rfl rfl ?_
  refine dk_getR 149 dX12_copy_146 rfl rfl F_EncoresLaw_House_37 (fun r_146 _ => ?_)
  refine dk_putR (o := (some r_146)) 152 dX12_copy_149 rfl rfl F_EncoresLaw_House_37 rfl pZ_12_20 (fun q => nr_a q) (fun q => ft_a q) (fun h_149 _ => ?_)
  refine dk_aload_n 153 1 dX12_copy_152 rfl rfl rfl ?_
  refine dk_aload_n 154 0 dX12_copy_153 rfl rfl rfl ?_
  refine dk_getRo 157 dX12_copy_154 rfl rfl F_EncoresLaw_House_77 (fun o_154 _ => ?_)
  refine dk_putR (o := o_154) 160 dX12_copy_157 rfl rfl F_EncoresLaw_House_77 rfl pZ_12_21 (fun q => nr_a q) (fun q => ft_a q) (fun h_157 _ => ?_)
  refine dk_iconst 161 0 dX12_copy_160 rfl rfl ?_
  refine dk_istore_n 162 2 [some (.ref this), some (.ref h.2.1.length), some (.int 0)] dX12_copy_161 rfl rfl (by decide) rfl ?_
  refine dk_less [some (.ref this), some (.ref h.2.1.length), some (.int 0)] (And.intro rfl (And.intro rfl (And.intro rfl (trivial)))) ?_
  exact dl_X12_copy_L162 (SX := SX) N d this h.2.1.length (fun hk194 => jt (fun Y a hz => g_X12_copy_L196 N this h.2.1.length (fun hk228 => jt (fun Y a hz => g_X12_copy_L230 N this h.2.1.length  Y a hz) N (0) hk228) Y a hz) N (0) hk194) (fun hk194 => by
      refine dk_iconst 195 0 dX12_copy_194 rfl rfl ?_
      refine dk_istore_n 196 2 [some (.ref this), some (.ref h.2.1.length), some (.int 0)] dX12_copy_195 rfl rfl (by decide) rfl ?_
      refine dk_less [some (.ref this), some (.ref h.2.1.length), some (.int 0)] (And.intro rfl (And.intro rfl (And.intro rfl (trivial)))) ?_
      exact dl_X12_copy_L196 (SX := SX) N d this h.2.1.length (fun hk228 => jt (fun Y a hz => g_X12_copy_L230 N this h.2.1.length  Y a hz) N (0) hk228) (fun hk228 => by
          refine dk_iconst 229 0 dX12_copy_228 rfl rfl ?_
          refine dk_istore_n 230 2 [some (.ref this), some (.ref h.2.1.length), some (.int 0)] dX12_copy_229 rfl rfl (by decide) rfl ?_
          refine dk_less [some (.ref this), some (.ref h.2.1.length), some (.int 0)] (And.intro rfl (And.intro rfl (And.intro rfl (trivial)))) ?_
          exact dl_X12_copy_L230 (SX := SX) N d this h.2.1.length   N (0) hk228) N (0) hk194) N (0) h_157

theorem dc_X12_copy (N d : Nat) (this : Nat) (h : DS) : DCM SX (d + 2) m_X12_copy [.ref this] h (g_X12_copy N this h) :=
  DCM.ofDOk km_X12_copy (by simp [Value.category]) (Nat.le_of_ble_eq_true rfl) (dg_X12_copy N d this h)

def g_X12_draw (N : Nat) (this : Nat) (a1 : Int32) (h : DS) : DA :=
bo (dI h this 12 0) fun a_4 =>
bo (wI h this 12 0 (((1664525 : Int32) * a_4) + (1013904223 : Int32))) fun h_11 =>
bo (dI h_11 this 12 0) fun a_15 =>
chk (decide (a1 ≠ 0)) <|
some ((irm (ushr a_15 (8 : Int32)) a1), h_11)

set_option maxRecDepth 100000 in
set_option maxHeartbeats 4000000 in
theorem dg_X12_draw (N d : Nat) (this : Nat) (a1 : Int32) (h : DS) : DOk SX (d + 0) m_X12_draw 0 [some (.ref this), some (.int a1)] [] h (g_X12_draw N this a1 h) := by
  unfold g_X12_draw
  refine dk_aload_n 1 0 dX12_draw_0 rfl rfl rfl ?_
  refine dk_ldc 3 1664525 dX12_draw_1 rfl rfl cn_EncoresLaw_House_84 ?_
  refine dk_aload_n 4 0 dX12_draw_3 rfl rfl rfl ?_
  refine dk_getI 7 dX12_draw_4 rfl rfl F_EncoresLaw_House_41 (fun a_4 _ => ?_)
  refine dk_imul 8 dX12_draw_7 rfl ?_
  refine dk_ldc 10 1013904223 dX12_draw_8 rfl rfl cn_EncoresLaw_House_85 ?_
  refine dk_iadd 11 dX12_draw_10 rfl ?_
  refine dk_putI 14 dX12_draw_11 rfl rfl F_EncoresLaw_House_41 rfl pZ_12_0 rfl rfl (fun h_11 _ => ?_)
  refine dk_aload_n 15 0 dX12_draw_14 rfl rfl rfl ?_
  refine dk_getI 18 dX12_draw_15 rfl rfl F_EncoresLaw_House_41 (fun a_15 _ => ?_)
  refine dk_bipush 20 8 dX12_draw_18 rfl rfl ?_
  refine dk_iushr 21 dX12_draw_20 rfl ?_
  refine dk_iload_n 22 1 dX12_draw_21 rfl rfl rfl ?_
  refine dk_irem 23 dX12_draw_22 rfl ?_
  exact dk_iret dX12_draw_23 rfl

theorem dc_X12_draw (N d : Nat) (this : Nat) (a1 : Int32) (h : DS) : DCM SX (d + 0) m_X12_draw [.ref this, .int a1] h (g_X12_draw N this a1 h) :=
  DCM.ofDOk km_X12_draw (by simp [Value.category]) (Nat.le_of_ble_eq_true rfl) (dg_X12_draw N d this a1 h)

def g_L_held (N : Nat) (a0 : Int32) (a1 : Int32) (a2 : Int32) (h : DS) : DA :=
bnd (if a0 < a2 then a0 else a2) fun a_3 =>
bnd (if a1 < a_3 then a_3 else a1) fun a_6 =>
some (a_6, h)

set_option maxRecDepth 100000 in
set_option maxHeartbeats 4000000 in
theorem dg_L_held (N d : Nat) (a0 : Int32) (a1 : Int32) (a2 : Int32) (h : DS) : DOk SX (d + 1) m_L_held 0 [some (.int a0), some (.int a1), some (.int a2)] [] h (g_L_held N a0 a1 a2 h) := by
  unfold g_L_held
  refine dk_iload_n 1 1 dL_held_0 rfl rfl rfl ?_
  refine dk_iload_n 2 2 dL_held_1 rfl rfl rfl ?_
  refine dk_iload_n 3 0 dL_held_2 rfl rfl rfl ?_
  refine dk_min 6 dL_held_3 rfl rfl ml_EncoresLaw_8 (Nat.le_of_ble_eq_true rfl) ?_
  refine dk_bndI (fun a_3 => ?_)
  refine dk_max 9 dL_held_6 rfl rfl ml_EncoresLaw_14 (Nat.le_of_ble_eq_true rfl) ?_
  refine dk_bndI (fun a_6 => ?_)
  exact dk_iret dL_held_9 rfl

theorem dc_L_held (N d : Nat) (a0 : Int32) (a1 : Int32) (a2 : Int32) (h : DS) : DCM SX (d + 1) m_L_held [.int a0, .int a1, .int a2] h (g_L_held N a0 a1 a2 h) :=
  DCM.ofDOk km_L_held (by simp [Value.category]) (Nat.le_of_ble_eq_true rfl) (dg_L_held N d a0 a1 a2 h)

def g_X12_loud (N : Nat) (this : Nat) (a1 : Int32) (h : DS) : DA :=
bo (dR h this 12 21) fun o_1 =>
onn o_1 (bo (nn (dR h this 12 16)) fun r_8 =>
bo (lQ h 103 r_8 a1) fun r_12 =>
bo (lA h 100 r_12 (0 : Int32)) fun a_14 =>
bd3 (g_L_held N (a_14 / (3 : Int32)) (0 : Int32) (99 : Int32) h) fun v_20 h_20 =>
some (v_20, h_20)) fun r_4 =>
(bo (nn (dR h this 12 16)) fun r_27 =>
bo (lQ h 103 r_27 a1) fun r_31 =>
bo (lA h 100 r_31 (0 : Int32)) fun a_33 =>
bo (nn (dR h this 12 21)) fun r_35 =>
bo (lA h 100 r_35 (0 : Int32)) fun a_39 =>
bo (dI h this 12 5) fun a_42 =>
bo (dI h this 12 1) fun a_47 =>
bd3 (g_L_held N (((a_33 * a_39) - a_42) - (a_47 / (60 : Int32))) (0 : Int32) (99 : Int32) h) fun v_57 h_57 =>
some (v_57, h_57))

set_option maxRecDepth 100000 in
set_option maxHeartbeats 4000000 in
theorem dg_X12_loud (N d : Nat) (this : Nat) (a1 : Int32) (h : DS) : DOk SX (d + 2) m_X12_loud 0 [some (.ref this), some (.int a1)] [] h (g_X12_loud N this a1 h) := by
  unfold g_X12_loud
  refine dk_aload_n 1 0 dX12_loud_0 rfl rfl rfl ?_
  refine dk_getRo 4 dX12_loud_1 rfl rfl F_EncoresLaw_House_77 (fun o_1 _ => ?_)
  refine dk_ifnonnull 26 7 dX12_loud_4 (by decide) rfl (fun he_4 => ?_) (fun r_4 he_4 => ?_)
  · subst he_4
    refine dk_aload_n 8 0 dX12_loud_7 rfl rfl rfl ?_
    refine dk_getR 11 dX12_loud_8 rfl rfl F_EncoresLaw_House_25 (fun r_8 _ => ?_)
    refine dk_iload_n 12 1 dX12_loud_11 rfl rfl rfl ?_
    refine dk_aald 103 13 (Or.inl rfl) dX12_loud_12 rfl (fun r_12 _ => ?_)
    refine dk_iconst 14 0 dX12_loud_13 rfl rfl ?_
    refine dk_iald 15 dX12_loud_14 rfl (fun a_14 _ => ?_)
    refine dk_iconst 16 3 dX12_loud_15 rfl rfl ?_
    refine dk_idivc 17 dX12_loud_16 rfl (by decide) ?_
    refine dk_iconst 18 0 dX12_loud_17 rfl rfl ?_
    refine dk_bipush 20 99 dX12_loud_18 rfl rfl ?_
    refine dk_callSN (np := 3) (M' := m_L_held) (As := [.int (a_14 / (3 : Int32)), .int 0, .int 99]) (st := []) 23 6 dX12_loud_20 rfl rfl km_L_held ks_L_held rfl (by decide) rfl rfl (Nat.le_of_ble_eq_true rfl) (dc_L_held N (d + 0) (a_14 / (3 : Int32)) (0 : Int32) (99 : Int32) h) (fun v_20 h_20 e_20 => ?_)
    show DOk _ _ _ _ _ (.int v_20 :: []) _ _
    refine dk_goto 60 dX12_loud_23 (by decide) ?_
    exact dk_iret dX12_loud_60 rfl
  · subst he_4
    refine dk_aload_n 27 0 dX12_loud_26 rfl rfl rfl ?_
    refine dk_getR 30 dX12_loud_27 rfl rfl F_EncoresLaw_House_25 (fun r_27 _ => ?_)
    refine dk_iload_n 31 1 dX12_loud_30 rfl rfl rfl ?_
    refine dk_aald 103 32 (Or.inl rfl) dX12_loud_31 rfl (fun r_31 _ => ?_)
    refine dk_iconst 33 0 dX12_loud_32 rfl rfl ?_
    refine dk_iald 34 dX12_loud_33 rfl (fun a_33 _ => ?_)
    refine dk_aload_n 35 0 dX12_loud_34 rfl rfl rfl ?_
    refine dk_getR 38 dX12_loud_35 rfl rfl F_EncoresLaw_House_77 (fun r_35 _ => ?_)
    refine dk_iconst 39 0 dX12_loud_38 rfl rfl ?_
    refine dk_iald 40 dX12_loud_39 rfl (fun a_39 _ => ?_)
    refine dk_imul 41 dX12_loud_40 rfl ?_
    refine dk_aload_n 42 0 dX12_loud_41 rfl rfl rfl ?_
    refine dk_getI 45 dX12_loud_42 rfl rfl F_EncoresLaw_House_53 (fun a_42 _ => ?_)
    refine dk_isub 46 dX12_loud_45 rfl ?_
    refine dk_aload_n 47 0 dX12_loud_46 rfl rfl rfl ?_
    refine dk_getI 50 dX12_loud_47 rfl rfl F_EncoresLaw_House_44 (fun a_47 _ => ?_)
    refine dk_bipush 52 60 dX12_loud_50 rfl rfl ?_
    refine dk_idivc 53 dX12_loud_52 rfl (by decide) ?_
    refine dk_isub 54 dX12_loud_53 rfl ?_
    refine dk_iconst 55 0 dX12_loud_54 rfl rfl ?_
    refine dk_bipush 57 99 dX12_loud_55 rfl rfl ?_
    refine dk_callSN (np := 3) (M' := m_L_held) (As := [.int (((a_33 * a_39) - a_42) - (a_47 / (60 : Int32))), .int 0, .int 99]) (st := []) 60 6 dX12_loud_57 rfl rfl km_L_held ks_L_held rfl (by decide) rfl rfl (Nat.le_of_ble_eq_true rfl) (dc_L_held N (d + 0) (((a_33 * a_39) - a_42) - (a_47 / (60 : Int32))) (0 : Int32) (99 : Int32) h) (fun v_57 h_57 e_57 => ?_)
    show DOk _ _ _ _ _ (.int v_57 :: []) _ _
    exact dk_iret dX12_loud_60 rfl

theorem dc_X12_loud (N d : Nat) (this : Nat) (a1 : Int32) (h : DS) : DCM SX (d + 2) m_X12_loud [.ref this, .int a1] h (g_X12_loud N this a1 h) :=
  DCM.ofDOk km_X12_loud (by simp [Value.category]) (Nat.le_of_ble_eq_true rfl) (dg_X12_loud N d this a1 h)

def g_X12_wears (N : Nat) (this : Nat) (a1 : Int32) (h : DS) : DA :=
bo (dR h this 12 21) fun o_1 =>
onn o_1 (some ((2 : Int32), h)) fun r_4 =>
(bo (dI h this 12 5) fun a_12 =>
bo (nn (dR h this 12 21)) fun r_16 =>
bo (lA h 100 r_16 (1 : Int32)) fun a_20 =>
if a_12 ≤ a_20 then (bo (nn (dR h this 12 21)) fun r_46 =>
bo (lA h 100 r_46 (2 : Int32)) fun a_50 =>
bo (nn (dR h this 12 16)) fun r_52 =>
bo (lQ h 103 r_52 a1) fun r_56 =>
bo (lA h 100 r_56 (0 : Int32)) fun a_58 =>
bd3 (g_L_held N (a_50 + a_58) (0 : Int32) (99 : Int32) h) fun v_63 h_63 =>
some (v_63, h_63))
else (bo (nn (dR h this 12 16)) fun r_25 =>
bo (lQ h 103 r_25 a1) fun r_29 =>
bo (lA h 100 r_29 (3 : Int32)) fun a_31 =>
bd3 (g_L_held N ((a_31 / (4 : Int32)) + (1 : Int32)) (0 : Int32) (99 : Int32) h) fun v_39 h_39 =>
some (v_39, h_39)))

set_option maxRecDepth 100000 in
set_option maxHeartbeats 4000000 in
theorem dg_X12_wears (N d : Nat) (this : Nat) (a1 : Int32) (h : DS) : DOk SX (d + 2) m_X12_wears 0 [some (.ref this), some (.int a1)] [] h (g_X12_wears N this a1 h) := by
  unfold g_X12_wears
  refine dk_aload_n 1 0 dX12_wears_0 rfl rfl rfl ?_
  refine dk_getRo 4 dX12_wears_1 rfl rfl F_EncoresLaw_House_77 (fun o_1 _ => ?_)
  refine dk_ifnonnull 11 7 dX12_wears_4 (by decide) rfl (fun he_4 => ?_) (fun r_4 he_4 => ?_)
  · subst he_4
    refine dk_iconst 8 2 dX12_wears_7 rfl rfl ?_
    refine dk_goto 66 dX12_wears_8 (by decide) ?_
    exact dk_iret dX12_wears_66 rfl
  · subst he_4
    refine dk_aload_n 12 0 dX12_wears_11 rfl rfl rfl ?_
    refine dk_getI 15 dX12_wears_12 rfl rfl F_EncoresLaw_House_53 (fun a_12 _ => ?_)
    refine dk_aload_n 16 0 dX12_wears_15 rfl rfl rfl ?_
    refine dk_getR 19 dX12_wears_16 rfl rfl F_EncoresLaw_House_77 (fun r_16 _ => ?_)
    refine dk_iconst 20 1 dX12_wears_19 rfl rfl ?_
    refine dk_iald 21 dX12_wears_20 rfl (fun a_20 _ => ?_)
    refine dk_icmp_le 45 24 dX12_wears_21 (by decide) rfl (fun _ => ?_) (fun _ => ?_)
    · refine dk_aload_n 46 0 dX12_wears_45 rfl rfl rfl ?_
      refine dk_getR 49 dX12_wears_46 rfl rfl F_EncoresLaw_House_77 (fun r_46 _ => ?_)
      refine dk_iconst 50 2 dX12_wears_49 rfl rfl ?_
      refine dk_iald 51 dX12_wears_50 rfl (fun a_50 _ => ?_)
      refine dk_aload_n 52 0 dX12_wears_51 rfl rfl rfl ?_
      refine dk_getR 55 dX12_wears_52 rfl rfl F_EncoresLaw_House_25 (fun r_52 _ => ?_)
      refine dk_iload_n 56 1 dX12_wears_55 rfl rfl rfl ?_
      refine dk_aald 103 57 (Or.inl rfl) dX12_wears_56 rfl (fun r_56 _ => ?_)
      refine dk_iconst 58 0 dX12_wears_57 rfl rfl ?_
      refine dk_iald 59 dX12_wears_58 rfl (fun a_58 _ => ?_)
      refine dk_iadd 60 dX12_wears_59 rfl ?_
      refine dk_iconst 61 0 dX12_wears_60 rfl rfl ?_
      refine dk_bipush 63 99 dX12_wears_61 rfl rfl ?_
      refine dk_callSN (np := 3) (M' := m_L_held) (As := [.int (a_50 + a_58), .int 0, .int 99]) (st := []) 66 6 dX12_wears_63 rfl rfl km_L_held ks_L_held rfl (by decide) rfl rfl (Nat.le_of_ble_eq_true rfl) (dc_L_held N (d + 0) (a_50 + a_58) (0 : Int32) (99 : Int32) h) (fun v_63 h_63 e_63 => ?_)
      show DOk _ _ _ _ _ (.int v_63 :: []) _ _
      exact dk_iret dX12_wears_66 rfl
    · refine dk_aload_n 25 0 dX12_wears_24 rfl rfl rfl ?_
      refine dk_getR 28 dX12_wears_25 rfl rfl F_EncoresLaw_House_25 (fun r_25 _ => ?_)
      refine dk_iload_n 29 1 dX12_wears_28 rfl rfl rfl ?_
      refine dk_aald 103 30 (Or.inl rfl) dX12_wears_29 rfl (fun r_29 _ => ?_)
      refine dk_iconst 31 3 dX12_wears_30 rfl rfl ?_
      refine dk_iald 32 dX12_wears_31 rfl (fun a_31 _ => ?_)
      refine dk_iconst 33 4 dX12_wears_32 rfl rfl ?_
      refine dk_idivc 34 dX12_wears_33 rfl (by decide) ?_
      refine dk_iconst 35 1 dX12_wears_34 rfl rfl ?_
      refine dk_iadd 36 dX12_wears_35 rfl ?_
      refine dk_iconst 37 0 dX12_wears_36 rfl rfl ?_
      refine dk_bipush 39 99 dX12_wears_37 rfl rfl ?_
      refine dk_callSN (np := 3) (M' := m_L_held) (As := [.int ((a_31 / (4 : Int32)) + (1 : Int32)), .int 0, .int 99]) (st := []) 42 6 dX12_wears_39 rfl rfl km_L_held ks_L_held rfl (by decide) rfl rfl (Nat.le_of_ble_eq_true rfl) (dc_L_held N (d + 0) ((a_31 / (4 : Int32)) + (1 : Int32)) (0 : Int32) (99 : Int32) h) (fun v_39 h_39 e_39 => ?_)
      show DOk _ _ _ _ _ (.int v_39 :: []) _ _
      refine dk_goto 66 dX12_wears_42 (by decide) ?_
      exact dk_iret dX12_wears_66 rfl

theorem dc_X12_wears (N d : Nat) (this : Nat) (a1 : Int32) (h : DS) : DCM SX (d + 2) m_X12_wears [.ref this, .int a1] h (g_X12_wears N this a1 h) :=
  DCM.ofDOk km_X12_wears (by simp [Value.category]) (Nat.le_of_ble_eq_true rfl) (dg_X12_wears N d this a1 h)

def g_X12_clap_J109 (N : Nat) (this : Nat) (a1 : Int32) (a2 : Int32) (a3 : Int32)   (s4_109 : Nat) (s5_109 : Nat) (h : DS) : DA :=
bo (lA h 100 s5_109 (6 : Int32)) fun a_113 =>
bo (lA h 100 s4_109 (5 : Int32)) fun a_117 =>
bd3 (g_L_held N ((a_113 + (a_117 * (4 : Int32))) - a1) (0 : Int32) (1000 : Int32) h) fun v_127 h_127 =>
some (v_127, h_127)

def g_X12_clap_J95 (N : Nat) (this : Nat) (a1 : Int32) (a2 : Int32) (a3 : Int32)   (s4_95 : Nat) (s5_95 : Nat) (h : DS) : DA :=
if (1 : Int32) < a3 then (g_X12_clap_J109 N this a1 a2 a3 s4_95 s5_95 h)
else (bo (lA h 100 s4_95 (5 : Int32)) fun a_103 =>
if a_103 ≤ (20 : Int32) then (bo (lA h 100 s4_95 (1 : Int32)) fun a_136 =>
bo (dI h this 12 1) fun a_141 =>
bo (lA h 100 s4_95 (0 : Int32)) fun a_154 =>
bd3 (g_L_held N (((a_136 * (60 : Int32)) - ((a_141 / (60 : Int32)) * (20 : Int32))) + a_154) (0 : Int32) (1000 : Int32) h) fun v_160 h_160 =>
some (v_160, h_160))
else (g_X12_clap_J109 N this a1 a2 a3 s4_95 s5_95 h))

def g_X12_clap (N : Nat) (this : Nat) (a1 : Int32) (a2 : Int32) (a3 : Int32) (h : DS) : DA :=
bo (nn (dR h this 12 15)) fun r_1 =>
bo (lQ h 103 r_1 a1) fun r_5 =>
bo (dR h this 12 21) fun o_9 =>
onn o_9 (bo (lA h 100 r_5 (1 : Int32)) fun a_24 =>
bd3 (g_L_held N ((100 : Int32) * a_24) (0 : Int32) (1000 : Int32) h) fun v_30 h_30 =>
some (v_30, h_30)) fun r_16 =>
(bo (lA h 100 r_5 (1 : Int32)) fun a_37 =>
bo (lA h 100 r_16 (3 : Int32)) fun a_41 =>
if a_37 ≤ a_41 then (g_X12_clap_J95 N this a1 a2 a3 r_5 r_16 h)
else (bo (lA h 100 r_5 (2 : Int32)) fun a_48 =>
bo (lA h 100 r_16 (4 : Int32)) fun a_52 =>
if a_52 < a_48 then (g_X12_clap_J95 N this a1 a2 a3 r_5 r_16 h)
else (bo (dI h this 12 5) fun a_57 =>
if (3 : Int32) < a_57 then (g_X12_clap_J95 N this a1 a2 a3 r_5 r_16 h)
else (bo (lA h 100 r_16 (5 : Int32)) fun a_67 =>
bo (nn (dR h this 12 16)) fun r_75 =>
bo (lQ h 103 r_75 a2) fun r_79 =>
bo (lA h 100 r_79 (3 : Int32)) fun a_81 =>
bd3 (g_L_held N ((a_67 + (a3 * (150 : Int32))) - (a_81 * (5 : Int32))) (0 : Int32) (1000 : Int32) h) fun v_89 h_89 =>
some (v_89, h_89)))))

set_option maxRecDepth 100000 in
set_option maxHeartbeats 4000000 in
theorem dj_X12_clap_J109 (N d : Nat) (this : Nat) (a1 : Int32) (a2 : Int32) (a3 : Int32)   (s4_109 : Nat) (s5_109 : Nat) (h : DS) : DOk SX (d + 2) m_X12_clap 109 [none, some (.int a1), none, none, some (.ref s4_109), some (.ref s5_109)] [] h (g_X12_clap_J109 N this a1 a2 a3 s4_109 s5_109 h) := by
  unfold g_X12_clap_J109
  refine dk_aload 111 5 dX12_clap_109 rfl rfl ?_
  refine dk_bipush 113 6 dX12_clap_111 rfl rfl ?_
  refine dk_iald 114 dX12_clap_113 rfl (fun a_113 _ => ?_)
  refine dk_aload 116 4 dX12_clap_114 rfl rfl ?_
  refine dk_iconst 117 5 dX12_clap_116 rfl rfl ?_
  refine dk_iald 118 dX12_clap_117 rfl (fun a_117 _ => ?_)
  refine dk_iconst 119 4 dX12_clap_118 rfl rfl ?_
  refine dk_imul 120 dX12_clap_119 rfl ?_
  refine dk_iadd 121 dX12_clap_120 rfl ?_
  refine dk_iload_n 122 1 dX12_clap_121 rfl rfl rfl ?_
  refine dk_isub 123 dX12_clap_122 rfl ?_
  refine dk_iconst 124 0 dX12_clap_123 rfl rfl ?_
  refine dk_sipush 127 1000 dX12_clap_124 rfl rfl ?_
  refine dk_callSN (np := 3) (M' := m_L_held) (As := [.int ((a_113 + (a_117 * (4 : Int32))) - a1), .int 0, .int 1000]) (st := []) 130 6 dX12_clap_127 rfl rfl km_L_held ks_L_held rfl (by decide) rfl rfl (Nat.le_of_ble_eq_true rfl) (dc_L_held N (d + 0) ((a_113 + (a_117 * (4 : Int32))) - a1) (0 : Int32) (1000 : Int32) h) (fun v_127 h_127 e_127 => ?_)
  show DOk _ _ _ _ _ (.int v_127 :: []) _ _
  refine dk_goto 163 dX12_clap_130 (by decide) ?_
  exact dk_iret dX12_clap_163 rfl

set_option maxRecDepth 100000 in
set_option maxHeartbeats 4000000 in
theorem dj_X12_clap_J95 (N d : Nat) (this : Nat) (a1 : Int32) (a2 : Int32) (a3 : Int32)   (s4_95 : Nat) (s5_95 : Nat) (h : DS) : DOk SX (d + 2) m_X12_clap 95 [some (.ref this), some (.int a1), none, some (.int a3), some (.ref s4_95), some (.ref s5_95)] [] h (g_X12_clap_J95 N this a1 a2 a3 s4_95 s5_95 h) := by
  unfold g_X12_clap_J95
  refine dk_iload_n 96 3 dX12_clap_95 rfl rfl rfl ?_
  refine dk_iconst 97 1 dX12_clap_96 rfl rfl ?_
  refine dk_icmp_gt 109 100 dX12_clap_97 (by decide) rfl (fun _ => ?_) (fun _ => ?_)
  · exact dk_less [none, some (.int a1), none, none, some (.ref s4_95), some (.ref s5_95)] (And.intro rfl (And.intro rfl (And.intro rfl (trivial)))) (dj_X12_clap_J109 (SX := SX) N d this a1 a2 a3 s4_95 s5_95 h)
  · refine dk_aload 102 4 dX12_clap_100 rfl rfl ?_
    refine dk_iconst 103 5 dX12_clap_102 rfl rfl ?_
    refine dk_iald 104 dX12_clap_103 rfl (fun a_103 _ => ?_)
    refine dk_bipush 106 20 dX12_clap_104 rfl rfl ?_
    refine dk_icmp_le 133 109 dX12_clap_106 (by decide) rfl (fun _ => ?_) (fun _ => ?_)
    · refine dk_aload 135 4 dX12_clap_133 rfl rfl ?_
      refine dk_iconst 136 1 dX12_clap_135 rfl rfl ?_
      refine dk_iald 137 dX12_clap_136 rfl (fun a_136 _ => ?_)
      refine dk_bipush 139 60 dX12_clap_137 rfl rfl ?_
      refine dk_imul 140 dX12_clap_139 rfl ?_
      refine dk_aload_n 141 0 dX12_clap_140 rfl rfl rfl ?_
      refine dk_getI 144 dX12_clap_141 rfl rfl F_EncoresLaw_House_44 (fun a_141 _ => ?_)
      refine dk_bipush 146 60 dX12_clap_144 rfl rfl ?_
      refine dk_idivc 147 dX12_clap_146 rfl (by decide) ?_
      refine dk_bipush 149 20 dX12_clap_147 rfl rfl ?_
      refine dk_imul 150 dX12_clap_149 rfl ?_
      refine dk_isub 151 dX12_clap_150 rfl ?_
      refine dk_aload 153 4 dX12_clap_151 rfl rfl ?_
      refine dk_iconst 154 0 dX12_clap_153 rfl rfl ?_
      refine dk_iald 155 dX12_clap_154 rfl (fun a_154 _ => ?_)
      refine dk_iadd 156 dX12_clap_155 rfl ?_
      refine dk_iconst 157 0 dX12_clap_156 rfl rfl ?_
      refine dk_sipush 160 1000 dX12_clap_157 rfl rfl ?_
      refine dk_callSN (np := 3) (M' := m_L_held) (As := [.int (((a_136 * (60 : Int32)) - ((a_141 / (60 : Int32)) * (20 : Int32))) + a_154), .int 0, .int 1000]) (st := []) 163 6 dX12_clap_160 rfl rfl km_L_held ks_L_held rfl (by decide) rfl rfl (Nat.le_of_ble_eq_true rfl) (dc_L_held N (d + 0) (((a_136 * (60 : Int32)) - ((a_141 / (60 : Int32)) * (20 : Int32))) + a_154) (0 : Int32) (1000 : Int32) h) (fun v_160 h_160 e_160 => ?_)
      show DOk _ _ _ _ _ (.int v_160 :: []) _ _
      exact dk_iret dX12_clap_163 rfl
    · exact dk_less [none, some (.int a1), none, none, some (.ref s4_95), some (.ref s5_95)] (And.intro rfl (And.intro rfl (And.intro rfl (trivial)))) (dj_X12_clap_J109 (SX := SX) N d this a1 a2 a3 s4_95 s5_95 h)

set_option maxRecDepth 100000 in
set_option maxHeartbeats 4000000 in
theorem dg_X12_clap (N d : Nat) (this : Nat) (a1 : Int32) (a2 : Int32) (a3 : Int32) (h : DS) : DOk SX (d + 2) m_X12_clap 0 [some (.ref this), some (.int a1), some (.int a2), some (.int a3), none, none] [] h (g_X12_clap N this a1 a2 a3 h) := by
  unfold g_X12_clap
  refine dk_aload_n 1 0 dX12_clap_0 rfl rfl rfl ?_
  refine dk_getR 4 dX12_clap_1 rfl rfl F_EncoresLaw_House_21 (fun r_1 _ => ?_)
  refine dk_iload_n 5 1 dX12_clap_4 rfl rfl rfl ?_
  refine dk_aald 103 6 (Or.inl rfl) dX12_clap_5 rfl (fun r_5 _ => ?_)
  refine dk_astore 8 4 [some (.ref this), some (.int a1), some (.int a2), some (.int a3), some (.ref r_5), none] dX12_clap_6 rfl (by decide) rfl ?_
  refine dk_aload_n 9 0 dX12_clap_8 rfl rfl rfl ?_
  refine dk_getRo 12 dX12_clap_9 rfl rfl F_EncoresLaw_House_77 (fun o_9 _ => ?_)
  refine dk_astoreo 14 5 [some (.ref this), some (.int a1), some (.int a2), some (.int a3), some (.ref r_5), some (rv o_9)] dX12_clap_12 rfl (by decide) rfl ?_
  refine dk_aloado 16 5 dX12_clap_14 rfl rfl ?_
  refine dk_ifnonnull 34 19 dX12_clap_16 (by decide) rfl (fun he_16 => ?_) (fun r_16 he_16 => ?_)
  · subst he_16
    refine dk_bipush 21 100 dX12_clap_19 rfl rfl ?_
    refine dk_aload 23 4 dX12_clap_21 rfl rfl ?_
    refine dk_iconst 24 1 dX12_clap_23 rfl rfl ?_
    refine dk_iald 25 dX12_clap_24 rfl (fun a_24 _ => ?_)
    refine dk_imul 26 dX12_clap_25 rfl ?_
    refine dk_iconst 27 0 dX12_clap_26 rfl rfl ?_
    refine dk_sipush 30 1000 dX12_clap_27 rfl rfl ?_
    refine dk_callSN (np := 3) (M' := m_L_held) (As := [.int ((100 : Int32) * a_24), .int 0, .int 1000]) (st := []) 33 6 dX12_clap_30 rfl rfl km_L_held ks_L_held rfl (by decide) rfl rfl (Nat.le_of_ble_eq_true rfl) (dc_L_held N (d + 0) ((100 : Int32) * a_24) (0 : Int32) (1000 : Int32) h) (fun v_30 h_30 e_30 => ?_)
    show DOk _ _ _ _ _ (.int v_30 :: []) _ _
    exact dk_iret dX12_clap_33 rfl
  · subst he_16
    refine dk_aload 36 4 dX12_clap_34 rfl rfl ?_
    refine dk_iconst 37 1 dX12_clap_36 rfl rfl ?_
    refine dk_iald 38 dX12_clap_37 rfl (fun a_37 _ => ?_)
    refine dk_aload 40 5 dX12_clap_38 rfl rfl ?_
    refine dk_iconst 41 3 dX12_clap_40 rfl rfl ?_
    refine dk_iald 42 dX12_clap_41 rfl (fun a_41 _ => ?_)
    refine dk_icmp_le 95 45 dX12_clap_42 (by decide) rfl (fun _ => ?_) (fun _ => ?_)
    · exact dk_less [some (.ref this), some (.int a1), none, some (.int a3), some (.ref r_5), some (.ref r_16)] (And.intro rfl (And.intro rfl (And.intro rfl (And.intro rfl (And.intro rfl (trivial)))))) (dj_X12_clap_J95 (SX := SX) N d this a1 a2 a3 r_5 r_16 h)
    · refine dk_aload 47 4 dX12_clap_45 rfl rfl ?_
      refine dk_iconst 48 2 dX12_clap_47 rfl rfl ?_
      refine dk_iald 49 dX12_clap_48 rfl (fun a_48 _ => ?_)
      refine dk_aload 51 5 dX12_clap_49 rfl rfl ?_
      refine dk_iconst 52 4 dX12_clap_51 rfl rfl ?_
      refine dk_iald 53 dX12_clap_52 rfl (fun a_52 _ => ?_)
      refine dk_icmp_gt 95 56 dX12_clap_53 (by decide) rfl (fun _ => ?_) (fun _ => ?_)
      · exact dk_less [some (.ref this), some (.int a1), none, some (.int a3), some (.ref r_5), some (.ref r_16)] (And.intro rfl (And.intro rfl (And.intro rfl (And.intro rfl (And.intro rfl (trivial)))))) (dj_X12_clap_J95 (SX := SX) N d this a1 a2 a3 r_5 r_16 h)
      · refine dk_aload_n 57 0 dX12_clap_56 rfl rfl rfl ?_
        refine dk_getI 60 dX12_clap_57 rfl rfl F_EncoresLaw_House_53 (fun a_57 _ => ?_)
        refine dk_iconst 61 3 dX12_clap_60 rfl rfl ?_
        refine dk_icmp_gt 95 64 dX12_clap_61 (by decide) rfl (fun _ => ?_) (fun _ => ?_)
        · exact dk_less [some (.ref this), some (.int a1), none, some (.int a3), some (.ref r_5), some (.ref r_16)] (And.intro rfl (And.intro rfl (And.intro rfl (And.intro rfl (And.intro rfl (trivial)))))) (dj_X12_clap_J95 (SX := SX) N d this a1 a2 a3 r_5 r_16 h)
        · refine dk_aload 66 5 dX12_clap_64 rfl rfl ?_
          refine dk_iconst 67 5 dX12_clap_66 rfl rfl ?_
          refine dk_iald 68 dX12_clap_67 rfl (fun a_67 _ => ?_)
          refine dk_iload_n 69 3 dX12_clap_68 rfl rfl rfl ?_
          refine dk_sipush 72 150 dX12_clap_69 rfl rfl ?_
          refine dk_imul 73 dX12_clap_72 rfl ?_
          refine dk_iadd 74 dX12_clap_73 rfl ?_
          refine dk_aload_n 75 0 dX12_clap_74 rfl rfl rfl ?_
          refine dk_getR 78 dX12_clap_75 rfl rfl F_EncoresLaw_House_25 (fun r_75 _ => ?_)
          refine dk_iload_n 79 2 dX12_clap_78 rfl rfl rfl ?_
          refine dk_aald 103 80 (Or.inl rfl) dX12_clap_79 rfl (fun r_79 _ => ?_)
          refine dk_iconst 81 3 dX12_clap_80 rfl rfl ?_
          refine dk_iald 82 dX12_clap_81 rfl (fun a_81 _ => ?_)
          refine dk_iconst 83 5 dX12_clap_82 rfl rfl ?_
          refine dk_imul 84 dX12_clap_83 rfl ?_
          refine dk_isub 85 dX12_clap_84 rfl ?_
          refine dk_iconst 86 0 dX12_clap_85 rfl rfl ?_
          refine dk_sipush 89 1000 dX12_clap_86 rfl rfl ?_
          refine dk_callSN (np := 3) (M' := m_L_held) (As := [.int ((a_67 + (a3 * (150 : Int32))) - (a_81 * (5 : Int32))), .int 0, .int 1000]) (st := []) 92 6 dX12_clap_89 rfl rfl km_L_held ks_L_held rfl (by decide) rfl rfl (Nat.le_of_ble_eq_true rfl) (dc_L_held N (d + 0) ((a_67 + (a3 * (150 : Int32))) - (a_81 * (5 : Int32))) (0 : Int32) (1000 : Int32) h) (fun v_89 h_89 e_89 => ?_)
          show DOk _ _ _ _ _ (.int v_89 :: []) _ _
          refine dk_goto 163 dX12_clap_92 (by decide) ?_
          exact dk_iret dX12_clap_163 rfl

theorem dc_X12_clap (N d : Nat) (this : Nat) (a1 : Int32) (a2 : Int32) (a3 : Int32) (h : DS) : DCM SX (d + 2) m_X12_clap [.ref this, .int a1, .int a2, .int a3] h (g_X12_clap N this a1 a2 a3 h) :=
  DCM.ofDOk km_X12_clap (by simp [Value.category]) (Nat.le_of_ble_eq_true rfl) (dg_X12_clap N d this a1 a2 a3 h)

