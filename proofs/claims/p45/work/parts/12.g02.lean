variable {SX : SXT}
def f_X6_readStatute (N : Nat) (a1 : Int32) (m : Mem) : Ans :=
if a1 = 264 then (bd (f_X6_readNumber N 1 1 99 m) fun _ m_41 =>
bd (f_X6_readWord N 273 m_41) fun _ m_48 =>
bd (f_X6_readNumber N 2 0 9999 m_48) fun _ m_57 =>
bd (f_X6_readWord N 59 m_57) fun _ m_101 =>
some (0, m_101))
else (if a1 = 274 then (bd (f_X6_readNumber N 1 0 20 m) fun _ m_68 =>
bd (f_X6_readWord N 59 m_68) fun _ m_101 =>
some (0, m_101))
else (if a1 = 275 then (bd (f_X6_readNumber N 1 0 ((m 103 10) - (1 : Int32)) m) fun _ m_83 =>
bd (f_X6_readWord N 59 m_83) fun _ m_101 =>
some (0, m_101))
else (bd (f_X6_readNumber N 1 1 9999 m) fun _ m_95 =>
bd (f_X6_readWord N 59 m_95) fun _ m_101 =>
some (0, m_101))))

set_option maxRecDepth 100000 in
set_option maxHeartbeats 4000000 in
theorem ok_X6_readStatute (N d : Nat) (a1 : Int32)  (m : Mem) : Ok SX SG (d + 3) m_X6_readStatute 0 [some (.ref 103), some (.int a1)] [] SG m (f_X6_readStatute N a1 m) := by
  unfold f_X6_readStatute
  refine ok_iload_n 1 1 dX6_readStatute_0 rfl rfl rfl ?_
  refine ok_lsw dX6_readStatute_1 (by decide) ?_
  by_cases hq_1_264 : a1 = 264
  · rw [if_pos hq_1_264]
    refine ⟨36, by rw [hq_1_264]; decide, ?_⟩
    refine ok_aload_n 37 0 dX6_readStatute_36 rfl rfl rfl ?_
    refine ok_iconst 38 1 dX6_readStatute_37 rfl rfl ?_
    refine ok_iconst 39 1 dX6_readStatute_38 rfl rfl ?_
    refine ok_bipush 41 99 dX6_readStatute_39 rfl rfl ?_
    refine ok_callVv (np := 3) (M' := m_X6_readNumber) (As := [.int 1, .int 1, .int 99]) (st := []) 44 dX6_readStatute_41 rfl rfl km_X6_readNumber ki_X6_readNumber kv_X6_readNumber ml_Encores_Reader_84 (by decide) sg_103 rfl (Nat.le_of_ble_eq_true rfl) rfl rfl rfl (Nat.le_of_ble_eq_true rfl) (c_X6_readNumber N (d + 0) 1 1 99 m) ⟨Nat.le_refl _, Nat.le_refl _⟩ (Or.inl rfl) rfl (fun _ m_41 _ => ?_)
    refine ok_aload_n 45 0 dX6_readStatute_44 rfl rfl rfl ?_
    refine ok_sipush 48 273 dX6_readStatute_45 rfl rfl ?_
    refine ok_callVv (np := 1) (M' := m_X6_readWord) (As := [.int 273]) (st := []) 51 dX6_readStatute_48 rfl rfl km_X6_readWord ki_X6_readWord kv_X6_readWord ml_Encores_Reader_88 (by decide) sg_103 rfl (Nat.le_of_ble_eq_true rfl) rfl rfl rfl (Nat.le_of_ble_eq_true rfl) (c_X6_readWord N (d + 0) 273 m_41) ⟨Nat.le_refl _, Nat.le_refl _⟩ (Or.inl rfl) rfl (fun _ m_48 _ => ?_)
    refine ok_aload_n 52 0 dX6_readStatute_51 rfl rfl rfl ?_
    refine ok_iconst 53 2 dX6_readStatute_52 rfl rfl ?_
    refine ok_iconst 54 0 dX6_readStatute_53 rfl rfl ?_
    refine ok_sipush 57 9999 dX6_readStatute_54 rfl rfl ?_
    refine ok_callVv (np := 3) (M' := m_X6_readNumber) (As := [.int 2, .int 0, .int 9999]) (st := []) 60 dX6_readStatute_57 rfl rfl km_X6_readNumber ki_X6_readNumber kv_X6_readNumber ml_Encores_Reader_84 (by decide) sg_103 rfl (Nat.le_of_ble_eq_true rfl) rfl rfl rfl (Nat.le_of_ble_eq_true rfl) (c_X6_readNumber N (d + 0) 2 0 9999 m_48) ⟨Nat.le_refl _, Nat.le_refl _⟩ (Or.inl rfl) rfl (fun _ m_57 _ => ?_)
    refine ok_goto 98 dX6_readStatute_60 (by decide) ?_
    refine ok_aload_n 99 0 dX6_readStatute_98 rfl rfl rfl ?_
    refine ok_bipush 101 59 dX6_readStatute_99 rfl rfl ?_
    refine ok_callVv (np := 1) (M' := m_X6_readWord) (As := [.int 59]) (st := []) 104 dX6_readStatute_101 rfl rfl km_X6_readWord ki_X6_readWord kv_X6_readWord ml_Encores_Reader_88 (by decide) sg_103 rfl (Nat.le_of_ble_eq_true rfl) rfl rfl rfl (Nat.le_of_ble_eq_true rfl) (c_X6_readWord N (d + 0) 59 m_57) ⟨Nat.le_refl _, Nat.le_refl _⟩ (Or.inl rfl) rfl (fun _ m_101 _ => ?_)
    exact ok_vret dX6_readStatute_104 rfl
  rw [if_neg hq_1_264]
  by_cases hq_1_274 : a1 = 274
  · rw [if_pos hq_1_274]
    refine ⟨63, by rw [hq_1_274]; decide, ?_⟩
    refine ok_aload_n 64 0 dX6_readStatute_63 rfl rfl rfl ?_
    refine ok_iconst 65 1 dX6_readStatute_64 rfl rfl ?_
    refine ok_iconst 66 0 dX6_readStatute_65 rfl rfl ?_
    refine ok_bipush 68 20 dX6_readStatute_66 rfl rfl ?_
    refine ok_callVv (np := 3) (M' := m_X6_readNumber) (As := [.int 1, .int 0, .int 20]) (st := []) 71 dX6_readStatute_68 rfl rfl km_X6_readNumber ki_X6_readNumber kv_X6_readNumber ml_Encores_Reader_84 (by decide) sg_103 rfl (Nat.le_of_ble_eq_true rfl) rfl rfl rfl (Nat.le_of_ble_eq_true rfl) (c_X6_readNumber N (d + 0) 1 0 20 m) ⟨Nat.le_refl _, Nat.le_refl _⟩ (Or.inl rfl) rfl (fun _ m_68 _ => ?_)
    refine ok_goto 98 dX6_readStatute_71 (by decide) ?_
    refine ok_aload_n 99 0 dX6_readStatute_98 rfl rfl rfl ?_
    refine ok_bipush 101 59 dX6_readStatute_99 rfl rfl ?_
    refine ok_callVv (np := 1) (M' := m_X6_readWord) (As := [.int 59]) (st := []) 104 dX6_readStatute_101 rfl rfl km_X6_readWord ki_X6_readWord kv_X6_readWord ml_Encores_Reader_88 (by decide) sg_103 rfl (Nat.le_of_ble_eq_true rfl) rfl rfl rfl (Nat.le_of_ble_eq_true rfl) (c_X6_readWord N (d + 0) 59 m_68) ⟨Nat.le_refl _, Nat.le_refl _⟩ (Or.inl rfl) rfl (fun _ m_101 _ => ?_)
    exact ok_vret dX6_readStatute_104 rfl
  rw [if_neg hq_1_274]
  by_cases hq_1_275 : a1 = 275
  · rw [if_pos hq_1_275]
    refine ⟨74, by rw [hq_1_275]; decide, ?_⟩
    refine ok_aload_n 75 0 dX6_readStatute_74 rfl rfl rfl ?_
    refine ok_iconst 76 1 dX6_readStatute_75 rfl rfl ?_
    refine ok_iconst 77 0 dX6_readStatute_76 rfl rfl ?_
    refine ok_aload_n 78 0 dX6_readStatute_77 rfl rfl rfl ?_
    refine ok_getI 81 dX6_readStatute_78 rfl rfl F_Encores_Reader_39 sg_103 rfl (Nat.le_of_ble_eq_true rfl) rfl ?_
    refine ok_iconst 82 1 dX6_readStatute_81 rfl rfl ?_
    refine ok_isub 83 dX6_readStatute_82 rfl ?_
    refine ok_callVv (np := 3) (M' := m_X6_readNumber) (As := [.int 1, .int 0, .int ((m 103 10) - (1 : Int32))]) (st := []) 86 dX6_readStatute_83 rfl rfl km_X6_readNumber ki_X6_readNumber kv_X6_readNumber ml_Encores_Reader_84 (by decide) sg_103 rfl (Nat.le_of_ble_eq_true rfl) rfl rfl rfl (Nat.le_of_ble_eq_true rfl) (c_X6_readNumber N (d + 0) 1 0 ((m 103 10) - (1 : Int32)) m) ⟨Nat.le_refl _, Nat.le_refl _⟩ (Or.inl rfl) rfl (fun _ m_83 _ => ?_)
    refine ok_goto 98 dX6_readStatute_86 (by decide) ?_
    refine ok_aload_n 99 0 dX6_readStatute_98 rfl rfl rfl ?_
    refine ok_bipush 101 59 dX6_readStatute_99 rfl rfl ?_
    refine ok_callVv (np := 1) (M' := m_X6_readWord) (As := [.int 59]) (st := []) 104 dX6_readStatute_101 rfl rfl km_X6_readWord ki_X6_readWord kv_X6_readWord ml_Encores_Reader_88 (by decide) sg_103 rfl (Nat.le_of_ble_eq_true rfl) rfl rfl rfl (Nat.le_of_ble_eq_true rfl) (c_X6_readWord N (d + 0) 59 m_83) ⟨Nat.le_refl _, Nat.le_refl _⟩ (Or.inl rfl) rfl (fun _ m_101 _ => ?_)
    exact ok_vret dX6_readStatute_104 rfl
  rw [if_neg hq_1_275]
  refine ⟨89, ?_, ?_⟩
  · refine lsw_none (by decide) (fun q hq => ?_)
    simp only [List.mem_cons, List.not_mem_nil, or_false] at hq
    rcases hq with rfl | rfl | rfl
    · exact fun h2 => hq_1_264 (Int32.toInt_inj.mp (h2.trans (by decide : (264 : Int) = (264 : Int32).toInt)))
    · exact fun h2 => hq_1_274 (Int32.toInt_inj.mp (h2.trans (by decide : (274 : Int) = (274 : Int32).toInt)))
    · exact fun h2 => hq_1_275 (Int32.toInt_inj.mp (h2.trans (by decide : (275 : Int) = (275 : Int32).toInt)))
  · refine ok_aload_n 90 0 dX6_readStatute_89 rfl rfl rfl ?_
    refine ok_iconst 91 1 dX6_readStatute_90 rfl rfl ?_
    refine ok_iconst 92 1 dX6_readStatute_91 rfl rfl ?_
    refine ok_sipush 95 9999 dX6_readStatute_92 rfl rfl ?_
    refine ok_callVv (np := 3) (M' := m_X6_readNumber) (As := [.int 1, .int 1, .int 9999]) (st := []) 98 dX6_readStatute_95 rfl rfl km_X6_readNumber ki_X6_readNumber kv_X6_readNumber ml_Encores_Reader_84 (by decide) sg_103 rfl (Nat.le_of_ble_eq_true rfl) rfl rfl rfl (Nat.le_of_ble_eq_true rfl) (c_X6_readNumber N (d + 0) 1 1 9999 m) ⟨Nat.le_refl _, Nat.le_refl _⟩ (Or.inl rfl) rfl (fun _ m_95 _ => ?_)
    refine ok_aload_n 99 0 dX6_readStatute_98 rfl rfl rfl ?_
    refine ok_bipush 101 59 dX6_readStatute_99 rfl rfl ?_
    refine ok_callVv (np := 1) (M' := m_X6_readWord) (As := [.int 59]) (st := []) 104 dX6_readStatute_101 rfl rfl km_X6_readWord ki_X6_readWord kv_X6_readWord ml_Encores_Reader_88 (by decide) sg_103 rfl (Nat.le_of_ble_eq_true rfl) rfl rfl rfl (Nat.le_of_ble_eq_true rfl) (c_X6_readWord N (d + 0) 59 m_95) ⟨Nat.le_refl _, Nat.le_refl _⟩ (Or.inl rfl) rfl (fun _ m_101 _ => ?_)
    exact ok_vret dX6_readStatute_104 rfl

theorem c_X6_readStatute (N d : Nat) (a1 : Int32)  (m : Mem) : CM SX (d + 3) m_X6_readStatute SG SG [.ref 103, .int a1] m (f_X6_readStatute N a1 m) :=
  CM.ofOk km_X6_readStatute ⟨Nat.le_refl _, Nat.le_refl _⟩ (by simp [Value.category]) (Nat.le_of_ble_eq_true rfl) (ok_X6_readStatute N d a1 m)

def f_X6_readLine (N : Nat) (a1 : Int32) (m : Mem) : Ans :=
bnd (m 99 3) fun a2_7 =>
bd (f_X6_begins N a1 a2_7 m) fun r_10 m_10 =>
if r_10 = 0 then (bd (f_X6_blame N 1 m_10) fun _ m_18 =>
some (0, m_18))
else (bnd (mset m_10 103 9 (m_10 104 3)) fun m_30 =>
bd (f_X9_add N 104 a2_7 0 0 0 m_30) fun r_41 m_41 =>
if r_41 = 0 then (bd (f_X6_blame N 3 m_41) fun _ m_49 =>
some (0, m_49))
else (bd (f_X10_next N m_41) fun _ m_57 =>
swt (Int32.toInt a1 - (0)) [(bd (f_X6_readLaw N m_57) fun _ m_89 =>
some (0, m_89)),
(bd (f_X6_readStatute N a2_7 m_57) fun _ m_97 =>
some (0, m_97)),
(bd (f_X6_readNumber N 1 0 9999 m_57) fun _ m_109 =>
bd (f_X6_readWord N 278 m_109) fun _ m_116 =>
bd (f_X6_readNumber N 2 0 ((m_116 103 11) - (1 : Int32)) m_116) fun _ m_128 =>
bd (f_X6_readWord N 59 m_128) fun _ m_134 =>
some (0, m_134))] (bd (f_X6_readNumber N 1 0 ((m_57 103 10) - (1 : Int32)) m_57) fun _ m_149 =>
bd (f_X6_readWord N 271 m_149) fun _ m_156 =>
bd (f_X6_readNumber N 2 0 ((m_156 103 10) - (1 : Int32)) m_156) fun _ m_168 =>
bd (f_X6_readWord N 59 m_168) fun _ m_174 =>
some (0, m_174))))

set_option maxRecDepth 100000 in
set_option maxHeartbeats 4000000 in
theorem ok_X6_readLine (N d : Nat) (a1 : Int32)  (m : Mem) : Ok SX SG (d + 5) m_X6_readLine 0 [some (.ref 103), some (.int a1), none] [] SG m (f_X6_readLine N a1 m) := by
  unfold f_X6_readLine
  refine ok_aload_n 1 0 dX6_readLine_0 rfl rfl rfl ?_
  refine ok_getR 4 dX6_readLine_1 rfl rfl F_Encores_Reader_26 sg_103 rfl (Nat.le_of_ble_eq_true rfl) rfl rfl ?_
  refine ok_getI 7 dX6_readLine_4 rfl rfl F_Encores_Reader_54 sg_99 rfl (Nat.le_of_ble_eq_true rfl) rfl ?_
  refine ok_bndI (fun a2_7 => ?_)
  refine ok_istore_n 8 2 [some (.ref 103), some (.int a1), some (.int a2_7)] dX6_readLine_7 rfl rfl (by decide) rfl ?_
  refine ok_iload_n 9 1 dX6_readLine_8 rfl rfl rfl ?_
  refine ok_iload_n 10 2 dX6_readLine_9 rfl rfl rfl ?_
  refine ok_callSi (np := 2) (M' := m_X6_begins) (As := [.int a1, .int a2_7]) (st := []) 13 dX6_readLine_10 rfl rfl km_X6_begins ks_X6_begins ml_Encores_Reader_61 (by decide) rfl rfl (Nat.le_of_ble_eq_true rfl) (c_X6_begins N (d + 3) a1 a2_7 m) ⟨Nat.le_refl _, Nat.le_refl _⟩ (Or.inl rfl) rfl (fun r_10 m_10 _ => ?_)
  refine ok_if_ne 22 16 dX6_readLine_13 (by decide) rfl (fun _ => ?_) (fun _ => ?_)
  · refine ok_aload_n 23 0 dX6_readLine_22 rfl rfl rfl ?_
    refine ok_aload_n 24 0 dX6_readLine_23 rfl rfl rfl ?_
    refine ok_getR 27 dX6_readLine_24 rfl rfl F_Encores_Reader_14 sg_103 rfl (Nat.le_of_ble_eq_true rfl) rfl rfl ?_
    refine ok_getI 30 dX6_readLine_27 rfl rfl F_Encores_Reader_37 sg_104 rfl (Nat.le_of_ble_eq_true rfl) rfl ?_
    refine ok_putI 33 dX6_readLine_30 rfl rfl F_Encores_Reader_68 sg_103 rfl (Nat.le_of_ble_eq_true rfl) rfl rfl pZ_6_9 rfl rfl ?_
    refine ok_bndM (fun m_30 => ?_)
    refine ok_aload_n 34 0 dX6_readLine_33 rfl rfl rfl ?_
    refine ok_getR 37 dX6_readLine_34 rfl rfl F_Encores_Reader_14 sg_103 rfl (Nat.le_of_ble_eq_true rfl) rfl rfl ?_
    refine ok_iload_n 38 2 dX6_readLine_37 rfl rfl rfl ?_
    refine ok_iconst 39 0 dX6_readLine_38 rfl rfl ?_
    refine ok_iconst 40 0 dX6_readLine_39 rfl rfl ?_
    refine ok_iconst 41 0 dX6_readLine_40 rfl rfl ?_
    refine ok_callVi (np := 4) (M' := m_X9_add) (As := [.int a2_7, .int 0, .int 0, .int 0]) (st := []) 44 dX6_readLine_41 rfl rfl km_X9_add ki_X9_add kv_X9_add ml_Encores_Reader_71 (by decide) sg_104 rfl (Nat.le_of_ble_eq_true rfl) rfl rfl rfl (Nat.le_of_ble_eq_true rfl) (c_X9_add N (d + 4) 104 a2_7 0 0 0 tg_104 m_30) ⟨Nat.le_refl _, Nat.le_refl _⟩ (Or.inl rfl) rfl (fun r_41 m_41 _ => ?_)
    refine ok_if_ne 53 47 dX6_readLine_44 (by decide) rfl (fun _ => ?_) (fun _ => ?_)
    · refine ok_aload_n 54 0 dX6_readLine_53 rfl rfl rfl ?_
      refine ok_getR 57 dX6_readLine_54 rfl rfl F_Encores_Reader_26 sg_103 rfl (Nat.le_of_ble_eq_true rfl) rfl rfl ?_
      refine ok_callVv (np := 0) (M' := m_X10_next) (As := []) (st := []) 60 dX6_readLine_57 rfl rfl km_X10_next ki_X10_next kv_X10_next ml_Encores_Reader_75 (by decide) sg_99 rfl (Nat.le_of_ble_eq_true rfl) rfl rfl rfl (Nat.le_of_ble_eq_true rfl) (c_X10_next N (d + 3) m_41) ⟨Nat.le_refl _, Nat.le_refl _⟩ (Or.inl rfl) rfl (fun _ m_57 _ => ?_)
      refine ok_iload_n 61 1 dX6_readLine_60 rfl rfl rfl ?_
      refine ok_tsw 140 [88, 95, 103] dX6_readLine_61 (by decide) (by decide) (by decide) rfl ?_ ?_
      · refine And.intro ?_ (And.intro ?_ (And.intro ?_ (trivial)))
        · refine ok_aload_n 89 0 dX6_readLine_88 rfl rfl rfl ?_
          refine ok_callVv (np := 0) (M' := m_X6_readLaw) (As := []) (st := []) 92 dX6_readLine_89 rfl rfl km_X6_readLaw ki_X6_readLaw kv_X6_readLaw ml_Encores_Reader_78 (by decide) sg_103 rfl (Nat.le_of_ble_eq_true rfl) rfl rfl rfl (Nat.le_of_ble_eq_true rfl) (c_X6_readLaw N (d + 0) m_57) ⟨Nat.le_refl _, Nat.le_refl _⟩ (Or.inl rfl) rfl (fun _ m_89 _ => ?_)
          refine ok_goto 177 dX6_readLine_92 (by decide) ?_
          exact ok_vret dX6_readLine_177 rfl
        · refine ok_aload_n 96 0 dX6_readLine_95 rfl rfl rfl ?_
          refine ok_iload_n 97 2 dX6_readLine_96 rfl rfl rfl ?_
          refine ok_callVv (np := 1) (M' := m_X6_readStatute) (As := [.int a2_7]) (st := []) 100 dX6_readLine_97 rfl rfl km_X6_readStatute ki_X6_readStatute kv_X6_readStatute ml_Encores_Reader_81 (by decide) sg_103 rfl (Nat.le_of_ble_eq_true rfl) rfl rfl rfl (Nat.le_of_ble_eq_true rfl) (c_X6_readStatute N (d + 1) a2_7 m_57) ⟨Nat.le_refl _, Nat.le_refl _⟩ (Or.inl rfl) rfl (fun _ m_97 _ => ?_)
          refine ok_goto 177 dX6_readLine_100 (by decide) ?_
          exact ok_vret dX6_readLine_177 rfl
        · refine ok_aload_n 104 0 dX6_readLine_103 rfl rfl rfl ?_
          refine ok_iconst 105 1 dX6_readLine_104 rfl rfl ?_
          refine ok_iconst 106 0 dX6_readLine_105 rfl rfl ?_
          refine ok_sipush 109 9999 dX6_readLine_106 rfl rfl ?_
          refine ok_callVv (np := 3) (M' := m_X6_readNumber) (As := [.int 1, .int 0, .int 9999]) (st := []) 112 dX6_readLine_109 rfl rfl km_X6_readNumber ki_X6_readNumber kv_X6_readNumber ml_Encores_Reader_84 (by decide) sg_103 rfl (Nat.le_of_ble_eq_true rfl) rfl rfl rfl (Nat.le_of_ble_eq_true rfl) (c_X6_readNumber N (d + 2) 1 0 9999 m_57) ⟨Nat.le_refl _, Nat.le_refl _⟩ (Or.inl rfl) rfl (fun _ m_109 _ => ?_)
          refine ok_aload_n 113 0 dX6_readLine_112 rfl rfl rfl ?_
          refine ok_sipush 116 278 dX6_readLine_113 rfl rfl ?_
          refine ok_callVv (np := 1) (M' := m_X6_readWord) (As := [.int 278]) (st := []) 119 dX6_readLine_116 rfl rfl km_X6_readWord ki_X6_readWord kv_X6_readWord ml_Encores_Reader_88 (by decide) sg_103 rfl (Nat.le_of_ble_eq_true rfl) rfl rfl rfl (Nat.le_of_ble_eq_true rfl) (c_X6_readWord N (d + 2) 278 m_109) ⟨Nat.le_refl _, Nat.le_refl _⟩ (Or.inl rfl) rfl (fun _ m_116 _ => ?_)
          refine ok_aload_n 120 0 dX6_readLine_119 rfl rfl rfl ?_
          refine ok_iconst 121 2 dX6_readLine_120 rfl rfl ?_
          refine ok_iconst 122 0 dX6_readLine_121 rfl rfl ?_
          refine ok_aload_n 123 0 dX6_readLine_122 rfl rfl rfl ?_
          refine ok_getI 126 dX6_readLine_123 rfl rfl F_Encores_Reader_42 sg_103 rfl (Nat.le_of_ble_eq_true rfl) rfl ?_
          refine ok_iconst 127 1 dX6_readLine_126 rfl rfl ?_
          refine ok_isub 128 dX6_readLine_127 rfl ?_
          refine ok_callVv (np := 3) (M' := m_X6_readNumber) (As := [.int 2, .int 0, .int ((m_116 103 11) - (1 : Int32))]) (st := []) 131 dX6_readLine_128 rfl rfl km_X6_readNumber ki_X6_readNumber kv_X6_readNumber ml_Encores_Reader_84 (by decide) sg_103 rfl (Nat.le_of_ble_eq_true rfl) rfl rfl rfl (Nat.le_of_ble_eq_true rfl) (c_X6_readNumber N (d + 2) 2 0 ((m_116 103 11) - (1 : Int32)) m_116) ⟨Nat.le_refl _, Nat.le_refl _⟩ (Or.inl rfl) rfl (fun _ m_128 _ => ?_)
          refine ok_aload_n 132 0 dX6_readLine_131 rfl rfl rfl ?_
          refine ok_bipush 134 59 dX6_readLine_132 rfl rfl ?_
          refine ok_callVv (np := 1) (M' := m_X6_readWord) (As := [.int 59]) (st := []) 137 dX6_readLine_134 rfl rfl km_X6_readWord ki_X6_readWord kv_X6_readWord ml_Encores_Reader_88 (by decide) sg_103 rfl (Nat.le_of_ble_eq_true rfl) rfl rfl rfl (Nat.le_of_ble_eq_true rfl) (c_X6_readWord N (d + 2) 59 m_128) ⟨Nat.le_refl _, Nat.le_refl _⟩ (Or.inl rfl) rfl (fun _ m_134 _ => ?_)
          refine ok_goto 177 dX6_readLine_137 (by decide) ?_
          exact ok_vret dX6_readLine_177 rfl
      · refine ok_aload_n 141 0 dX6_readLine_140 rfl rfl rfl ?_
        refine ok_iconst 142 1 dX6_readLine_141 rfl rfl ?_
        refine ok_iconst 143 0 dX6_readLine_142 rfl rfl ?_
        refine ok_aload_n 144 0 dX6_readLine_143 rfl rfl rfl ?_
        refine ok_getI 147 dX6_readLine_144 rfl rfl F_Encores_Reader_39 sg_103 rfl (Nat.le_of_ble_eq_true rfl) rfl ?_
        refine ok_iconst 148 1 dX6_readLine_147 rfl rfl ?_
        refine ok_isub 149 dX6_readLine_148 rfl ?_
        refine ok_callVv (np := 3) (M' := m_X6_readNumber) (As := [.int 1, .int 0, .int ((m_57 103 10) - (1 : Int32))]) (st := []) 152 dX6_readLine_149 rfl rfl km_X6_readNumber ki_X6_readNumber kv_X6_readNumber ml_Encores_Reader_84 (by decide) sg_103 rfl (Nat.le_of_ble_eq_true rfl) rfl rfl rfl (Nat.le_of_ble_eq_true rfl) (c_X6_readNumber N (d + 2) 1 0 ((m_57 103 10) - (1 : Int32)) m_57) ⟨Nat.le_refl _, Nat.le_refl _⟩ (Or.inl rfl) rfl (fun _ m_149 _ => ?_)
        refine ok_aload_n 153 0 dX6_readLine_152 rfl rfl rfl ?_
        refine ok_sipush 156 271 dX6_readLine_153 rfl rfl ?_
        refine ok_callVv (np := 1) (M' := m_X6_readWord) (As := [.int 271]) (st := []) 159 dX6_readLine_156 rfl rfl km_X6_readWord ki_X6_readWord kv_X6_readWord ml_Encores_Reader_88 (by decide) sg_103 rfl (Nat.le_of_ble_eq_true rfl) rfl rfl rfl (Nat.le_of_ble_eq_true rfl) (c_X6_readWord N (d + 2) 271 m_149) ⟨Nat.le_refl _, Nat.le_refl _⟩ (Or.inl rfl) rfl (fun _ m_156 _ => ?_)
        refine ok_aload_n 160 0 dX6_readLine_159 rfl rfl rfl ?_
        refine ok_iconst 161 2 dX6_readLine_160 rfl rfl ?_
        refine ok_iconst 162 0 dX6_readLine_161 rfl rfl ?_
        refine ok_aload_n 163 0 dX6_readLine_162 rfl rfl rfl ?_
        refine ok_getI 166 dX6_readLine_163 rfl rfl F_Encores_Reader_39 sg_103 rfl (Nat.le_of_ble_eq_true rfl) rfl ?_
        refine ok_iconst 167 1 dX6_readLine_166 rfl rfl ?_
        refine ok_isub 168 dX6_readLine_167 rfl ?_
        refine ok_callVv (np := 3) (M' := m_X6_readNumber) (As := [.int 2, .int 0, .int ((m_156 103 10) - (1 : Int32))]) (st := []) 171 dX6_readLine_168 rfl rfl km_X6_readNumber ki_X6_readNumber kv_X6_readNumber ml_Encores_Reader_84 (by decide) sg_103 rfl (Nat.le_of_ble_eq_true rfl) rfl rfl rfl (Nat.le_of_ble_eq_true rfl) (c_X6_readNumber N (d + 2) 2 0 ((m_156 103 10) - (1 : Int32)) m_156) ⟨Nat.le_refl _, Nat.le_refl _⟩ (Or.inl rfl) rfl (fun _ m_168 _ => ?_)
        refine ok_aload_n 172 0 dX6_readLine_171 rfl rfl rfl ?_
        refine ok_bipush 174 59 dX6_readLine_172 rfl rfl ?_
        refine ok_callVv (np := 1) (M' := m_X6_readWord) (As := [.int 59]) (st := []) 177 dX6_readLine_174 rfl rfl km_X6_readWord ki_X6_readWord kv_X6_readWord ml_Encores_Reader_88 (by decide) sg_103 rfl (Nat.le_of_ble_eq_true rfl) rfl rfl rfl (Nat.le_of_ble_eq_true rfl) (c_X6_readWord N (d + 2) 59 m_168) ⟨Nat.le_refl _, Nat.le_refl _⟩ (Or.inl rfl) rfl (fun _ m_174 _ => ?_)
        exact ok_vret dX6_readLine_177 rfl
    · refine ok_aload_n 48 0 dX6_readLine_47 rfl rfl rfl ?_
      refine ok_iconst 49 3 dX6_readLine_48 rfl rfl ?_
      refine ok_callVv (np := 1) (M' := m_X6_blame) (As := [.int 3]) (st := []) 52 dX6_readLine_49 rfl rfl km_X6_blame ki_X6_blame kv_X6_blame ml_Encores_Reader_65 (by decide) sg_103 rfl (Nat.le_of_ble_eq_true rfl) rfl rfl rfl (Nat.le_of_ble_eq_true rfl) (c_X6_blame N (d + 4) 3 m_41) ⟨Nat.le_refl _, Nat.le_refl _⟩ (Or.inl rfl) rfl (fun _ m_49 _ => ?_)
      exact ok_vret dX6_readLine_52 rfl
  · refine ok_aload_n 17 0 dX6_readLine_16 rfl rfl rfl ?_
    refine ok_iconst 18 1 dX6_readLine_17 rfl rfl ?_
    refine ok_callVv (np := 1) (M' := m_X6_blame) (As := [.int 1]) (st := []) 21 dX6_readLine_18 rfl rfl km_X6_blame ki_X6_blame kv_X6_blame ml_Encores_Reader_65 (by decide) sg_103 rfl (Nat.le_of_ble_eq_true rfl) rfl rfl rfl (Nat.le_of_ble_eq_true rfl) (c_X6_blame N (d + 4) 1 m_10) ⟨Nat.le_refl _, Nat.le_refl _⟩ (Or.inl rfl) rfl (fun _ m_18 _ => ?_)
    exact ok_vret dX6_readLine_21 rfl

theorem c_X6_readLine (N d : Nat) (a1 : Int32)  (m : Mem) : CM SX (d + 5) m_X6_readLine SG SG [.ref 103, .int a1] m (f_X6_readLine N a1 m) :=
  CM.ofOk km_X6_readLine ⟨Nat.le_refl _, Nat.le_refl _⟩ (by simp [Value.category]) (Nat.le_of_ble_eq_true rfl) (ok_X6_readLine N d a1 m)

def f_X6_read_L56 (N : Nat) (a1 : Int32) (a2 : Int32) (a3 : Int32)   (X : Int32 → Mem → Ans) (s4_56 : Int32) (m : Mem) : Ans :=
if (400 : Int32) < s4_56 then (some (0, m))
else (if (m 99 3) = 0 then (some (0, m))
else (if (m 103 3) = 0 then (bd (f_X6_readLine N a1 m) fun _ m_83 =>
X (s4_56 + 1) m_83)
else (some (0, m))))

def f_X6_read (N : Nat) (a1 : Int32) (a2 : Int32) (a3 : Int32) (m : Mem) : Ans :=
bnd (mset m 103 3 0) fun m_2 =>
bnd (mset m_2 103 4 (-1)) fun m_7 =>
bnd (mset m_7 104 3 0) fun m_15 =>
bnd (mset m_15 106 3 0) fun m_23 =>
bnd (mset m_23 103 10 a2) fun m_28 =>
bnd (mset m_28 103 11 a3) fun m_33 =>
bd (f_X11_within N a1 0 3 m_33) fun r_39 m_39 =>
if r_39 = 0 then (some (0, m_39))
else (bd (f_X10_scan N m_39) fun _ m_50 =>
it1 (f_X6_read_L56 N a1 a2 a3 ) N 0 m_50)

set_option maxRecDepth 100000 in
set_option maxHeartbeats 4000000 in
theorem ok_X6_read_L56 (N d : Nat) (a1 : Int32) (a2 : Int32) (a3 : Int32)    : ∀ (n : Nat) (s4_56 : Int32) (m : Mem), Ok SX SG (d + 8) m_X6_read 56 [some (.ref 103), some (.int a1), none, none, some (.int s4_56)] [] SG m (it1 (f_X6_read_L56 N a1 a2 a3) n s4_56 m) :=
  ok_it1 (fun s4_56 => [some (.ref 103), some (.int a1), none, none, some (.int s4_56)]) (fun X hX s4_56 m => by
    try unfold f_X6_read_L56
    refine ok_iload 58 4 dX6_read_56 rfl rfl ?_
    refine ok_sipush 61 400 dX6_read_58 rfl rfl ?_
    refine ok_icmp_gt 92 64 dX6_read_61 (by decide) rfl (fun _ => ?_) (fun _ => ?_)
    · exact ok_vret dX6_read_92 rfl
    · refine ok_aload_n 65 0 dX6_read_64 rfl rfl rfl ?_
      refine ok_getR 68 dX6_read_65 rfl rfl F_Encores_Reader_26 sg_103 rfl (Nat.le_of_ble_eq_true rfl) rfl rfl ?_
      refine ok_getI 71 dX6_read_68 rfl rfl F_Encores_Reader_54 sg_99 rfl (Nat.le_of_ble_eq_true rfl) rfl ?_
      refine ok_if_eq 92 74 dX6_read_71 (by decide) rfl (fun _ => ?_) (fun _ => ?_)
      · exact ok_vret dX6_read_92 rfl
      · refine ok_aload_n 75 0 dX6_read_74 rfl rfl rfl ?_
        refine ok_getI 78 dX6_read_75 rfl rfl F_Encores_Reader_30 sg_103 rfl (Nat.le_of_ble_eq_true rfl) rfl ?_
        refine ok_if_ne 92 81 dX6_read_78 (by decide) rfl (fun _ => ?_) (fun _ => ?_)
        · exact ok_vret dX6_read_92 rfl
        · refine ok_aload_n 82 0 dX6_read_81 rfl rfl rfl ?_
          refine ok_iload_n 83 1 dX6_read_82 rfl rfl rfl ?_
          refine ok_callVv (np := 1) (M' := m_X6_readLine) (As := [.int a1]) (st := []) 86 dX6_read_83 rfl rfl km_X6_readLine ki_X6_readLine kv_X6_readLine ml_Encores_Reader_57 (by decide) sg_103 rfl (Nat.le_of_ble_eq_true rfl) rfl rfl rfl (Nat.le_of_ble_eq_true rfl) (c_X6_readLine N (d + 2) a1 m) ⟨Nat.le_refl _, Nat.le_refl _⟩ (Or.inl rfl) rfl (fun _ m_83 _ => ?_)
          refine ok_iinc 89 4 1 [some (.ref 103), some (.int a1), none, none, some (.int (s4_56 + 1))] dX6_read_86 rfl rfl rfl (by decide) rfl ?_
          refine ok_goto 56 dX6_read_89 (by decide) ?_
          exact ok_less [some (.ref 103), some (.int a1), none, none, some (.int (s4_56 + 1))] (And.intro rfl (And.intro rfl (And.intro rfl (trivial)))) (hX (s4_56 + 1) m_83))

set_option maxRecDepth 100000 in
set_option maxHeartbeats 4000000 in
theorem ok_X6_read (N d : Nat) (a1 : Int32) (a2 : Int32) (a3 : Int32)  (m : Mem) : Ok SX SG (d + 8) m_X6_read 0 [some (.ref 103), some (.int a1), some (.int a2), some (.int a3), none] [] SG m (f_X6_read N a1 a2 a3 m) := by
  unfold f_X6_read
  refine ok_aload_n 1 0 dX6_read_0 rfl rfl rfl ?_
  refine ok_iconst 2 0 dX6_read_1 rfl rfl ?_
  refine ok_putI 5 dX6_read_2 rfl rfl F_Encores_Reader_30 sg_103 rfl (Nat.le_of_ble_eq_true rfl) rfl rfl pZ_6_3 rfl rfl ?_
  refine ok_bndM (fun m_2 => ?_)
  refine ok_aload_n 6 0 dX6_read_5 rfl rfl rfl ?_
  refine ok_iconst 7 (-1) dX6_read_6 rfl rfl ?_
  refine ok_putI 10 dX6_read_7 rfl rfl F_Encores_Reader_34 sg_103 rfl (Nat.le_of_ble_eq_true rfl) rfl rfl pZ_6_4 rfl rfl ?_
  refine ok_bndM (fun m_7 => ?_)
  refine ok_aload_n 11 0 dX6_read_10 rfl rfl rfl ?_
  refine ok_getR 14 dX6_read_11 rfl rfl F_Encores_Reader_14 sg_103 rfl (Nat.le_of_ble_eq_true rfl) rfl rfl ?_
  refine ok_iconst 15 0 dX6_read_14 rfl rfl ?_
  refine ok_putI 18 dX6_read_15 rfl rfl F_Encores_Reader_37 sg_104 rfl (Nat.le_of_ble_eq_true rfl) rfl rfl pZ_9_3 rfl rfl ?_
  refine ok_bndM (fun m_15 => ?_)
  refine ok_aload_n 19 0 dX6_read_18 rfl rfl rfl ?_
  refine ok_getR 22 dX6_read_19 rfl rfl F_Encores_Reader_20 sg_103 rfl (Nat.le_of_ble_eq_true rfl) rfl rfl ?_
  refine ok_iconst 23 0 dX6_read_22 rfl rfl ?_
  refine ok_putI 26 dX6_read_23 rfl rfl F_Encores_Reader_37 sg_106 rfl (Nat.le_of_ble_eq_true rfl) rfl rfl pZ_9_3 rfl rfl ?_
  refine ok_bndM (fun m_23 => ?_)
  refine ok_aload_n 27 0 dX6_read_26 rfl rfl rfl ?_
  refine ok_iload_n 28 2 dX6_read_27 rfl rfl rfl ?_
  refine ok_putI 31 dX6_read_28 rfl rfl F_Encores_Reader_39 sg_103 rfl (Nat.le_of_ble_eq_true rfl) rfl rfl pZ_6_10 rfl rfl ?_
  refine ok_bndM (fun m_28 => ?_)
  refine ok_aload_n 32 0 dX6_read_31 rfl rfl rfl ?_
  refine ok_iload_n 33 3 dX6_read_32 rfl rfl rfl ?_
  refine ok_putI 36 dX6_read_33 rfl rfl F_Encores_Reader_42 sg_103 rfl (Nat.le_of_ble_eq_true rfl) rfl rfl pZ_6_11 rfl rfl ?_
  refine ok_bndM (fun m_33 => ?_)
  refine ok_iload_n 37 1 dX6_read_36 rfl rfl rfl ?_
  refine ok_iconst 38 0 dX6_read_37 rfl rfl ?_
  refine ok_iconst 39 3 dX6_read_38 rfl rfl ?_
  refine ok_callSNi (np := 3) (M' := m_X11_within) (As := [.int a1, .int 0, .int 3]) (st := []) 42 3 dX6_read_39 rfl rfl km_X11_within ks_X11_within rfl (by decide) rfl rfl (Nat.le_of_ble_eq_true rfl) (c_X11_within N (d + 7) a1 0 3 m_33) ⟨Nat.le_refl _, Nat.le_refl _⟩ (Or.inl rfl) rfl (fun r_39 m_39 _ => ?_)
  refine ok_if_ne 46 45 dX6_read_42 (by decide) rfl (fun _ => ?_) (fun _ => ?_)
  · refine ok_aload_n 47 0 dX6_read_46 rfl rfl rfl ?_
    refine ok_getR 50 dX6_read_47 rfl rfl F_Encores_Reader_26 sg_103 rfl (Nat.le_of_ble_eq_true rfl) rfl rfl ?_
    refine ok_callVv (np := 0) (M' := m_X10_scan) (As := []) (st := []) 53 dX6_read_50 rfl rfl km_X10_scan ki_X10_scan kv_X10_scan ml_Encores_Reader_49 (by decide) sg_99 rfl (Nat.le_of_ble_eq_true rfl) rfl rfl rfl (Nat.le_of_ble_eq_true rfl) (c_X10_scan N (d + 0) m_39) ⟨Nat.le_refl _, Nat.le_refl _⟩ (Or.inl rfl) rfl (fun _ m_50 _ => ?_)
    refine ok_iconst 54 0 dX6_read_53 rfl rfl ?_
    refine ok_istore 56 4 [some (.ref 103), some (.int a1), some (.int a2), some (.int a3), some (.int 0)] dX6_read_54 rfl (by decide) rfl ?_
    refine ok_less [some (.ref 103), some (.int a1), none, none, some (.int 0)] (And.intro rfl (And.intro rfl (And.intro rfl (trivial)))) ?_
    exact ok_X6_read_L56 N d a1 a2 a3    N 0 m_50
  · exact ok_vret dX6_read_45 rfl

theorem c_X6_read (N d : Nat) (a1 : Int32) (a2 : Int32) (a3 : Int32)  (m : Mem) : CM SX (d + 8) m_X6_read SG SG [.ref 103, .int a1, .int a2, .int a3] m (f_X6_read N a1 a2 a3 m) :=
  CM.ofOk km_X6_read ⟨Nat.le_refl _, Nat.le_refl _⟩ (by simp [Value.category]) (Nat.le_of_ble_eq_true rfl) (ok_X6_read N d a1 a2 a3 m)

def f_X8_begin_J31 (N : Nat) (a1 : Int32)   (t0_31 : Int32) (t1_31 : Int32) (m : Mem) : Ans :=
bd (f_X1_setHour N t1_31 t0_31 m) fun _ m_31 =>
bd (f_X2_ofDeed N 258 a1 m_31) fun r_42 m_42 =>
bd (f_X1_setHour N 4 a1 m_42) fun _ m_52 =>
bd (f_X1_hour N 0 m_52) fun r_65 m_65 =>
bd (f_X9_at N 5 a1 1 m_65) fun r_77 m_77 =>
bd (f_X1_setHour N 0 (r_65 + r_77) m_77) fun _ m_81 =>
bd (f_X1_hour N 2 m_81) fun r_94 m_94 =>
bd (f_X9_at N 5 a1 2 m_94) fun r_106 m_106 =>
bd (f_X1_setHour N 2 (r_94 - r_106) m_106) fun _ m_110 =>
bd (f_X9_at N 5 a1 4 m_110) fun r_131 m_131 =>
bd (f_X9_put N 5 a1 4 (r_131 + (1 : Int32)) m_131) fun _ m_136 =>
bd (f_X9_at N 5 a1 3 m_136) fun r_159 m_159 =>
bd (f_X9_put N 5 a1 3 (if (r_159 + r_42) < (99 : Int32) then (r_159 + r_42) else (99 : Int32)) m_159) fun _ m_167 =>
some (0, m_167)

def f_X8_begin (N : Nat) (a1 : Int32) (m : Mem) : Ans :=
bd (f_X1_hour N 4 m) fun r_10 m_10 =>
if r_10 = a1 then (bd (f_X1_hour N 5 m_10) fun r_22 m_22 =>
f_X8_begin_J31 N a1 (r_22 + (1 : Int32)) 5 m_22)
else (f_X8_begin_J31 N a1 0 5 m_10)

set_option maxRecDepth 100000 in
set_option maxHeartbeats 4000000 in
theorem ok_X8_begin_J31 (N d : Nat) (a1 : Int32)    (t0_31 : Int32) (t1_31 : Int32) (m : Mem) : Ok SX SG (d + 4) m_X8_begin 31 [some (.ref 113), some (.int a1), none] [.int t0_31, .int t1_31, .ref 2] SG m (f_X8_begin_J31 N a1 t0_31 t1_31 m) := by
  unfold f_X8_begin_J31
  refine ok_callVv (np := 2) (M' := m_X1_setHour) (As := [.int t1_31, .int t0_31]) (st := []) 34 dX8_begin_31 rfl rfl km_X1_setHour ki_X1_setHour kv_X1_setHour ml_Encores_Stage_26 (by decide) sg_2 rfl (Nat.le_of_ble_eq_true rfl) rfl rfl rfl (Nat.le_of_ble_eq_true rfl) (c_X1_setHour N (d + 2) t1_31 t0_31 m) ⟨Nat.le_refl _, Nat.le_refl _⟩ (Or.inl rfl) rfl (fun _ m_31 _ => ?_)
  refine ok_aload_n 35 0 dX8_begin_34 rfl rfl rfl ?_
  refine ok_getR 38 dX8_begin_35 rfl rfl F_Encores_Stage_22 sg_113 rfl (Nat.le_of_ble_eq_true rfl) rfl rfl ?_
  refine ok_sipush 41 258 dX8_begin_38 rfl rfl ?_
  refine ok_iload_n 42 1 dX8_begin_41 rfl rfl rfl ?_
  refine ok_callVi (np := 2) (M' := m_X2_ofDeed) (As := [.int 258, .int a1]) (st := []) 45 dX8_begin_42 rfl rfl km_X2_ofDeed ki_X2_ofDeed kv_X2_ofDeed ml_Encores_Stage_89 (by decide) sg_110 rfl (Nat.le_of_ble_eq_true rfl) rfl rfl rfl (Nat.le_of_ble_eq_true rfl) (c_X2_ofDeed N (d + 0) 258 a1 m_31) ⟨Nat.le_refl _, Nat.le_refl _⟩ (Or.inl rfl) rfl (fun r_42 m_42 _ => ?_)
  refine ok_istore_n 46 2 [some (.ref 113), some (.int a1), some (.int r_42)] dX8_begin_45 rfl rfl (by decide) rfl ?_
  refine ok_aload_n 47 0 dX8_begin_46 rfl rfl rfl ?_
  refine ok_getR 50 dX8_begin_47 rfl rfl F_Encores_Stage_18 sg_113 rfl (Nat.le_of_ble_eq_true rfl) rfl rfl ?_
  refine ok_iconst 51 4 dX8_begin_50 rfl rfl ?_
  refine ok_iload_n 52 1 dX8_begin_51 rfl rfl rfl ?_
  refine ok_callVv (np := 2) (M' := m_X1_setHour) (As := [.int 4, .int a1]) (st := []) 55 dX8_begin_52 rfl rfl km_X1_setHour ki_X1_setHour kv_X1_setHour ml_Encores_Stage_26 (by decide) sg_2 rfl (Nat.le_of_ble_eq_true rfl) rfl rfl rfl (Nat.le_of_ble_eq_true rfl) (c_X1_setHour N (d + 2) 4 a1 m_42) ⟨Nat.le_refl _, Nat.le_refl _⟩ (Or.inl rfl) rfl (fun _ m_52 _ => ?_)
  refine ok_aload_n 56 0 dX8_begin_55 rfl rfl rfl ?_
  refine ok_getR 59 dX8_begin_56 rfl rfl F_Encores_Stage_18 sg_113 rfl (Nat.le_of_ble_eq_true rfl) rfl rfl ?_
  refine ok_iconst 60 0 dX8_begin_59 rfl rfl ?_
  refine ok_aload_n 61 0 dX8_begin_60 rfl rfl rfl ?_
  refine ok_getR 64 dX8_begin_61 rfl rfl F_Encores_Stage_18 sg_113 rfl (Nat.le_of_ble_eq_true rfl) rfl rfl ?_
  refine ok_iconst 65 0 dX8_begin_64 rfl rfl ?_
  refine ok_callVi (np := 1) (M' := m_X1_hour) (As := [.int 0]) (st := [.int 0, .ref 2]) 68 dX8_begin_65 rfl rfl km_X1_hour ki_X1_hour kv_X1_hour ml_Encores_Stage_42 (by decide) sg_2 rfl (Nat.le_of_ble_eq_true rfl) rfl rfl rfl (Nat.le_of_ble_eq_true rfl) (c_X1_hour N (d + 2) 0 m_52) ⟨Nat.le_refl _, Nat.le_refl _⟩ (Or.inl rfl) rfl (fun r_65 m_65 _ => ?_)
  refine ok_aload_n 69 0 dX8_begin_68 rfl rfl rfl ?_
  refine ok_getR 72 dX8_begin_69 rfl rfl F_Encores_Stage_18 sg_113 rfl (Nat.le_of_ble_eq_true rfl) rfl rfl ?_
  refine ok_getR 75 dX8_begin_72 rfl rfl F_Encores_Stage_94 sg_2 rfl (Nat.le_of_ble_eq_true rfl) rfl rfl ?_
  refine ok_iload_n 76 1 dX8_begin_75 rfl rfl rfl ?_
  refine ok_iconst 77 1 dX8_begin_76 rfl rfl ?_
  refine ok_callVi (np := 2) (M' := m_X9_at) (As := [.int a1, .int 1]) (st := [.int r_65, .int 0, .ref 2]) 80 dX8_begin_77 rfl rfl km_X9_at ki_X9_at kv_X9_at ml_Encores_Stage_46 (by decide) sg_5 rfl (Nat.le_of_ble_eq_true rfl) rfl rfl rfl (Nat.le_of_ble_eq_true rfl) (c_X9_at N (d + 3) 5 a1 1 tg_5 m_65) ⟨Nat.le_refl _, Nat.le_refl _⟩ (Or.inl rfl) rfl (fun r_77 m_77 _ => ?_)
  refine ok_iadd 81 dX8_begin_80 rfl ?_
  refine ok_callVv (np := 2) (M' := m_X1_setHour) (As := [.int 0, .int (r_65 + r_77)]) (st := []) 84 dX8_begin_81 rfl rfl km_X1_setHour ki_X1_setHour kv_X1_setHour ml_Encores_Stage_26 (by decide) sg_2 rfl (Nat.le_of_ble_eq_true rfl) rfl rfl rfl (Nat.le_of_ble_eq_true rfl) (c_X1_setHour N (d + 2) 0 (r_65 + r_77) m_77) ⟨Nat.le_refl _, Nat.le_refl _⟩ (Or.inl rfl) rfl (fun _ m_81 _ => ?_)
  refine ok_aload_n 85 0 dX8_begin_84 rfl rfl rfl ?_
  refine ok_getR 88 dX8_begin_85 rfl rfl F_Encores_Stage_18 sg_113 rfl (Nat.le_of_ble_eq_true rfl) rfl rfl ?_
  refine ok_iconst 89 2 dX8_begin_88 rfl rfl ?_
  refine ok_aload_n 90 0 dX8_begin_89 rfl rfl rfl ?_
  refine ok_getR 93 dX8_begin_90 rfl rfl F_Encores_Stage_18 sg_113 rfl (Nat.le_of_ble_eq_true rfl) rfl rfl ?_
  refine ok_iconst 94 2 dX8_begin_93 rfl rfl ?_
  refine ok_callVi (np := 1) (M' := m_X1_hour) (As := [.int 2]) (st := [.int 2, .ref 2]) 97 dX8_begin_94 rfl rfl km_X1_hour ki_X1_hour kv_X1_hour ml_Encores_Stage_42 (by decide) sg_2 rfl (Nat.le_of_ble_eq_true rfl) rfl rfl rfl (Nat.le_of_ble_eq_true rfl) (c_X1_hour N (d + 2) 2 m_81) ⟨Nat.le_refl _, Nat.le_refl _⟩ (Or.inl rfl) rfl (fun r_94 m_94 _ => ?_)
  refine ok_aload_n 98 0 dX8_begin_97 rfl rfl rfl ?_
  refine ok_getR 101 dX8_begin_98 rfl rfl F_Encores_Stage_18 sg_113 rfl (Nat.le_of_ble_eq_true rfl) rfl rfl ?_
  refine ok_getR 104 dX8_begin_101 rfl rfl F_Encores_Stage_94 sg_2 rfl (Nat.le_of_ble_eq_true rfl) rfl rfl ?_
  refine ok_iload_n 105 1 dX8_begin_104 rfl rfl rfl ?_
  refine ok_iconst 106 2 dX8_begin_105 rfl rfl ?_
  refine ok_callVi (np := 2) (M' := m_X9_at) (As := [.int a1, .int 2]) (st := [.int r_94, .int 2, .ref 2]) 109 dX8_begin_106 rfl rfl km_X9_at ki_X9_at kv_X9_at ml_Encores_Stage_46 (by decide) sg_5 rfl (Nat.le_of_ble_eq_true rfl) rfl rfl rfl (Nat.le_of_ble_eq_true rfl) (c_X9_at N (d + 3) 5 a1 2 tg_5 m_94) ⟨Nat.le_refl _, Nat.le_refl _⟩ (Or.inl rfl) rfl (fun r_106 m_106 _ => ?_)
  refine ok_isub 110 dX8_begin_109 rfl ?_
  refine ok_callVv (np := 2) (M' := m_X1_setHour) (As := [.int 2, .int (r_94 - r_106)]) (st := []) 113 dX8_begin_110 rfl rfl km_X1_setHour ki_X1_setHour kv_X1_setHour ml_Encores_Stage_26 (by decide) sg_2 rfl (Nat.le_of_ble_eq_true rfl) rfl rfl rfl (Nat.le_of_ble_eq_true rfl) (c_X1_setHour N (d + 2) 2 (r_94 - r_106) m_106) ⟨Nat.le_refl _, Nat.le_refl _⟩ (Or.inl rfl) rfl (fun _ m_110 _ => ?_)
  refine ok_aload_n 114 0 dX8_begin_113 rfl rfl rfl ?_
  refine ok_getR 117 dX8_begin_114 rfl rfl F_Encores_Stage_18 sg_113 rfl (Nat.le_of_ble_eq_true rfl) rfl rfl ?_
  refine ok_getR 120 dX8_begin_117 rfl rfl F_Encores_Stage_94 sg_2 rfl (Nat.le_of_ble_eq_true rfl) rfl rfl ?_
  refine ok_iload_n 121 1 dX8_begin_120 rfl rfl rfl ?_
  refine ok_iconst 122 4 dX8_begin_121 rfl rfl ?_
  refine ok_aload_n 123 0 dX8_begin_122 rfl rfl rfl ?_
  refine ok_getR 126 dX8_begin_123 rfl rfl F_Encores_Stage_18 sg_113 rfl (Nat.le_of_ble_eq_true rfl) rfl rfl ?_
  refine ok_getR 129 dX8_begin_126 rfl rfl F_Encores_Stage_94 sg_2 rfl (Nat.le_of_ble_eq_true rfl) rfl rfl ?_
  refine ok_iload_n 130 1 dX8_begin_129 rfl rfl rfl ?_
  refine ok_iconst 131 4 dX8_begin_130 rfl rfl ?_
  refine ok_callVi (np := 2) (M' := m_X9_at) (As := [.int a1, .int 4]) (st := [.int 4, .int a1, .ref 5]) 134 dX8_begin_131 rfl rfl km_X9_at ki_X9_at kv_X9_at ml_Encores_Stage_46 (by decide) sg_5 rfl (Nat.le_of_ble_eq_true rfl) rfl rfl rfl (Nat.le_of_ble_eq_true rfl) (c_X9_at N (d + 3) 5 a1 4 tg_5 m_110) ⟨Nat.le_refl _, Nat.le_refl _⟩ (Or.inl rfl) rfl (fun r_131 m_131 _ => ?_)
  refine ok_iconst 135 1 dX8_begin_134 rfl rfl ?_
  refine ok_iadd 136 dX8_begin_135 rfl ?_
  refine ok_callVv (np := 3) (M' := m_X9_put) (As := [.int a1, .int 4, .int (r_131 + (1 : Int32))]) (st := []) 139 dX8_begin_136 rfl rfl km_X9_put ki_X9_put kv_X9_put ml_Encores_Stage_97 (by decide) sg_5 rfl (Nat.le_of_ble_eq_true rfl) rfl rfl rfl (Nat.le_of_ble_eq_true rfl) (c_X9_put N (d + 3) 5 a1 4 (r_131 + (1 : Int32)) tg_5 m_131) ⟨Nat.le_refl _, Nat.le_refl _⟩ (Or.inl rfl) rfl (fun _ m_136 _ => ?_)
  refine ok_aload_n 140 0 dX8_begin_139 rfl rfl rfl ?_
  refine ok_getR 143 dX8_begin_140 rfl rfl F_Encores_Stage_18 sg_113 rfl (Nat.le_of_ble_eq_true rfl) rfl rfl ?_
  refine ok_getR 146 dX8_begin_143 rfl rfl F_Encores_Stage_94 sg_2 rfl (Nat.le_of_ble_eq_true rfl) rfl rfl ?_
  refine ok_iload_n 147 1 dX8_begin_146 rfl rfl rfl ?_
  refine ok_iconst 148 3 dX8_begin_147 rfl rfl ?_
  refine ok_bipush 150 99 dX8_begin_148 rfl rfl ?_
  refine ok_aload_n 151 0 dX8_begin_150 rfl rfl rfl ?_
  refine ok_getR 154 dX8_begin_151 rfl rfl F_Encores_Stage_18 sg_113 rfl (Nat.le_of_ble_eq_true rfl) rfl rfl ?_
  refine ok_getR 157 dX8_begin_154 rfl rfl F_Encores_Stage_94 sg_2 rfl (Nat.le_of_ble_eq_true rfl) rfl rfl ?_
  refine ok_iload_n 158 1 dX8_begin_157 rfl rfl rfl ?_
  refine ok_iconst 159 3 dX8_begin_158 rfl rfl ?_
  refine ok_callVi (np := 2) (M' := m_X9_at) (As := [.int a1, .int 3]) (st := [.int 99, .int 3, .int a1, .ref 5]) 162 dX8_begin_159 rfl rfl km_X9_at ki_X9_at kv_X9_at ml_Encores_Stage_46 (by decide) sg_5 rfl (Nat.le_of_ble_eq_true rfl) rfl rfl rfl (Nat.le_of_ble_eq_true rfl) (c_X9_at N (d + 3) 5 a1 3 tg_5 m_136) ⟨Nat.le_refl _, Nat.le_refl _⟩ (Or.inl rfl) rfl (fun r_159 m_159 _ => ?_)
  refine ok_iload_n 163 2 dX8_begin_162 rfl rfl rfl ?_
  refine ok_iadd 164 dX8_begin_163 rfl ?_
  refine ok_min 167 ⟨Nat.le_refl _, Nat.le_refl _⟩ dX8_begin_164 rfl rfl ml_Encores_Stage_101 (Nat.le_of_ble_eq_true rfl) ?_
  refine ok_callVv (np := 3) (M' := m_X9_put) (As := [.int a1, .int 3, .int (if (r_159 + r_42) < (99 : Int32) then (r_159 + r_42) else (99 : Int32))]) (st := []) 170 dX8_begin_167 rfl rfl km_X9_put ki_X9_put kv_X9_put ml_Encores_Stage_97 (by decide) sg_5 rfl (Nat.le_of_ble_eq_true rfl) rfl rfl rfl (Nat.le_of_ble_eq_true rfl) (c_X9_put N (d + 3) 5 a1 3 (if (r_159 + r_42) < (99 : Int32) then (r_159 + r_42) else (99 : Int32)) tg_5 m_159) ⟨Nat.le_refl _, Nat.le_refl _⟩ (Or.inl rfl) rfl (fun _ m_167 _ => ?_)
  exact ok_vret dX8_begin_170 rfl

set_option maxRecDepth 100000 in
set_option maxHeartbeats 4000000 in
theorem ok_X8_begin (N d : Nat) (a1 : Int32)  (m : Mem) : Ok SX SG (d + 4) m_X8_begin 0 [some (.ref 113), some (.int a1), none] [] SG m (f_X8_begin N a1 m) := by
  unfold f_X8_begin
  refine ok_aload_n 1 0 dX8_begin_0 rfl rfl rfl ?_
  refine ok_getR 4 dX8_begin_1 rfl rfl F_Encores_Stage_18 sg_113 rfl (Nat.le_of_ble_eq_true rfl) rfl rfl ?_
  refine ok_iconst 5 5 dX8_begin_4 rfl rfl ?_
  refine ok_aload_n 6 0 dX8_begin_5 rfl rfl rfl ?_
  refine ok_getR 9 dX8_begin_6 rfl rfl F_Encores_Stage_18 sg_113 rfl (Nat.le_of_ble_eq_true rfl) rfl rfl ?_
  refine ok_iconst 10 4 dX8_begin_9 rfl rfl ?_
  refine ok_callVi (np := 1) (M' := m_X1_hour) (As := [.int 4]) (st := [.int 5, .ref 2]) 13 dX8_begin_10 rfl rfl km_X1_hour ki_X1_hour kv_X1_hour ml_Encores_Stage_42 (by decide) sg_2 rfl (Nat.le_of_ble_eq_true rfl) rfl rfl rfl (Nat.le_of_ble_eq_true rfl) (c_X1_hour N (d + 2) 4 m) ⟨Nat.le_refl _, Nat.le_refl _⟩ (Or.inl rfl) rfl (fun r_10 m_10 _ => ?_)
  refine ok_iload_n 14 1 dX8_begin_13 rfl rfl rfl ?_
  refine ok_icmp_ne 30 17 dX8_begin_14 (by decide) rfl (fun _ => ?_) (fun _ => ?_)
  · refine ok_iconst 31 0 dX8_begin_30 rfl rfl ?_
    exact ok_less [some (.ref 113), some (.int a1), none] (And.intro rfl (And.intro rfl (trivial))) (ok_X8_begin_J31 N d a1   0 5 m_10)
  · refine ok_aload_n 18 0 dX8_begin_17 rfl rfl rfl ?_
    refine ok_getR 21 dX8_begin_18 rfl rfl F_Encores_Stage_18 sg_113 rfl (Nat.le_of_ble_eq_true rfl) rfl rfl ?_
    refine ok_iconst 22 5 dX8_begin_21 rfl rfl ?_
    refine ok_callVi (np := 1) (M' := m_X1_hour) (As := [.int 5]) (st := [.int 5, .ref 2]) 25 dX8_begin_22 rfl rfl km_X1_hour ki_X1_hour kv_X1_hour ml_Encores_Stage_42 (by decide) sg_2 rfl (Nat.le_of_ble_eq_true rfl) rfl rfl rfl (Nat.le_of_ble_eq_true rfl) (c_X1_hour N (d + 2) 5 m_10) ⟨Nat.le_refl _, Nat.le_refl _⟩ (Or.inl rfl) rfl (fun r_22 m_22 _ => ?_)
    refine ok_iconst 26 1 dX8_begin_25 rfl rfl ?_
    refine ok_iadd 27 dX8_begin_26 rfl ?_
    refine ok_goto 31 dX8_begin_27 (by decide) ?_
    exact ok_less [some (.ref 113), some (.int a1), none] (And.intro rfl (And.intro rfl (trivial))) (ok_X8_begin_J31 N d a1   (r_22 + (1 : Int32)) 5 m_22)

theorem c_X8_begin (N d : Nat) (a1 : Int32)  (m : Mem) : CM SX (d + 4) m_X8_begin SG SG [.ref 113, .int a1] m (f_X8_begin N a1 m) :=
  CM.ofOk km_X8_begin ⟨Nat.le_refl _, Nat.le_refl _⟩ (by simp [Value.category]) (Nat.le_of_ble_eq_true rfl) (ok_X8_begin N d a1 m)

def f_X8_draw (N : Nat) (a1 : Int32) (m : Mem) : Ans :=
bd (f_X1_hour N 6 m) fun r_6 m_6 =>
bnd ((r_6 * (1664525 : Int32)) + (1013904223 : Int32)) fun a2_15 =>
bd (f_X1_setHour N 6 a2_15 m_6) fun _ m_23 =>
if a1 ≤ 0 then (some (0, m_23))
else (chk (decide (a1 ≠ 0)) <|
some ((irm (ushr a2_15 (8 : Int32)) a1), m_23))

set_option maxRecDepth 100000 in
set_option maxHeartbeats 4000000 in
theorem ok_X8_draw (N d : Nat) (a1 : Int32)  (m : Mem) : Ok SX SG (d + 2) m_X8_draw 0 [some (.ref 113), some (.int a1), none] [] SG m (f_X8_draw N a1 m) := by
  unfold f_X8_draw
  refine ok_aload_n 1 0 dX8_draw_0 rfl rfl rfl ?_
  refine ok_getR 4 dX8_draw_1 rfl rfl F_Encores_Stage_18 sg_113 rfl (Nat.le_of_ble_eq_true rfl) rfl rfl ?_
  refine ok_bipush 6 6 dX8_draw_4 rfl rfl ?_
  refine ok_callVi (np := 1) (M' := m_X1_hour) (As := [.int 6]) (st := []) 9 dX8_draw_6 rfl rfl km_X1_hour ki_X1_hour kv_X1_hour ml_Encores_Stage_42 (by decide) sg_2 rfl (Nat.le_of_ble_eq_true rfl) rfl rfl rfl (Nat.le_of_ble_eq_true rfl) (c_X1_hour N (d + 0) 6 m) ⟨Nat.le_refl _, Nat.le_refl _⟩ (Or.inl rfl) rfl (fun r_6 m_6 _ => ?_)
  refine ok_ldc 11 1664525 dX8_draw_9 rfl rfl cn_Encores_Stage_104 ?_
  refine ok_imul 12 dX8_draw_11 rfl ?_
  refine ok_ldc 14 1013904223 dX8_draw_12 rfl rfl cn_Encores_Stage_105 ?_
  refine ok_iadd 15 dX8_draw_14 rfl ?_
  refine ok_bndI (fun a2_15 => ?_)
  refine ok_istore_n 16 2 [some (.ref 113), some (.int a1), some (.int a2_15)] dX8_draw_15 rfl rfl (by decide) rfl ?_
  refine ok_aload_n 17 0 dX8_draw_16 rfl rfl rfl ?_
  refine ok_getR 20 dX8_draw_17 rfl rfl F_Encores_Stage_18 sg_113 rfl (Nat.le_of_ble_eq_true rfl) rfl rfl ?_
  refine ok_bipush 22 6 dX8_draw_20 rfl rfl ?_
  refine ok_iload_n 23 2 dX8_draw_22 rfl rfl rfl ?_
  refine ok_callVv (np := 2) (M' := m_X1_setHour) (As := [.int 6, .int a2_15]) (st := []) 26 dX8_draw_23 rfl rfl km_X1_setHour ki_X1_setHour kv_X1_setHour ml_Encores_Stage_26 (by decide) sg_2 rfl (Nat.le_of_ble_eq_true rfl) rfl rfl rfl (Nat.le_of_ble_eq_true rfl) (c_X1_setHour N (d + 0) 6 a2_15 m_6) ⟨Nat.le_refl _, Nat.le_refl _⟩ (Or.inl rfl) rfl (fun _ m_23 _ => ?_)
  refine ok_iload_n 27 1 dX8_draw_26 rfl rfl rfl ?_
  refine ok_if_le 39 30 dX8_draw_27 (by decide) rfl (fun _ => ?_) (fun _ => ?_)
  · refine ok_iconst 40 0 dX8_draw_39 rfl rfl ?_
    exact ok_iret dX8_draw_40 rfl
  · refine ok_iload_n 31 2 dX8_draw_30 rfl rfl rfl ?_
    refine ok_bipush 33 8 dX8_draw_31 rfl rfl ?_
    refine ok_iushr 34 dX8_draw_33 rfl ?_
    refine ok_iload_n 35 1 dX8_draw_34 rfl rfl rfl ?_
    refine ok_irem 36 dX8_draw_35 rfl ?_
    refine ok_goto 40 dX8_draw_36 (by decide) ?_
    exact ok_iret dX8_draw_40 rfl

theorem c_X8_draw (N d : Nat) (a1 : Int32)  (m : Mem) : CM SX (d + 2) m_X8_draw SG SG [.ref 113, .int a1] m (f_X8_draw N a1 m) :=
  CM.ofOk km_X8_draw ⟨Nat.le_refl _, Nat.le_refl _⟩ (by simp [Value.category]) (Nat.le_of_ble_eq_true rfl) (ok_X8_draw N d a1 m)

def f_X8_drawEach_L2 (N : Nat)    (X : Int32 → Mem → Ans) (s1_2 : Int32) (m : Mem) : Ans :=
if (m 3 3) ≤ s1_2 then (some (0, m))
else (if (12 : Int32) ≤ s1_2 then (some (0, m))
else (if (m 113 4) = 0 then (bd (f_X9_at N 3 s1_2 3 m) fun r_41 m_41 =>
if r_41 = (1 : Int32) then (bd (f_X8_draw N 1000 m_41) fun r_57 m_57 =>
chk (inb s1_2 12) <|
bnd (mset m_57 114 s1_2.toNatClampNeg r_57) fun m_60 =>
X (s1_2 + 1) m_60)
else (X (s1_2 + 1) m_41))
else (some (0, m))))

def f_X8_drawEach (N : Nat)  (m : Mem) : Ans :=
it1 (f_X8_drawEach_L2 N ) N 0 m

set_option maxRecDepth 100000 in
set_option maxHeartbeats 4000000 in
theorem ok_X8_drawEach_L2 (N d : Nat)     : ∀ (n : Nat) (s1_2 : Int32) (m : Mem), Ok SX SG (d + 3) m_X8_drawEach 2 [some (.ref 113), some (.int s1_2)] [] SG m (it1 (f_X8_drawEach_L2 N) n s1_2 m) :=
  ok_it1 (fun s1_2 => [some (.ref 113), some (.int s1_2)]) (fun X hX s1_2 m => by
    try unfold f_X8_drawEach_L2
    refine ok_iload_n 3 1 dX8_drawEach_2 rfl rfl rfl ?_
    refine ok_aload_n 4 0 dX8_drawEach_3 rfl rfl rfl ?_
    refine ok_getR 7 dX8_drawEach_4 rfl rfl F_Encores_Stage_18 sg_113 rfl (Nat.le_of_ble_eq_true rfl) rfl rfl ?_
    refine ok_getR 10 dX8_drawEach_7 rfl rfl F_Encores_Stage_106 sg_2 rfl (Nat.le_of_ble_eq_true rfl) rfl rfl ?_
    refine ok_getI 13 dX8_drawEach_10 rfl rfl F_Encores_Stage_36 sg_3 rfl (Nat.le_of_ble_eq_true rfl) rfl ?_
    refine ok_icmp_ge 67 16 dX8_drawEach_13 (by decide) rfl (fun _ => ?_) (fun _ => ?_)
    · exact ok_vret dX8_drawEach_67 rfl
    · refine ok_iload_n 17 1 dX8_drawEach_16 rfl rfl rfl ?_
      refine ok_aload_n 18 0 dX8_drawEach_17 rfl rfl rfl ?_
      refine ok_getR 21 dX8_drawEach_18 rfl rfl F_Encores_Stage_9 sg_113 rfl (Nat.le_of_ble_eq_true rfl) rfl rfl ?_
      refine ok_alen 22 dX8_drawEach_21 rfl sg_114 ?_
      rw [show Int32.ofNat 12 = 12 from rfl]
      refine ok_icmp_ge 67 25 dX8_drawEach_22 (by decide) rfl (fun _ => ?_) (fun _ => ?_)
      · exact ok_vret dX8_drawEach_67 rfl
      · refine ok_aload_n 26 0 dX8_drawEach_25 rfl rfl rfl ?_
        refine ok_getI 29 dX8_drawEach_26 rfl rfl F_Encores_Stage_109 sg_113 rfl (Nat.le_of_ble_eq_true rfl) rfl ?_
        refine ok_if_ne 67 32 dX8_drawEach_29 (by decide) rfl (fun _ => ?_) (fun _ => ?_)
        · exact ok_vret dX8_drawEach_67 rfl
        · refine ok_aload_n 33 0 dX8_drawEach_32 rfl rfl rfl ?_
          refine ok_getR 36 dX8_drawEach_33 rfl rfl F_Encores_Stage_18 sg_113 rfl (Nat.le_of_ble_eq_true rfl) rfl rfl ?_
          refine ok_getR 39 dX8_drawEach_36 rfl rfl F_Encores_Stage_106 sg_2 rfl (Nat.le_of_ble_eq_true rfl) rfl rfl ?_
          refine ok_iload_n 40 1 dX8_drawEach_39 rfl rfl rfl ?_
          refine ok_iconst 41 3 dX8_drawEach_40 rfl rfl ?_
          refine ok_callVi (np := 2) (M' := m_X9_at) (As := [.int s1_2, .int 3]) (st := []) 44 dX8_drawEach_41 rfl rfl km_X9_at ki_X9_at kv_X9_at ml_Encores_Stage_46 (by decide) sg_3 rfl (Nat.le_of_ble_eq_true rfl) rfl rfl rfl (Nat.le_of_ble_eq_true rfl) (c_X9_at N (d + 2) 3 s1_2 3 tg_3 m) ⟨Nat.le_refl _, Nat.le_refl _⟩ (Or.inl rfl) rfl (fun r_41 m_41 _ => ?_)
          refine ok_iconst 45 1 dX8_drawEach_44 rfl rfl ?_
          refine ok_icmp_ne 61 48 dX8_drawEach_45 (by decide) rfl (fun _ => ?_) (fun _ => ?_)
          · refine ok_iinc 64 1 1 [some (.ref 113), some (.int (s1_2 + 1))] dX8_drawEach_61 rfl rfl rfl (by decide) rfl ?_
            refine ok_goto 2 dX8_drawEach_64 (by decide) ?_
            exact ok_less [some (.ref 113), some (.int (s1_2 + 1))] (And.intro rfl (And.intro rfl (trivial))) (hX (s1_2 + 1) m_41)
          · refine ok_aload_n 49 0 dX8_drawEach_48 rfl rfl rfl ?_
            refine ok_getR 52 dX8_drawEach_49 rfl rfl F_Encores_Stage_9 sg_113 rfl (Nat.le_of_ble_eq_true rfl) rfl rfl ?_
            refine ok_iload_n 53 1 dX8_drawEach_52 rfl rfl rfl ?_
            refine ok_aload_n 54 0 dX8_drawEach_53 rfl rfl rfl ?_
            refine ok_sipush 57 1000 dX8_drawEach_54 rfl rfl ?_
            refine ok_callVi (np := 1) (M' := m_X8_draw) (As := [.int 1000]) (st := [.int s1_2, .ref 114]) 60 dX8_drawEach_57 rfl rfl km_X8_draw ki_X8_draw kv_X8_draw ml_Encores_Stage_113 (by decide) sg_113 rfl (Nat.le_of_ble_eq_true rfl) rfl rfl rfl (Nat.le_of_ble_eq_true rfl) (c_X8_draw N (d + 0) 1000 m_41) ⟨Nat.le_refl _, Nat.le_refl _⟩ (Or.inl rfl) rfl (fun r_57 m_57 _ => ?_)
            refine ok_iast 61 dX8_drawEach_60 rfl sg_114 ?_
            refine ok_bndM (fun m_60 => ?_)
            refine ok_iinc 64 1 1 [some (.ref 113), some (.int (s1_2 + 1))] dX8_drawEach_61 rfl rfl rfl (by decide) rfl ?_
            refine ok_goto 2 dX8_drawEach_64 (by decide) ?_
            exact ok_less [some (.ref 113), some (.int (s1_2 + 1))] (And.intro rfl (And.intro rfl (trivial))) (hX (s1_2 + 1) m_60))

set_option maxRecDepth 100000 in
set_option maxHeartbeats 4000000 in
theorem ok_X8_drawEach (N d : Nat)   (m : Mem) : Ok SX SG (d + 3) m_X8_drawEach 0 [some (.ref 113), none] [] SG m (f_X8_drawEach N m) := by
  unfold f_X8_drawEach
  refine ok_iconst 1 0 dX8_drawEach_0 rfl rfl ?_
  refine ok_istore_n 2 1 [some (.ref 113), some (.int 0)] dX8_drawEach_1 rfl rfl (by decide) rfl ?_
  refine ok_less [some (.ref 113), some (.int 0)] (And.intro rfl (And.intro rfl (trivial))) ?_
  exact ok_X8_drawEach_L2 N d     N 0 m

theorem c_X8_drawEach (N d : Nat)   (m : Mem) : CM SX (d + 3) m_X8_drawEach SG SG [.ref 113] m (f_X8_drawEach N m) :=
  CM.ofOk km_X8_drawEach ⟨Nat.le_refl _, Nat.le_refl _⟩ (by simp [Value.category]) (Nat.le_of_ble_eq_true rfl) (ok_X8_drawEach N d  m)

def f_X11_isIn (N : Nat) (a0 : Int32) (a1 : Int32) (m : Mem) : Ans :=
if a0 < 0 then (some (0, m))
else (if (31 : Int32) ≤ a0 then (some (0, m))
else (if ((a1 >>> (a0 &&& 31)) &&& (1 : Int32)) = (1 : Int32) then (some (1, m))
else (some (0, m))))

set_option maxRecDepth 100000 in
set_option maxHeartbeats 4000000 in
theorem ok_X11_isIn (N d : Nat) (a0 : Int32) (a1 : Int32)  (m : Mem) : Ok SX SG (d + 0) m_X11_isIn 0 [some (.int a0), some (.int a1)] [] SG m (f_X11_isIn N a0 a1 m) := by
  unfold f_X11_isIn
  refine ok_iload_n 1 0 dX11_isIn_0 rfl rfl rfl ?_
  refine ok_if_lt 23 4 dX11_isIn_1 (by decide) rfl (fun _ => ?_) (fun _ => ?_)
  · refine ok_iconst 24 0 dX11_isIn_23 rfl rfl ?_
    exact ok_zretc dX11_isIn_24 rfl rfl
  · refine ok_iload_n 5 0 dX11_isIn_4 rfl rfl rfl ?_
    refine ok_bipush 7 31 dX11_isIn_5 rfl rfl ?_
    refine ok_icmp_ge 23 10 dX11_isIn_7 (by decide) rfl (fun _ => ?_) (fun _ => ?_)
    · refine ok_iconst 24 0 dX11_isIn_23 rfl rfl ?_
      exact ok_zretc dX11_isIn_24 rfl rfl
    · refine ok_iload_n 11 1 dX11_isIn_10 rfl rfl rfl ?_
      refine ok_iload_n 12 0 dX11_isIn_11 rfl rfl rfl ?_
      refine ok_ishr 13 dX11_isIn_12 rfl ?_
      refine ok_iconst 14 1 dX11_isIn_13 rfl rfl ?_
      refine ok_iand 15 dX11_isIn_14 rfl ?_
      refine ok_iconst 16 1 dX11_isIn_15 rfl rfl ?_
      refine ok_icmp_ne 23 19 dX11_isIn_16 (by decide) rfl (fun _ => ?_) (fun _ => ?_)
      · refine ok_iconst 24 0 dX11_isIn_23 rfl rfl ?_
        exact ok_zretc dX11_isIn_24 rfl rfl
      · refine ok_iconst 20 1 dX11_isIn_19 rfl rfl ?_
        refine ok_goto 24 dX11_isIn_20 (by decide) ?_
        exact ok_zretc dX11_isIn_24 rfl rfl

theorem c_X11_isIn (N d : Nat) (a0 : Int32) (a1 : Int32)  (m : Mem) : CM SX (d + 0) m_X11_isIn SG SG [.int a0, .int a1] m (f_X11_isIn N a0 a1 m) :=
  CM.ofOk km_X11_isIn ⟨Nat.le_refl _, Nat.le_refl _⟩ (by simp [Value.category]) (Nat.le_of_ble_eq_true rfl) (ok_X11_isIn N d a0 a1 m)

def f_J6_bitCount_0f7a4 (N : Nat) (a0 : Int32) (m : Mem) : Ans :=
bnd (a0 - ((ushr a0 (1 : Int32)) &&& (1431655765 : Int32))) fun a0_9 =>
bnd ((a0_9 &&& (858993459 : Int32)) + ((ushr a0_9 (2 : Int32)) &&& (858993459 : Int32))) fun a0_23 =>
bnd ((a0_23 + (ushr a0_23 (4 : Int32))) &&& (252645135 : Int32)) fun a0_33 =>
bnd (a0_33 + (ushr a0_33 (8 : Int32))) fun a0_40 =>
bnd (a0_40 + (ushr a0_40 (16 : Int32))) fun a0_47 =>
some ((a0_47 &&& (63 : Int32)), m)

set_option maxRecDepth 100000 in
set_option maxHeartbeats 4000000 in
theorem ok_J6_bitCount_0f7a4 (N d : Nat) (a0 : Int32)  (m : Mem) : Ok SX SG (d + 0) m_J6_bitCount_0f7a4 0 [some (.int a0)] [] SG m (f_J6_bitCount_0f7a4 N a0 m) := by
  unfold f_J6_bitCount_0f7a4
  refine ok_iload_n 1 0 dJ6_bitCount_0f7a4_0 rfl rfl rfl ?_
  refine ok_iload_n 2 0 dJ6_bitCount_0f7a4_1 rfl rfl rfl ?_
  refine ok_iconst 3 1 dJ6_bitCount_0f7a4_2 rfl rfl ?_
  refine ok_iushr 4 dJ6_bitCount_0f7a4_3 rfl ?_
  refine ok_ldcw 7 1431655765 dJ6_bitCount_0f7a4_4 rfl rfl cn_java_lang_Integer_265 ?_
  refine ok_iand 8 dJ6_bitCount_0f7a4_7 rfl ?_
  refine ok_isub 9 dJ6_bitCount_0f7a4_8 rfl ?_
  refine ok_bndI (fun a0_9 => ?_)
  refine ok_istore_n 10 0 [some (.int a0_9)] dJ6_bitCount_0f7a4_9 rfl rfl (by decide) rfl ?_
  refine ok_iload_n 11 0 dJ6_bitCount_0f7a4_10 rfl rfl rfl ?_
  refine ok_ldcw 14 858993459 dJ6_bitCount_0f7a4_11 rfl rfl cn_java_lang_Integer_266 ?_
  refine ok_iand 15 dJ6_bitCount_0f7a4_14 rfl ?_
  refine ok_iload_n 16 0 dJ6_bitCount_0f7a4_15 rfl rfl rfl ?_
  refine ok_iconst 17 2 dJ6_bitCount_0f7a4_16 rfl rfl ?_
  refine ok_iushr 18 dJ6_bitCount_0f7a4_17 rfl ?_
  refine ok_ldcw 21 858993459 dJ6_bitCount_0f7a4_18 rfl rfl cn_java_lang_Integer_266 ?_
  refine ok_iand 22 dJ6_bitCount_0f7a4_21 rfl ?_
  refine ok_iadd 23 dJ6_bitCount_0f7a4_22 rfl ?_
  refine ok_bndI (fun a0_23 => ?_)
  refine ok_istore_n 24 0 [some (.int a0_23)] dJ6_bitCount_0f7a4_23 rfl rfl (by decide) rfl ?_
  refine ok_iload_n 25 0 dJ6_bitCount_0f7a4_24 rfl rfl rfl ?_
  refine ok_iload_n 26 0 dJ6_bitCount_0f7a4_25 rfl rfl rfl ?_
  refine ok_iconst 27 4 dJ6_bitCount_0f7a4_26 rfl rfl ?_
  refine ok_iushr 28 dJ6_bitCount_0f7a4_27 rfl ?_
  refine ok_iadd 29 dJ6_bitCount_0f7a4_28 rfl ?_
  refine ok_ldcw 32 252645135 dJ6_bitCount_0f7a4_29 rfl rfl cn_java_lang_Integer_267 ?_
  refine ok_iand 33 dJ6_bitCount_0f7a4_32 rfl ?_
  refine ok_bndI (fun a0_33 => ?_)
  refine ok_istore_n 34 0 [some (.int a0_33)] dJ6_bitCount_0f7a4_33 rfl rfl (by decide) rfl ?_
  refine ok_iload_n 35 0 dJ6_bitCount_0f7a4_34 rfl rfl rfl ?_
  refine ok_iload_n 36 0 dJ6_bitCount_0f7a4_35 rfl rfl rfl ?_
  refine ok_bipush 38 8 dJ6_bitCount_0f7a4_36 rfl rfl ?_
  refine ok_iushr 39 dJ6_bitCount_0f7a4_38 rfl ?_
  refine ok_iadd 40 dJ6_bitCount_0f7a4_39 rfl ?_
  refine ok_bndI (fun a0_40 => ?_)
  refine ok_istore_n 41 0 [some (.int a0_40)] dJ6_bitCount_0f7a4_40 rfl rfl (by decide) rfl ?_
  refine ok_iload_n 42 0 dJ6_bitCount_0f7a4_41 rfl rfl rfl ?_
  refine ok_iload_n 43 0 dJ6_bitCount_0f7a4_42 rfl rfl rfl ?_
  refine ok_bipush 45 16 dJ6_bitCount_0f7a4_43 rfl rfl ?_
  refine ok_iushr 46 dJ6_bitCount_0f7a4_45 rfl ?_
  refine ok_iadd 47 dJ6_bitCount_0f7a4_46 rfl ?_
  refine ok_bndI (fun a0_47 => ?_)
  refine ok_istore_n 48 0 [some (.int a0_47)] dJ6_bitCount_0f7a4_47 rfl rfl (by decide) rfl ?_
  refine ok_iload_n 49 0 dJ6_bitCount_0f7a4_48 rfl rfl rfl ?_
  refine ok_bipush 51 63 dJ6_bitCount_0f7a4_49 rfl rfl ?_
  refine ok_iand 52 dJ6_bitCount_0f7a4_51 rfl ?_
  exact ok_iret dJ6_bitCount_0f7a4_52 rfl

theorem c_J6_bitCount_0f7a4 (N d : Nat) (a0 : Int32)  (m : Mem) : CM SX (d + 0) m_J6_bitCount_0f7a4 SG SG [.int a0] m (f_J6_bitCount_0f7a4 N a0 m) :=
  CM.ofOk km_J6_bitCount_0f7a4 ⟨Nat.le_refl _, Nat.le_refl _⟩ (by simp [Value.category]) (Nat.le_of_ble_eq_true rfl) (ok_J6_bitCount_0f7a4 N d a0 m)

def f_X8_applaud_L12 (N : Nat) (a1 : Int32)  (K34 : Mem → Ans) (X : Int32 → Mem → Ans) (s2_12 : Int32) (m : Mem) : Ans :=
if (12 : Int32) ≤ s2_12 then (K34 m)
else (chk (inb s2_12 12) <|
bnd (mset m 115 s2_12.toNatClampNeg (-1)) fun m_27 =>
X (s2_12 + 1) m_27)

def f_X8_applaud_J174 (N : Nat) (a1 : Int32) (a2_53 : Int32) (s4_59 : Int32) (a5_74 : Int32) (K233 : Mem → Ans) (X : Int32 → Mem → Ans) (s6_174 : Int32) (s7_174 : Int32) (t0_174 : Int32) (m : Mem) : Ans :=
chk (inb s6_174 12) <|
if (m 115 s6_174.toNatClampNeg) = s7_174 then (chk (inb s6_174 12) <|
bnd (mset m 115 s6_174.toNatClampNeg s7_174) fun m_226 =>
X (s6_174 + 1) m_226)
else (bd (f_X2_clap N s6_174 a1 s7_174 m) fun r_199 m_199 =>
if r_199 ≤ t0_174 then (chk (inb s6_174 12) <|
bnd (mset m_199 115 s6_174.toNatClampNeg s7_174) fun m_226 =>
X (s6_174 + 1) m_226)
else (bnd (mset m_199 113 5 ((m_199 113 5) ||| ((1 : Int32) <<< (s6_174 &&& 31)))) fun m_215 =>
chk (inb s6_174 12) <|
bnd (mset m_215 115 s6_174.toNatClampNeg s7_174) fun m_226 =>
X (s6_174 + 1) m_226))

def f_X8_applaud_L79 (N : Nat) (a1 : Int32) (a2_53 : Int32) (s4_59 : Int32) (a5_74 : Int32) (K233 : Mem → Ans) (X : Int32 → Mem → Ans) (s6_79 : Int32) (m : Mem) : Ans :=
if (m 3 3) ≤ s6_79 then (K233 m)
else (if (12 : Int32) ≤ s6_79 then (K233 m)
else (if (12 : Int32) ≤ s6_79 then (K233 m)
else (bd (f_X11_isIn N s6_79 (a2_53 &&& ((m 113 5) ^^^ (-1 : Int32))) m) fun r_124 m_124 =>
if r_124 = 0 then (X (s6_79 + 1) m_124)
else (bd (f_X9_at N 3 s6_79 6 m_124) fun r_141 m_141 =>
bd (f_J6_bitCount_0f7a4 N (r_141 &&& (m_141 113 5)) m_141) fun r_149 m_149 =>
if (m_149 113 4) = 0 then (chk (inb s6_79 12) <|
f_X8_applaud_J174 N a1 a2_53 s4_59 a5_74 K233 X s6_79 r_149 (m_149 114 s6_79.toNatClampNeg) m_149)
else (f_X8_applaud_J174 N a1 a2_53 s4_59 a5_74 K233 X s6_79 r_149 500 m_149)))))

def f_X8_applaud_J247 (N : Nat) (a1 : Int32) (a2_53 : Int32)  (X : Int32 → Int32 → Mem → Ans) (s4_247 : Int32) (t0_247 : Int32) (m : Mem) : Ans :=
if t0_247 = 0 then (bnd (mset m 113 6 ((m 113 6) + (0 : Int32))) fun m_263 =>
X t0_247 (s4_247 + 1) m_263)
else (bnd (mset m 113 6 ((m 113 6) + (1 : Int32))) fun m_263 =>
X t0_247 (s4_247 + 1) m_263)

def f_X8_applaud_J233 (N : Nat) (a1 : Int32) (a2_53 : Int32)  (X : Int32 → Int32 → Mem → Ans) (s4_233 : Int32) (s5_233 : Int32) (m : Mem) : Ans :=
if (m 113 5) = s5_233 then (f_X8_applaud_J247 N a1 a2_53  X s4_233 0 m)
else (f_X8_applaud_J247 N a1 a2_53  X s4_233 1 m)

def f_X8_applaud_L59 (N : Nat) (a1 : Int32) (a2_53 : Int32)  (X : Int32 → Int32 → Mem → Ans) (s3_59 : Int32) (s4_59 : Int32) (m : Mem) : Ans :=
if (12 : Int32) < s4_59 then (some (0, m))
else (if s3_59 = 0 then (some (0, m))
else (bnd (m 113 5) fun a5_74 =>
it1 (f_X8_applaud_L79 N a1 a2_53 s4_59 a5_74 (fun mk233 => f_X8_applaud_J233 N a1 a2_53  X s4_59 a5_74 mk233)) N 0 m))

def f_X8_applaud (N : Nat) (a1 : Int32) (m : Mem) : Ans :=
bnd (mset m 113 5 0) fun m_2 =>
bnd (mset m_2 113 6 0) fun m_7 =>
it1 (f_X8_applaud_L12 N a1 (fun mk34 => bd (f_X1_those N 3 mk34) fun r_39 m_39 =>
bd (f_X1_those N 4 m_39) fun r_47 m_47 =>
bnd (r_39 &&& (r_47 ^^^ (-1 : Int32))) fun a2_53 =>
it2 (f_X8_applaud_L59 N a1 a2_53 ) N 1 0 m_47)) N 0 m_7

set_option maxRecDepth 100000 in
set_option maxHeartbeats 4000000 in
theorem ok_X8_applaud_L12 (N d : Nat) (a1 : Int32)   (K34 : Mem → Ans) (hK34 : ∀  (m : Mem), Ok SX SG (d + 4) m_X8_applaud 34 [some (.ref 113), some (.int a1), none, none, none, none, none, none, none] [] SG m (K34 m)) : ∀ (n : Nat) (s2_12 : Int32) (m : Mem), Ok SX SG (d + 4) m_X8_applaud 12 [some (.ref 113), some (.int a1), some (.int s2_12), none, none, none, none, none, none] [] SG m (it1 (f_X8_applaud_L12 N a1 K34) n s2_12 m) :=
  ok_it1 (fun s2_12 => [some (.ref 113), some (.int a1), some (.int s2_12), none, none, none, none, none, none]) (fun X hX s2_12 m => by
    try unfold f_X8_applaud_L12
    refine ok_iload_n 13 2 dX8_applaud_12 rfl rfl rfl ?_
    refine ok_aload_n 14 0 dX8_applaud_13 rfl rfl rfl ?_
    refine ok_getR 17 dX8_applaud_14 rfl rfl F_Encores_Stage_15 sg_113 rfl (Nat.le_of_ble_eq_true rfl) rfl rfl ?_
    refine ok_alen 18 dX8_applaud_17 rfl sg_115 ?_
    rw [show Int32.ofNat 12 = 12 from rfl]
    refine ok_icmp_ge 34 21 dX8_applaud_18 (by decide) rfl (fun _ => ?_) (fun _ => ?_)
    · exact ok_less [some (.ref 113), some (.int a1), none, none, none, none, none, none, none] (And.intro rfl (And.intro rfl (trivial))) (hK34 m)
    · refine ok_aload_n 22 0 dX8_applaud_21 rfl rfl rfl ?_
      refine ok_getR 25 dX8_applaud_22 rfl rfl F_Encores_Stage_15 sg_113 rfl (Nat.le_of_ble_eq_true rfl) rfl rfl ?_
      refine ok_iload_n 26 2 dX8_applaud_25 rfl rfl rfl ?_
      refine ok_iconst 27 (-1) dX8_applaud_26 rfl rfl ?_
      refine ok_iast 28 dX8_applaud_27 rfl sg_115 ?_
      refine ok_bndM (fun m_27 => ?_)
      refine ok_iinc 31 2 1 [some (.ref 113), some (.int a1), some (.int (s2_12 + 1)), none, none, none, none, none, none] dX8_applaud_28 rfl rfl rfl (by decide) rfl ?_
      refine ok_goto 12 dX8_applaud_31 (by decide) ?_
      exact ok_less [some (.ref 113), some (.int a1), some (.int (s2_12 + 1)), none, none, none, none, none, none] (And.intro rfl (And.intro rfl (And.intro rfl (trivial)))) (hX (s2_12 + 1) m_27))

set_option maxRecDepth 100000 in
set_option maxHeartbeats 4000000 in
theorem ok_X8_applaud_J174 (N d : Nat) (a1 : Int32)  (a2_53 : Int32) (s4_59 : Int32) (a5_74 : Int32) (K233 : Mem → Ans) (X : Int32 → Mem → Ans) (hK233 : ∀  (m : Mem), Ok SX SG (d + 4) m_X8_applaud 233 [some (.ref 113), some (.int a1), some (.int a2_53), none, some (.int s4_59), some (.int a5_74), none, none, none] [] SG m (K233 m)) (hX : ∀ (k6 : Int32) (m : Mem), Ok SX SG (d + 4) m_X8_applaud 79 [some (.ref 113), some (.int a1), some (.int a2_53), none, some (.int s4_59), some (.int a5_74), some (.int k6), none, none] [] SG m (X k6 m)) (s6_174 : Int32) (s7_174 : Int32) (t0_174 : Int32) (m : Mem) : Ok SX SG (d + 4) m_X8_applaud 174 [some (.ref 113), some (.int a1), some (.int a2_53), none, some (.int s4_59), some (.int a5_74), some (.int s6_174), some (.int s7_174), none] [.int t0_174] SG m (f_X8_applaud_J174 N a1 a2_53 s4_59 a5_74 K233 X s6_174 s7_174 t0_174 m) := by
  unfold f_X8_applaud_J174
  refine ok_istore 176 8 [some (.ref 113), some (.int a1), some (.int a2_53), none, some (.int s4_59), some (.int a5_74), some (.int s6_174), some (.int s7_174), some (.int t0_174)] dX8_applaud_174 rfl (by decide) rfl ?_
  refine ok_aload_n 177 0 dX8_applaud_176 rfl rfl rfl ?_
  refine ok_getR 180 dX8_applaud_177 rfl rfl F_Encores_Stage_15 sg_113 rfl (Nat.le_of_ble_eq_true rfl) rfl rfl ?_
  refine ok_iload 182 6 dX8_applaud_180 rfl rfl ?_
  refine ok_iald 183 dX8_applaud_182 rfl sg_115 ?_
  refine ok_iload 185 7 dX8_applaud_183 rfl rfl ?_
  refine ok_icmp_eq 218 188 dX8_applaud_185 (by decide) rfl (fun _ => ?_) (fun _ => ?_)
  · refine ok_aload_n 219 0 dX8_applaud_218 rfl rfl rfl ?_
    refine ok_getR 222 dX8_applaud_219 rfl rfl F_Encores_Stage_15 sg_113 rfl (Nat.le_of_ble_eq_true rfl) rfl rfl ?_
    refine ok_iload 224 6 dX8_applaud_222 rfl rfl ?_
    refine ok_iload 226 7 dX8_applaud_224 rfl rfl ?_
    refine ok_iast 227 dX8_applaud_226 rfl sg_115 ?_
    refine ok_bndM (fun m_226 => ?_)
    refine ok_iinc 230 6 1 [some (.ref 113), some (.int a1), some (.int a2_53), none, some (.int s4_59), some (.int a5_74), some (.int (s6_174 + 1)), some (.int s7_174), some (.int t0_174)] dX8_applaud_227 rfl rfl rfl (by decide) rfl ?_
    refine ok_goto 79 dX8_applaud_230 (by decide) ?_
    exact ok_less [some (.ref 113), some (.int a1), some (.int a2_53), none, some (.int s4_59), some (.int a5_74), some (.int (s6_174 + 1)), none, none] (And.intro rfl (And.intro rfl (And.intro rfl (And.intro rfl (And.intro rfl (And.intro rfl (trivial))))))) (hX (s6_174 + 1) m_226)
  · refine ok_iload 190 8 dX8_applaud_188 rfl rfl ?_
    refine ok_aload_n 191 0 dX8_applaud_190 rfl rfl rfl ?_
    refine ok_getR 194 dX8_applaud_191 rfl rfl F_Encores_Stage_22 sg_113 rfl (Nat.le_of_ble_eq_true rfl) rfl rfl ?_
    refine ok_iload 196 6 dX8_applaud_194 rfl rfl ?_
    refine ok_iload_n 197 1 dX8_applaud_196 rfl rfl rfl ?_
    refine ok_iload 199 7 dX8_applaud_197 rfl rfl ?_
    refine ok_callVi (np := 3) (M' := m_X2_clap) (As := [.int s6_174, .int a1, .int s7_174]) (st := [.int t0_174]) 202 dX8_applaud_199 rfl rfl km_X2_clap ki_X2_clap kv_X2_clap ml_Encores_Stage_134 (by decide) sg_110 rfl (Nat.le_of_ble_eq_true rfl) rfl rfl rfl (Nat.le_of_ble_eq_true rfl) (c_X2_clap N (d + 0) s6_174 a1 s7_174 m) ⟨Nat.le_refl _, Nat.le_refl _⟩ (Or.inl rfl) rfl (fun r_199 m_199 _ => ?_)
    refine ok_icmp_ge 218 205 dX8_applaud_202 (by decide) rfl (fun _ => ?_) (fun _ => ?_)
    · refine ok_aload_n 219 0 dX8_applaud_218 rfl rfl rfl ?_
      refine ok_getR 222 dX8_applaud_219 rfl rfl F_Encores_Stage_15 sg_113 rfl (Nat.le_of_ble_eq_true rfl) rfl rfl ?_
      refine ok_iload 224 6 dX8_applaud_222 rfl rfl ?_
      refine ok_iload 226 7 dX8_applaud_224 rfl rfl ?_
      refine ok_iast 227 dX8_applaud_226 rfl sg_115 ?_
      refine ok_bndM (fun m_226 => ?_)
      refine ok_iinc 230 6 1 [some (.ref 113), some (.int a1), some (.int a2_53), none, some (.int s4_59), some (.int a5_74), some (.int (s6_174 + 1)), some (.int s7_174), some (.int t0_174)] dX8_applaud_227 rfl rfl rfl (by decide) rfl ?_
      refine ok_goto 79 dX8_applaud_230 (by decide) ?_
      exact ok_less [some (.ref 113), some (.int a1), some (.int a2_53), none, some (.int s4_59), some (.int a5_74), some (.int (s6_174 + 1)), none, none] (And.intro rfl (And.intro rfl (And.intro rfl (And.intro rfl (And.intro rfl (And.intro rfl (trivial))))))) (hX (s6_174 + 1) m_226)
    · refine ok_aload_n 206 0 dX8_applaud_205 rfl rfl rfl ?_
      refine ok_dup 207 dX8_applaud_206 rfl rfl ?_
      refine ok_getI 210 dX8_applaud_207 rfl rfl F_Encores_Stage_116 sg_113 rfl (Nat.le_of_ble_eq_true rfl) rfl ?_
      refine ok_iconst 211 1 dX8_applaud_210 rfl rfl ?_
      refine ok_iload 213 6 dX8_applaud_211 rfl rfl ?_
      refine ok_ishl 214 dX8_applaud_213 rfl ?_
      refine ok_ior 215 dX8_applaud_214 rfl ?_
      refine ok_putI 218 dX8_applaud_215 rfl rfl F_Encores_Stage_116 sg_113 rfl (Nat.le_of_ble_eq_true rfl) rfl rfl pZ_8_5 rfl rfl ?_
      refine ok_bndM (fun m_215 => ?_)
      refine ok_aload_n 219 0 dX8_applaud_218 rfl rfl rfl ?_
      refine ok_getR 222 dX8_applaud_219 rfl rfl F_Encores_Stage_15 sg_113 rfl (Nat.le_of_ble_eq_true rfl) rfl rfl ?_
      refine ok_iload 224 6 dX8_applaud_222 rfl rfl ?_
      refine ok_iload 226 7 dX8_applaud_224 rfl rfl ?_
      refine ok_iast 227 dX8_applaud_226 rfl sg_115 ?_
      refine ok_bndM (fun m_226 => ?_)
      refine ok_iinc 230 6 1 [some (.ref 113), some (.int a1), some (.int a2_53), none, some (.int s4_59), some (.int a5_74), some (.int (s6_174 + 1)), some (.int s7_174), some (.int t0_174)] dX8_applaud_227 rfl rfl rfl (by decide) rfl ?_
      refine ok_goto 79 dX8_applaud_230 (by decide) ?_
      exact ok_less [some (.ref 113), some (.int a1), some (.int a2_53), none, some (.int s4_59), some (.int a5_74), some (.int (s6_174 + 1)), none, none] (And.intro rfl (And.intro rfl (And.intro rfl (And.intro rfl (And.intro rfl (And.intro rfl (trivial))))))) (hX (s6_174 + 1) m_226)

set_option maxRecDepth 100000 in
set_option maxHeartbeats 4000000 in
theorem ok_X8_applaud_L79 (N d : Nat) (a1 : Int32)  (a2_53 : Int32) (s4_59 : Int32) (a5_74 : Int32) (K233 : Mem → Ans) (hK233 : ∀  (m : Mem), Ok SX SG (d + 4) m_X8_applaud 233 [some (.ref 113), some (.int a1), some (.int a2_53), none, some (.int s4_59), some (.int a5_74), none, none, none] [] SG m (K233 m)) : ∀ (n : Nat) (s6_79 : Int32) (m : Mem), Ok SX SG (d + 4) m_X8_applaud 79 [some (.ref 113), some (.int a1), some (.int a2_53), none, some (.int s4_59), some (.int a5_74), some (.int s6_79), none, none] [] SG m (it1 (f_X8_applaud_L79 N a1 a2_53 s4_59 a5_74 K233) n s6_79 m) :=
  ok_it1 (fun s6_79 => [some (.ref 113), some (.int a1), some (.int a2_53), none, some (.int s4_59), some (.int a5_74), some (.int s6_79), none, none]) (fun X hX s6_79 m => by
    try unfold f_X8_applaud_L79
    refine ok_iload 81 6 dX8_applaud_79 rfl rfl ?_
    refine ok_aload_n 82 0 dX8_applaud_81 rfl rfl rfl ?_
    refine ok_getR 85 dX8_applaud_82 rfl rfl F_Encores_Stage_18 sg_113 rfl (Nat.le_of_ble_eq_true rfl) rfl rfl ?_
    refine ok_getR 88 dX8_applaud_85 rfl rfl F_Encores_Stage_106 sg_2 rfl (Nat.le_of_ble_eq_true rfl) rfl rfl ?_
    refine ok_getI 91 dX8_applaud_88 rfl rfl F_Encores_Stage_36 sg_3 rfl (Nat.le_of_ble_eq_true rfl) rfl ?_
    refine ok_icmp_ge 233 94 dX8_applaud_91 (by decide) rfl (fun _ => ?_) (fun _ => ?_)
    · exact ok_less [some (.ref 113), some (.int a1), some (.int a2_53), none, some (.int s4_59), some (.int a5_74), none, none, none] (And.intro rfl (And.intro rfl (And.intro rfl (And.intro rfl (And.intro rfl (trivial)))))) (hK233 m)
    · refine ok_iload 96 6 dX8_applaud_94 rfl rfl ?_
      refine ok_aload_n 97 0 dX8_applaud_96 rfl rfl rfl ?_
      refine ok_getR 100 dX8_applaud_97 rfl rfl F_Encores_Stage_9 sg_113 rfl (Nat.le_of_ble_eq_true rfl) rfl rfl ?_
      refine ok_alen 101 dX8_applaud_100 rfl sg_114 ?_
      rw [show Int32.ofNat 12 = 12 from rfl]
      refine ok_icmp_ge 233 104 dX8_applaud_101 (by decide) rfl (fun _ => ?_) (fun _ => ?_)
      · exact ok_less [some (.ref 113), some (.int a1), some (.int a2_53), none, some (.int s4_59), some (.int a5_74), none, none, none] (And.intro rfl (And.intro rfl (And.intro rfl (And.intro rfl (And.intro rfl (trivial)))))) (hK233 m)
      · refine ok_iload 106 6 dX8_applaud_104 rfl rfl ?_
        refine ok_aload_n 107 0 dX8_applaud_106 rfl rfl rfl ?_
        refine ok_getR 110 dX8_applaud_107 rfl rfl F_Encores_Stage_15 sg_113 rfl (Nat.le_of_ble_eq_true rfl) rfl rfl ?_
        refine ok_alen 111 dX8_applaud_110 rfl sg_115 ?_
        rw [show Int32.ofNat 12 = 12 from rfl]
        refine ok_icmp_ge 233 114 dX8_applaud_111 (by decide) rfl (fun _ => ?_) (fun _ => ?_)
        · exact ok_less [some (.ref 113), some (.int a1), some (.int a2_53), none, some (.int s4_59), some (.int a5_74), none, none, none] (And.intro rfl (And.intro rfl (And.intro rfl (And.intro rfl (And.intro rfl (trivial)))))) (hK233 m)
        · refine ok_iload 116 6 dX8_applaud_114 rfl rfl ?_
          refine ok_iload_n 117 2 dX8_applaud_116 rfl rfl rfl ?_
          refine ok_aload_n 118 0 dX8_applaud_117 rfl rfl rfl ?_
          refine ok_getI 121 dX8_applaud_118 rfl rfl F_Encores_Stage_116 sg_113 rfl (Nat.le_of_ble_eq_true rfl) rfl ?_
          refine ok_iconst 122 (-1) dX8_applaud_121 rfl rfl ?_
          refine ok_ixor 123 dX8_applaud_122 rfl ?_
          refine ok_iand 124 dX8_applaud_123 rfl ?_
          refine ok_callSNi (np := 2) (M' := m_X11_isIn) (As := [.int s6_79, .int (a2_53 &&& ((m 113 5) ^^^ (-1 : Int32)))]) (st := []) 127 4 dX8_applaud_124 rfl rfl km_X11_isIn ks_X11_isIn rfl (by decide) rfl rfl (Nat.le_of_ble_eq_true rfl) (c_X11_isIn N (d + 3) s6_79 (a2_53 &&& ((m 113 5) ^^^ (-1 : Int32))) m) ⟨Nat.le_refl _, Nat.le_refl _⟩ (Or.inl rfl) rfl (fun r_124 m_124 _ => ?_)
          refine ok_if_eq 227 130 dX8_applaud_127 (by decide) rfl (fun _ => ?_) (fun _ => ?_)
          · refine ok_iinc 230 6 1 [some (.ref 113), some (.int a1), some (.int a2_53), none, some (.int s4_59), some (.int a5_74), some (.int (s6_79 + 1)), none, none] dX8_applaud_227 rfl rfl rfl (by decide) rfl ?_
            refine ok_goto 79 dX8_applaud_230 (by decide) ?_
            exact ok_less [some (.ref 113), some (.int a1), some (.int a2_53), none, some (.int s4_59), some (.int a5_74), some (.int (s6_79 + 1)), none, none] (And.intro rfl (And.intro rfl (And.intro rfl (And.intro rfl (And.intro rfl (And.intro rfl (trivial))))))) (hX (s6_79 + 1) m_124)
          · refine ok_aload_n 131 0 dX8_applaud_130 rfl rfl rfl ?_
            refine ok_getR 134 dX8_applaud_131 rfl rfl F_Encores_Stage_18 sg_113 rfl (Nat.le_of_ble_eq_true rfl) rfl rfl ?_
            refine ok_getR 137 dX8_applaud_134 rfl rfl F_Encores_Stage_106 sg_2 rfl (Nat.le_of_ble_eq_true rfl) rfl rfl ?_
            refine ok_iload 139 6 dX8_applaud_137 rfl rfl ?_
            refine ok_bipush 141 6 dX8_applaud_139 rfl rfl ?_
            refine ok_callVi (np := 2) (M' := m_X9_at) (As := [.int s6_79, .int 6]) (st := []) 144 dX8_applaud_141 rfl rfl km_X9_at ki_X9_at kv_X9_at ml_Encores_Stage_46 (by decide) sg_3 rfl (Nat.le_of_ble_eq_true rfl) rfl rfl rfl (Nat.le_of_ble_eq_true rfl) (c_X9_at N (d + 3) 3 s6_79 6 tg_3 m_124) ⟨Nat.le_refl _, Nat.le_refl _⟩ (Or.inl rfl) rfl (fun r_141 m_141 _ => ?_)
            refine ok_aload_n 145 0 dX8_applaud_144 rfl rfl rfl ?_
            refine ok_getI 148 dX8_applaud_145 rfl rfl F_Encores_Stage_116 sg_113 rfl (Nat.le_of_ble_eq_true rfl) rfl ?_
            refine ok_iand 149 dX8_applaud_148 rfl ?_
            refine ok_callSi (np := 1) (M' := m_J6_bitCount_0f7a4) (As := [.int (r_141 &&& (m_141 113 5))]) (st := []) 152 dX8_applaud_149 rfl rfl km_J6_bitCount_0f7a4 ks_J6_bitCount_0f7a4 ml_Encores_Stage_129 (by decide) rfl rfl (Nat.le_of_ble_eq_true rfl) (c_J6_bitCount_0f7a4 N (d + 3) (r_141 &&& (m_141 113 5)) m_141) ⟨Nat.le_refl _, Nat.le_refl _⟩ (Or.inl rfl) rfl (fun r_149 m_149 _ => ?_)
            refine ok_istore 154 7 [some (.ref 113), some (.int a1), some (.int a2_53), none, some (.int s4_59), some (.int a5_74), some (.int s6_79), some (.int r_149), none] dX8_applaud_152 rfl (by decide) rfl ?_
            refine ok_aload_n 155 0 dX8_applaud_154 rfl rfl rfl ?_
            refine ok_getI 158 dX8_applaud_155 rfl rfl F_Encores_Stage_109 sg_113 rfl (Nat.le_of_ble_eq_true rfl) rfl ?_
            refine ok_if_eq 167 161 dX8_applaud_158 (by decide) rfl (fun _ => ?_) (fun _ => ?_)
            · refine ok_aload_n 168 0 dX8_applaud_167 rfl rfl rfl ?_
              refine ok_getR 171 dX8_applaud_168 rfl rfl F_Encores_Stage_9 sg_113 rfl (Nat.le_of_ble_eq_true rfl) rfl rfl ?_
              refine ok_iload 173 6 dX8_applaud_171 rfl rfl ?_
              refine ok_iald 174 dX8_applaud_173 rfl sg_114 ?_
              exact ok_less [some (.ref 113), some (.int a1), some (.int a2_53), none, some (.int s4_59), some (.int a5_74), some (.int s6_79), some (.int r_149), none] (And.intro rfl (And.intro rfl (And.intro rfl (And.intro rfl (And.intro rfl (And.intro rfl (And.intro rfl (trivial)))))))) (ok_X8_applaud_J174 N d a1 a2_53 s4_59 a5_74 K233 X hK233 hX s6_79 r_149 (m_149 114 s6_79.toNatClampNeg) m_149)
            · refine ok_sipush 164 500 dX8_applaud_161 rfl rfl ?_
              refine ok_goto 174 dX8_applaud_164 (by decide) ?_
              exact ok_less [some (.ref 113), some (.int a1), some (.int a2_53), none, some (.int s4_59), some (.int a5_74), some (.int s6_79), some (.int r_149), none] (And.intro rfl (And.intro rfl (And.intro rfl (And.intro rfl (And.intro rfl (And.intro rfl (And.intro rfl (trivial)))))))) (ok_X8_applaud_J174 N d a1 a2_53 s4_59 a5_74 K233 X hK233 hX s6_79 r_149 500 m_149))

set_option maxRecDepth 100000 in
set_option maxHeartbeats 4000000 in
theorem ok_X8_applaud_J247 (N d : Nat) (a1 : Int32)  (a2_53 : Int32)  (X : Int32 → Int32 → Mem → Ans) (hX : ∀ (k3 : Int32) (k4 : Int32) (m : Mem), Ok SX SG (d + 4) m_X8_applaud 59 [some (.ref 113), some (.int a1), some (.int a2_53), some (.int k3), some (.int k4), none, none, none, none] [] SG m (X k3 k4 m)) (s4_247 : Int32) (t0_247 : Int32) (m : Mem) : Ok SX SG (d + 4) m_X8_applaud 247 [some (.ref 113), some (.int a1), some (.int a2_53), none, some (.int s4_247), none, none, none, none] [.int t0_247] SG m (f_X8_applaud_J247 N a1 a2_53  X s4_247 t0_247 m) := by
  unfold f_X8_applaud_J247
  refine ok_istore_n 248 3 [some (.ref 113), some (.int a1), some (.int a2_53), some (.int t0_247), some (.int s4_247), none, none, none, none] dX8_applaud_247 rfl rfl (by decide) rfl ?_
  refine ok_aload_n 249 0 dX8_applaud_248 rfl rfl rfl ?_
  refine ok_dup 250 dX8_applaud_249 rfl rfl ?_
  refine ok_getI 253 dX8_applaud_250 rfl rfl F_Encores_Stage_119 sg_113 rfl (Nat.le_of_ble_eq_true rfl) rfl ?_
  refine ok_iload_n 254 3 dX8_applaud_253 rfl rfl rfl ?_
  refine ok_if_eq 261 257 dX8_applaud_254 (by decide) rfl (fun _ => ?_) (fun _ => ?_)
  · refine ok_iconst 262 0 dX8_applaud_261 rfl rfl ?_
    refine ok_iadd 263 dX8_applaud_262 rfl ?_
    refine ok_putI 266 dX8_applaud_263 rfl rfl F_Encores_Stage_119 sg_113 rfl (Nat.le_of_ble_eq_true rfl) rfl rfl pZ_8_6 rfl rfl ?_
    refine ok_bndM (fun m_263 => ?_)
    refine ok_iinc 269 4 1 [some (.ref 113), some (.int a1), some (.int a2_53), some (.int t0_247), some (.int (s4_247 + 1)), none, none, none, none] dX8_applaud_266 rfl rfl rfl (by decide) rfl ?_
    refine ok_goto 59 dX8_applaud_269 (by decide) ?_
    exact ok_less [some (.ref 113), some (.int a1), some (.int a2_53), some (.int t0_247), some (.int (s4_247 + 1)), none, none, none, none] (And.intro rfl (And.intro rfl (And.intro rfl (And.intro rfl (And.intro rfl (trivial)))))) (hX t0_247 (s4_247 + 1) m_263)
  · refine ok_iconst 258 1 dX8_applaud_257 rfl rfl ?_
    refine ok_goto 262 dX8_applaud_258 (by decide) ?_
    refine ok_iadd 263 dX8_applaud_262 rfl ?_
    refine ok_putI 266 dX8_applaud_263 rfl rfl F_Encores_Stage_119 sg_113 rfl (Nat.le_of_ble_eq_true rfl) rfl rfl pZ_8_6 rfl rfl ?_
    refine ok_bndM (fun m_263 => ?_)
    refine ok_iinc 269 4 1 [some (.ref 113), some (.int a1), some (.int a2_53), some (.int t0_247), some (.int (s4_247 + 1)), none, none, none, none] dX8_applaud_266 rfl rfl rfl (by decide) rfl ?_
    refine ok_goto 59 dX8_applaud_269 (by decide) ?_
    exact ok_less [some (.ref 113), some (.int a1), some (.int a2_53), some (.int t0_247), some (.int (s4_247 + 1)), none, none, none, none] (And.intro rfl (And.intro rfl (And.intro rfl (And.intro rfl (And.intro rfl (trivial)))))) (hX t0_247 (s4_247 + 1) m_263)

set_option maxRecDepth 100000 in
set_option maxHeartbeats 4000000 in
theorem ok_X8_applaud_J233 (N d : Nat) (a1 : Int32)  (a2_53 : Int32)  (X : Int32 → Int32 → Mem → Ans) (hX : ∀ (k3 : Int32) (k4 : Int32) (m : Mem), Ok SX SG (d + 4) m_X8_applaud 59 [some (.ref 113), some (.int a1), some (.int a2_53), some (.int k3), some (.int k4), none, none, none, none] [] SG m (X k3 k4 m)) (s4_233 : Int32) (s5_233 : Int32) (m : Mem) : Ok SX SG (d + 4) m_X8_applaud 233 [some (.ref 113), some (.int a1), some (.int a2_53), none, some (.int s4_233), some (.int s5_233), none, none, none] [] SG m (f_X8_applaud_J233 N a1 a2_53  X s4_233 s5_233 m) := by
  unfold f_X8_applaud_J233
  refine ok_aload_n 234 0 dX8_applaud_233 rfl rfl rfl ?_
  refine ok_getI 237 dX8_applaud_234 rfl rfl F_Encores_Stage_116 sg_113 rfl (Nat.le_of_ble_eq_true rfl) rfl ?_
  refine ok_iload 239 5 dX8_applaud_237 rfl rfl ?_
  refine ok_icmp_eq 246 242 dX8_applaud_239 (by decide) rfl (fun _ => ?_) (fun _ => ?_)
  · refine ok_iconst 247 0 dX8_applaud_246 rfl rfl ?_
    exact ok_less [some (.ref 113), some (.int a1), some (.int a2_53), none, some (.int s4_233), none, none, none, none] (And.intro rfl (And.intro rfl (And.intro rfl (And.intro rfl (trivial))))) (ok_X8_applaud_J247 N d a1 a2_53  X hX s4_233 0 m)
  · refine ok_iconst 243 1 dX8_applaud_242 rfl rfl ?_
    refine ok_goto 247 dX8_applaud_243 (by decide) ?_
    exact ok_less [some (.ref 113), some (.int a1), some (.int a2_53), none, some (.int s4_233), none, none, none, none] (And.intro rfl (And.intro rfl (And.intro rfl (And.intro rfl (trivial))))) (ok_X8_applaud_J247 N d a1 a2_53  X hX s4_233 1 m)

set_option maxRecDepth 100000 in
set_option maxHeartbeats 4000000 in
theorem ok_X8_applaud_L59 (N d : Nat) (a1 : Int32)  (a2_53 : Int32)  : ∀ (n : Nat) (s3_59 : Int32) (s4_59 : Int32) (m : Mem), Ok SX SG (d + 4) m_X8_applaud 59 [some (.ref 113), some (.int a1), some (.int a2_53), some (.int s3_59), some (.int s4_59), none, none, none, none] [] SG m (it2 (f_X8_applaud_L59 N a1 a2_53) n s3_59 s4_59 m) :=
  ok_it2 (fun s3_59 s4_59 => [some (.ref 113), some (.int a1), some (.int a2_53), some (.int s3_59), some (.int s4_59), none, none, none, none]) (fun X hX s3_59 s4_59 m => by
    try unfold f_X8_applaud_L59
    refine ok_iload 61 4 dX8_applaud_59 rfl rfl ?_
    refine ok_bipush 63 12 dX8_applaud_61 rfl rfl ?_
    refine ok_icmp_gt 272 66 dX8_applaud_63 (by decide) rfl (fun _ => ?_) (fun _ => ?_)
    · exact ok_vret dX8_applaud_272 rfl
    · refine ok_iload_n 67 3 dX8_applaud_66 rfl rfl rfl ?_
      refine ok_if_eq 272 70 dX8_applaud_67 (by decide) rfl (fun _ => ?_) (fun _ => ?_)
      · exact ok_vret dX8_applaud_272 rfl
      · refine ok_aload_n 71 0 dX8_applaud_70 rfl rfl rfl ?_
        refine ok_getI 74 dX8_applaud_71 rfl rfl F_Encores_Stage_116 sg_113 rfl (Nat.le_of_ble_eq_true rfl) rfl ?_
        refine ok_bndI (fun a5_74 => ?_)
        refine ok_istore 76 5 [some (.ref 113), some (.int a1), some (.int a2_53), some (.int s3_59), some (.int s4_59), some (.int a5_74), none, none, none] dX8_applaud_74 rfl (by decide) rfl ?_
        refine ok_iconst 77 0 dX8_applaud_76 rfl rfl ?_
        refine ok_istore 79 6 [some (.ref 113), some (.int a1), some (.int a2_53), some (.int s3_59), some (.int s4_59), some (.int a5_74), some (.int 0), none, none] dX8_applaud_77 rfl (by decide) rfl ?_
        refine ok_less [some (.ref 113), some (.int a1), some (.int a2_53), none, some (.int s4_59), some (.int a5_74), some (.int 0), none, none] (And.intro rfl (And.intro rfl (And.intro rfl (And.intro rfl (And.intro rfl (And.intro rfl (trivial))))))) ?_
        exact ok_X8_applaud_L79 N d a1 a2_53 s4_59 a5_74 _ (fun mk233 => by
            exact ok_less [some (.ref 113), some (.int a1), some (.int a2_53), none, some (.int s4_59), some (.int a5_74), none, none, none] (And.intro rfl (And.intro rfl (And.intro rfl (And.intro rfl (And.intro rfl (trivial)))))) (ok_X8_applaud_J233 N d a1 a2_53  X hX s4_59 a5_74 mk233)) N 0 m)

set_option maxRecDepth 100000 in
set_option maxHeartbeats 4000000 in
theorem ok_X8_applaud (N d : Nat) (a1 : Int32)  (m : Mem) : Ok SX SG (d + 4) m_X8_applaud 0 [some (.ref 113), some (.int a1), none, none, none, none, none, none, none] [] SG m (f_X8_applaud N a1 m) := by
  unfold f_X8_applaud
  refine ok_aload_n 1 0 dX8_applaud_0 rfl rfl rfl ?_
  refine ok_iconst 2 0 dX8_applaud_1 rfl rfl ?_
  refine ok_putI 5 dX8_applaud_2 rfl rfl F_Encores_Stage_116 sg_113 rfl (Nat.le_of_ble_eq_true rfl) rfl rfl pZ_8_5 rfl rfl ?_
  refine ok_bndM (fun m_2 => ?_)
  refine ok_aload_n 6 0 dX8_applaud_5 rfl rfl rfl ?_
  refine ok_iconst 7 0 dX8_applaud_6 rfl rfl ?_
  refine ok_putI 10 dX8_applaud_7 rfl rfl F_Encores_Stage_119 sg_113 rfl (Nat.le_of_ble_eq_true rfl) rfl rfl pZ_8_6 rfl rfl ?_
  refine ok_bndM (fun m_7 => ?_)
  refine ok_iconst 11 0 dX8_applaud_10 rfl rfl ?_
  refine ok_istore_n 12 2 [some (.ref 113), some (.int a1), some (.int 0), none, none, none, none, none, none] dX8_applaud_11 rfl rfl (by decide) rfl ?_
  refine ok_less [some (.ref 113), some (.int a1), some (.int 0), none, none, none, none, none, none] (And.intro rfl (And.intro rfl (And.intro rfl (trivial)))) ?_
  exact ok_X8_applaud_L12 N d a1  _ (fun mk34 => by
      refine ok_aload_n 35 0 dX8_applaud_34 rfl rfl rfl ?_
      refine ok_getR 38 dX8_applaud_35 rfl rfl F_Encores_Stage_18 sg_113 rfl (Nat.le_of_ble_eq_true rfl) rfl rfl ?_
      refine ok_iconst 39 3 dX8_applaud_38 rfl rfl ?_
      refine ok_callVi (np := 1) (M' := m_X1_those) (As := [.int 3]) (st := []) 42 dX8_applaud_39 rfl rfl km_X1_those ki_X1_those kv_X1_those ml_Encores_Stage_122 (by decide) sg_2 rfl (Nat.le_of_ble_eq_true rfl) rfl rfl rfl (Nat.le_of_ble_eq_true rfl) (c_X1_those N (d + 2) 3 mk34) ⟨Nat.le_refl _, Nat.le_refl _⟩ (Or.inl rfl) rfl (fun r_39 m_39 _ => ?_)
      refine ok_aload_n 43 0 dX8_applaud_42 rfl rfl rfl ?_
      refine ok_getR 46 dX8_applaud_43 rfl rfl F_Encores_Stage_18 sg_113 rfl (Nat.le_of_ble_eq_true rfl) rfl rfl ?_
      refine ok_iconst 47 4 dX8_applaud_46 rfl rfl ?_
      refine ok_callVi (np := 1) (M' := m_X1_those) (As := [.int 4]) (st := [.int r_39]) 50 dX8_applaud_47 rfl rfl km_X1_those ki_X1_those kv_X1_those ml_Encores_Stage_122 (by decide) sg_2 rfl (Nat.le_of_ble_eq_true rfl) rfl rfl rfl (Nat.le_of_ble_eq_true rfl) (c_X1_those N (d + 2) 4 m_39) ⟨Nat.le_refl _, Nat.le_refl _⟩ (Or.inl rfl) rfl (fun r_47 m_47 _ => ?_)
      refine ok_iconst 51 (-1) dX8_applaud_50 rfl rfl ?_
      refine ok_ixor 52 dX8_applaud_51 rfl ?_
      refine ok_iand 53 dX8_applaud_52 rfl ?_
      refine ok_bndI (fun a2_53 => ?_)
      refine ok_istore_n 54 2 [some (.ref 113), some (.int a1), some (.int a2_53), none, none, none, none, none, none] dX8_applaud_53 rfl rfl (by decide) rfl ?_
      refine ok_iconst 55 1 dX8_applaud_54 rfl rfl ?_
      refine ok_istore_n 56 3 [some (.ref 113), some (.int a1), some (.int a2_53), some (.int 1), none, none, none, none, none] dX8_applaud_55 rfl rfl (by decide) rfl ?_
      refine ok_iconst 57 0 dX8_applaud_56 rfl rfl ?_
      refine ok_istore 59 4 [some (.ref 113), some (.int a1), some (.int a2_53), some (.int 1), some (.int 0), none, none, none, none] dX8_applaud_57 rfl (by decide) rfl ?_
      refine ok_less [some (.ref 113), some (.int a1), some (.int a2_53), some (.int 1), some (.int 0), none, none, none, none] (And.intro rfl (And.intro rfl (And.intro rfl (And.intro rfl (And.intro rfl (trivial)))))) ?_
      exact ok_X8_applaud_L59 N d a1 a2_53   N 1 0 m_47) N 0 m_7

theorem c_X8_applaud (N d : Nat) (a1 : Int32)  (m : Mem) : CM SX (d + 4) m_X8_applaud SG SG [.ref 113, .int a1] m (f_X8_applaud N a1 m) :=
  CM.ofOk km_X8_applaud ⟨Nat.le_refl _, Nat.le_refl _⟩ (by simp [Value.category]) (Nat.le_of_ble_eq_true rfl) (ok_X8_applaud N d a1 m)

def f_X8_coughs (N : Nat)  (m : Mem) : Ans :=
if (m 113 4) = 0 then (bd (f_X1_hour N 3 m) fun r_12 m_12 =>
if r_12 ≤ 0 then (some (0, m_12))
else (bd (f_X8_draw N 1000 m_12) fun r_22 m_22 =>
bd (f_X1_hour N 3 m_22) fun r_30 m_30 =>
if r_30 ≤ r_22 then (some (0, m_30))
else (some (1, m_30))))
else (some (0, m))

set_option maxRecDepth 100000 in
set_option maxHeartbeats 4000000 in
theorem ok_X8_coughs (N d : Nat)   (m : Mem) : Ok SX SG (d + 3) m_X8_coughs 0 [some (.ref 113)] [] SG m (f_X8_coughs N m) := by
  unfold f_X8_coughs
  refine ok_aload_n 1 0 dX8_coughs_0 rfl rfl rfl ?_
  refine ok_getI 4 dX8_coughs_1 rfl rfl F_Encores_Stage_109 sg_113 rfl (Nat.le_of_ble_eq_true rfl) rfl ?_
  refine ok_if_ne 40 7 dX8_coughs_4 (by decide) rfl (fun _ => ?_) (fun _ => ?_)
  · refine ok_iconst 41 0 dX8_coughs_40 rfl rfl ?_
    exact ok_zretc dX8_coughs_41 rfl rfl
  · refine ok_aload_n 8 0 dX8_coughs_7 rfl rfl rfl ?_
    refine ok_getR 11 dX8_coughs_8 rfl rfl F_Encores_Stage_18 sg_113 rfl (Nat.le_of_ble_eq_true rfl) rfl rfl ?_
    refine ok_iconst 12 3 dX8_coughs_11 rfl rfl ?_
    refine ok_callVi (np := 1) (M' := m_X1_hour) (As := [.int 3]) (st := []) 15 dX8_coughs_12 rfl rfl km_X1_hour ki_X1_hour kv_X1_hour ml_Encores_Stage_42 (by decide) sg_2 rfl (Nat.le_of_ble_eq_true rfl) rfl rfl rfl (Nat.le_of_ble_eq_true rfl) (c_X1_hour N (d + 1) 3 m) ⟨Nat.le_refl _, Nat.le_refl _⟩ (Or.inl rfl) rfl (fun r_12 m_12 _ => ?_)
    refine ok_if_le 40 18 dX8_coughs_15 (by decide) rfl (fun _ => ?_) (fun _ => ?_)
    · refine ok_iconst 41 0 dX8_coughs_40 rfl rfl ?_
      exact ok_zretc dX8_coughs_41 rfl rfl
    · refine ok_aload_n 19 0 dX8_coughs_18 rfl rfl rfl ?_
      refine ok_sipush 22 1000 dX8_coughs_19 rfl rfl ?_
      refine ok_callVi (np := 1) (M' := m_X8_draw) (As := [.int 1000]) (st := []) 25 dX8_coughs_22 rfl rfl km_X8_draw ki_X8_draw kv_X8_draw ml_Encores_Stage_113 (by decide) sg_113 rfl (Nat.le_of_ble_eq_true rfl) rfl rfl rfl (Nat.le_of_ble_eq_true rfl) (c_X8_draw N (d + 0) 1000 m_12) ⟨Nat.le_refl _, Nat.le_refl _⟩ (Or.inl rfl) rfl (fun r_22 m_22 _ => ?_)
      refine ok_aload_n 26 0 dX8_coughs_25 rfl rfl rfl ?_
      refine ok_getR 29 dX8_coughs_26 rfl rfl F_Encores_Stage_18 sg_113 rfl (Nat.le_of_ble_eq_true rfl) rfl rfl ?_
      refine ok_iconst 30 3 dX8_coughs_29 rfl rfl ?_
      refine ok_callVi (np := 1) (M' := m_X1_hour) (As := [.int 3]) (st := [.int r_22]) 33 dX8_coughs_30 rfl rfl km_X1_hour ki_X1_hour kv_X1_hour ml_Encores_Stage_42 (by decide) sg_2 rfl (Nat.le_of_ble_eq_true rfl) rfl rfl rfl (Nat.le_of_ble_eq_true rfl) (c_X1_hour N (d + 1) 3 m_22) ⟨Nat.le_refl _, Nat.le_refl _⟩ (Or.inl rfl) rfl (fun r_30 m_30 _ => ?_)
      refine ok_icmp_ge 40 36 dX8_coughs_33 (by decide) rfl (fun _ => ?_) (fun _ => ?_)
      · refine ok_iconst 41 0 dX8_coughs_40 rfl rfl ?_
        exact ok_zretc dX8_coughs_41 rfl rfl
      · refine ok_iconst 37 1 dX8_coughs_36 rfl rfl ?_
        refine ok_goto 41 dX8_coughs_37 (by decide) ?_
        exact ok_zretc dX8_coughs_41 rfl rfl

theorem c_X8_coughs (N d : Nat)   (m : Mem) : CM SX (d + 3) m_X8_coughs SG SG [.ref 113] m (f_X8_coughs N m) :=
  CM.ofOk km_X8_coughs ⟨Nat.le_refl _, Nat.le_refl _⟩ (by simp [Value.category]) (Nat.le_of_ble_eq_true rfl) (ok_X8_coughs N d  m)

def f_X8_handsOf_L4 (N : Nat) (a1 : Int32)   (X : Int32 → Int32 → Mem → Ans) (s2_4 : Int32) (s3_4 : Int32) (m : Mem) : Ans :=
if (m 3 3) ≤ s3_4 then (some (s2_4, m))
else (bd (f_X11_isIn N s3_4 a1 m) fun r_20 m_20 =>
if r_20 = 0 then (X s2_4 (s3_4 + 1) m_20)
else (bd (f_X9_at N 3 s3_4 0 m_20) fun r_36 m_36 =>
bd (f_X9_at N 3 s3_4 7 m_36) fun r_49 m_49 =>
bnd (s2_4 + (r_36 * r_49)) fun a2_54 =>
X a2_54 (s3_4 + 1) m_49))

def f_X8_handsOf (N : Nat) (a1 : Int32) (m : Mem) : Ans :=
it2 (f_X8_handsOf_L4 N a1 ) N 0 0 m

set_option maxRecDepth 100000 in
set_option maxHeartbeats 4000000 in
theorem ok_X8_handsOf_L4 (N d : Nat) (a1 : Int32)    : ∀ (n : Nat) (s2_4 : Int32) (s3_4 : Int32) (m : Mem), Ok SX SG (d + 1) m_X8_handsOf 4 [some (.ref 113), some (.int a1), some (.int s2_4), some (.int s3_4)] [] SG m (it2 (f_X8_handsOf_L4 N a1) n s2_4 s3_4 m) :=
  ok_it2 (fun s2_4 s3_4 => [some (.ref 113), some (.int a1), some (.int s2_4), some (.int s3_4)]) (fun X hX s2_4 s3_4 m => by
    try unfold f_X8_handsOf_L4
    refine ok_iload_n 5 3 dX8_handsOf_4 rfl rfl rfl ?_
    refine ok_aload_n 6 0 dX8_handsOf_5 rfl rfl rfl ?_
    refine ok_getR 9 dX8_handsOf_6 rfl rfl F_Encores_Stage_18 sg_113 rfl (Nat.le_of_ble_eq_true rfl) rfl rfl ?_
    refine ok_getR 12 dX8_handsOf_9 rfl rfl F_Encores_Stage_106 sg_2 rfl (Nat.le_of_ble_eq_true rfl) rfl rfl ?_
    refine ok_getI 15 dX8_handsOf_12 rfl rfl F_Encores_Stage_36 sg_3 rfl (Nat.le_of_ble_eq_true rfl) rfl ?_
    refine ok_icmp_ge 61 18 dX8_handsOf_15 (by decide) rfl (fun _ => ?_) (fun _ => ?_)
    · refine ok_iload_n 62 2 dX8_handsOf_61 rfl rfl rfl ?_
      exact ok_iret dX8_handsOf_62 rfl
    · refine ok_iload_n 19 3 dX8_handsOf_18 rfl rfl rfl ?_
      refine ok_iload_n 20 1 dX8_handsOf_19 rfl rfl rfl ?_
      refine ok_callSNi (np := 2) (M' := m_X11_isIn) (As := [.int s3_4, .int a1]) (st := []) 23 4 dX8_handsOf_20 rfl rfl km_X11_isIn ks_X11_isIn rfl (by decide) rfl rfl (Nat.le_of_ble_eq_true rfl) (c_X11_isIn N (d + 0) s3_4 a1 m) ⟨Nat.le_refl _, Nat.le_refl _⟩ (Or.inl rfl) rfl (fun r_20 m_20 _ => ?_)
      refine ok_if_eq 55 26 dX8_handsOf_23 (by decide) rfl (fun _ => ?_) (fun _ => ?_)
      · refine ok_iinc 58 3 1 [some (.ref 113), some (.int a1), some (.int s2_4), some (.int (s3_4 + 1))] dX8_handsOf_55 rfl rfl rfl (by decide) rfl ?_
        refine ok_goto 4 dX8_handsOf_58 (by decide) ?_
        exact ok_less [some (.ref 113), some (.int a1), some (.int s2_4), some (.int (s3_4 + 1))] (And.intro rfl (And.intro rfl (And.intro rfl (And.intro rfl (trivial))))) (hX s2_4 (s3_4 + 1) m_20)
      · refine ok_iload_n 27 2 dX8_handsOf_26 rfl rfl rfl ?_
        refine ok_aload_n 28 0 dX8_handsOf_27 rfl rfl rfl ?_
        refine ok_getR 31 dX8_handsOf_28 rfl rfl F_Encores_Stage_18 sg_113 rfl (Nat.le_of_ble_eq_true rfl) rfl rfl ?_
        refine ok_getR 34 dX8_handsOf_31 rfl rfl F_Encores_Stage_106 sg_2 rfl (Nat.le_of_ble_eq_true rfl) rfl rfl ?_
        refine ok_iload_n 35 3 dX8_handsOf_34 rfl rfl rfl ?_
        refine ok_iconst 36 0 dX8_handsOf_35 rfl rfl ?_
        refine ok_callVi (np := 2) (M' := m_X9_at) (As := [.int s3_4, .int 0]) (st := [.int s2_4]) 39 dX8_handsOf_36 rfl rfl km_X9_at ki_X9_at kv_X9_at ml_Encores_Stage_46 (by decide) sg_3 rfl (Nat.le_of_ble_eq_true rfl) rfl rfl rfl (Nat.le_of_ble_eq_true rfl) (c_X9_at N (d + 0) 3 s3_4 0 tg_3 m_20) ⟨Nat.le_refl _, Nat.le_refl _⟩ (Or.inl rfl) rfl (fun r_36 m_36 _ => ?_)
        refine ok_aload_n 40 0 dX8_handsOf_39 rfl rfl rfl ?_
        refine ok_getR 43 dX8_handsOf_40 rfl rfl F_Encores_Stage_18 sg_113 rfl (Nat.le_of_ble_eq_true rfl) rfl rfl ?_
        refine ok_getR 46 dX8_handsOf_43 rfl rfl F_Encores_Stage_106 sg_2 rfl (Nat.le_of_ble_eq_true rfl) rfl rfl ?_
        refine ok_iload_n 47 3 dX8_handsOf_46 rfl rfl rfl ?_
        refine ok_bipush 49 7 dX8_handsOf_47 rfl rfl ?_
        refine ok_callVi (np := 2) (M' := m_X9_at) (As := [.int s3_4, .int 7]) (st := [.int r_36, .int s2_4]) 52 dX8_handsOf_49 rfl rfl km_X9_at ki_X9_at kv_X9_at ml_Encores_Stage_46 (by decide) sg_3 rfl (Nat.le_of_ble_eq_true rfl) rfl rfl rfl (Nat.le_of_ble_eq_true rfl) (c_X9_at N (d + 0) 3 s3_4 7 tg_3 m_36) ⟨Nat.le_refl _, Nat.le_refl _⟩ (Or.inl rfl) rfl (fun r_49 m_49 _ => ?_)
        refine ok_imul 53 dX8_handsOf_52 rfl ?_
        refine ok_iadd 54 dX8_handsOf_53 rfl ?_
        refine ok_bndI (fun a2_54 => ?_)
        refine ok_istore_n 55 2 [some (.ref 113), some (.int a1), some (.int a2_54), some (.int s3_4)] dX8_handsOf_54 rfl rfl (by decide) rfl ?_
        refine ok_iinc 58 3 1 [some (.ref 113), some (.int a1), some (.int a2_54), some (.int (s3_4 + 1))] dX8_handsOf_55 rfl rfl rfl (by decide) rfl ?_
        refine ok_goto 4 dX8_handsOf_58 (by decide) ?_
        exact ok_less [some (.ref 113), some (.int a1), some (.int a2_54), some (.int (s3_4 + 1))] (And.intro rfl (And.intro rfl (And.intro rfl (And.intro rfl (trivial))))) (hX a2_54 (s3_4 + 1) m_49))

set_option maxRecDepth 100000 in
set_option maxHeartbeats 4000000 in
theorem ok_X8_handsOf (N d : Nat) (a1 : Int32)  (m : Mem) : Ok SX SG (d + 1) m_X8_handsOf 0 [some (.ref 113), some (.int a1), none, none] [] SG m (f_X8_handsOf N a1 m) := by
  unfold f_X8_handsOf
  refine ok_iconst 1 0 dX8_handsOf_0 rfl rfl ?_
  refine ok_istore_n 2 2 [some (.ref 113), some (.int a1), some (.int 0), none] dX8_handsOf_1 rfl rfl (by decide) rfl ?_
  refine ok_iconst 3 0 dX8_handsOf_2 rfl rfl ?_
  refine ok_istore_n 4 3 [some (.ref 113), some (.int a1), some (.int 0), some (.int 0)] dX8_handsOf_3 rfl rfl (by decide) rfl ?_
  refine ok_less [some (.ref 113), some (.int a1), some (.int 0), some (.int 0)] (And.intro rfl (And.intro rfl (And.intro rfl (And.intro rfl (trivial))))) ?_
  exact ok_X8_handsOf_L4 N d a1    N 0 0 m

theorem c_X8_handsOf (N d : Nat) (a1 : Int32)  (m : Mem) : CM SX (d + 1) m_X8_handsOf SG SG [.ref 113, .int a1] m (f_X8_handsOf N a1 m) :=
  CM.ofOk km_X8_handsOf ⟨Nat.le_refl _, Nat.le_refl _⟩ (by simp [Value.category]) (Nat.le_of_ble_eq_true rfl) (ok_X8_handsOf N d a1 m)

def f_X8_handsAt (N : Nat) (a1 : Int32) (m : Mem) : Ans :=
bd (f_X8_handsOf N (m 113 5) m) fun r_5 m_5 =>
bd (f_X2_ofDeed N 256 a1 m_5) fun r_16 m_16 =>
some ((r_5 + r_16), m_16)

set_option maxRecDepth 100000 in
set_option maxHeartbeats 4000000 in
theorem ok_X8_handsAt (N d : Nat) (a1 : Int32)  (m : Mem) : Ok SX SG (d + 4) m_X8_handsAt 0 [some (.ref 113), some (.int a1)] [] SG m (f_X8_handsAt N a1 m) := by
  unfold f_X8_handsAt
  refine ok_aload_n 1 0 dX8_handsAt_0 rfl rfl rfl ?_
  refine ok_aload_n 2 0 dX8_handsAt_1 rfl rfl rfl ?_
  refine ok_getI 5 dX8_handsAt_2 rfl rfl F_Encores_Stage_116 sg_113 rfl (Nat.le_of_ble_eq_true rfl) rfl ?_
  refine ok_callVi (np := 1) (M' := m_X8_handsOf) (As := [.int (m 113 5)]) (st := []) 8 dX8_handsAt_5 rfl rfl km_X8_handsOf ki_X8_handsOf kv_X8_handsOf ml_Encores_Stage_138 (by decide) sg_113 rfl (Nat.le_of_ble_eq_true rfl) rfl rfl rfl (Nat.le_of_ble_eq_true rfl) (c_X8_handsOf N (d + 2) (m 113 5) m) ⟨Nat.le_refl _, Nat.le_refl _⟩ (Or.inl rfl) rfl (fun r_5 m_5 _ => ?_)
  refine ok_aload_n 9 0 dX8_handsAt_8 rfl rfl rfl ?_
  refine ok_getR 12 dX8_handsAt_9 rfl rfl F_Encores_Stage_22 sg_113 rfl (Nat.le_of_ble_eq_true rfl) rfl rfl ?_
  refine ok_sipush 15 256 dX8_handsAt_12 rfl rfl ?_
  refine ok_iload_n 16 1 dX8_handsAt_15 rfl rfl rfl ?_
  refine ok_callVi (np := 2) (M' := m_X2_ofDeed) (As := [.int 256, .int a1]) (st := [.int r_5]) 19 dX8_handsAt_16 rfl rfl km_X2_ofDeed ki_X2_ofDeed kv_X2_ofDeed ml_Encores_Stage_89 (by decide) sg_110 rfl (Nat.le_of_ble_eq_true rfl) rfl rfl rfl (Nat.le_of_ble_eq_true rfl) (c_X2_ofDeed N (d + 0) 256 a1 m_5) ⟨Nat.le_refl _, Nat.le_refl _⟩ (Or.inl rfl) rfl (fun r_16 m_16 _ => ?_)
  refine ok_iadd 20 dX8_handsAt_19 rfl ?_
  exact ok_iret dX8_handsAt_20 rfl

theorem c_X8_handsAt (N d : Nat) (a1 : Int32)  (m : Mem) : CM SX (d + 4) m_X8_handsAt SG SG [.ref 113, .int a1] m (f_X8_handsAt N a1 m) :=
  CM.ofOk km_X8_handsAt ⟨Nat.le_refl _, Nat.le_refl _⟩ (by simp [Value.category]) (Nat.le_of_ble_eq_true rfl) (ok_X8_handsAt N d a1 m)

def f_X8_noteDone_J22 (N : Nat) (a1 : Int32) (a2 : Int32) (a3 : Int32)    (m : Mem) : Ans :=
bd (f_X1_hour N 5 m) fun r_31 m_31 =>
if r_31 ≤ 0 then (bd (f_X1_note N 0 a1 a3 m_31) fun _ m_44 =>
some (0, m_44))
else (bd (f_X1_note N 1 a1 a3 m_31) fun _ m_44 =>
some (0, m_44))

def f_X8_noteDone (N : Nat) (a1 : Int32) (a2 : Int32) (a3 : Int32) (m : Mem) : Ans :=
if (m 113 4) = 0 then (if a2 = 0 then (f_X8_noteDone_J22 N a1 a2 a3 m)
else (bd (f_X1_note N 2 a1 0 m) fun _ m_19 =>
f_X8_noteDone_J22 N a1 a2 a3 m_19))
else (some (0, m))

set_option maxRecDepth 100000 in
set_option maxHeartbeats 4000000 in
theorem ok_X8_noteDone_J22 (N d : Nat) (a1 : Int32) (a2 : Int32) (a3 : Int32)     (m : Mem) : Ok SX SG (d + 2) m_X8_noteDone 22 [some (.ref 113), some (.int a1), none, some (.int a3)] [] SG m (f_X8_noteDone_J22 N a1 a2 a3 m) := by
  unfold f_X8_noteDone_J22
  refine ok_aload_n 23 0 dX8_noteDone_22 rfl rfl rfl ?_
  refine ok_getR 26 dX8_noteDone_23 rfl rfl F_Encores_Stage_18 sg_113 rfl (Nat.le_of_ble_eq_true rfl) rfl rfl ?_
  refine ok_aload_n 27 0 dX8_noteDone_26 rfl rfl rfl ?_
  refine ok_getR 30 dX8_noteDone_27 rfl rfl F_Encores_Stage_18 sg_113 rfl (Nat.le_of_ble_eq_true rfl) rfl rfl ?_
  refine ok_iconst 31 5 dX8_noteDone_30 rfl rfl ?_
  refine ok_callVi (np := 1) (M' := m_X1_hour) (As := [.int 5]) (st := [.ref 2]) 34 dX8_noteDone_31 rfl rfl km_X1_hour ki_X1_hour kv_X1_hour ml_Encores_Stage_42 (by decide) sg_2 rfl (Nat.le_of_ble_eq_true rfl) rfl rfl rfl (Nat.le_of_ble_eq_true rfl) (c_X1_hour N (d + 0) 5 m) ⟨Nat.le_refl _, Nat.le_refl _⟩ (Or.inl rfl) rfl (fun r_31 m_31 _ => ?_)
  refine ok_if_le 41 37 dX8_noteDone_34 (by decide) rfl (fun _ => ?_) (fun _ => ?_)
  · refine ok_iconst 42 0 dX8_noteDone_41 rfl rfl ?_
    refine ok_iload_n 43 1 dX8_noteDone_42 rfl rfl rfl ?_
    refine ok_iload_n 44 3 dX8_noteDone_43 rfl rfl rfl ?_
    refine ok_callVv (np := 3) (M' := m_X1_note) (As := [.int 0, .int a1, .int a3]) (st := []) 47 dX8_noteDone_44 rfl rfl km_X1_note ki_X1_note kv_X1_note ml_Encores_Stage_141 (by decide) sg_2 rfl (Nat.le_of_ble_eq_true rfl) rfl rfl rfl (Nat.le_of_ble_eq_true rfl) (c_X1_note N (d + 0) 0 a1 a3 m_31) ⟨Nat.le_refl _, Nat.le_refl _⟩ (Or.inl rfl) rfl (fun _ m_44 _ => ?_)
    exact ok_vret dX8_noteDone_47 rfl
  · refine ok_iconst 38 1 dX8_noteDone_37 rfl rfl ?_
    refine ok_goto 42 dX8_noteDone_38 (by decide) ?_
    refine ok_iload_n 43 1 dX8_noteDone_42 rfl rfl rfl ?_
    refine ok_iload_n 44 3 dX8_noteDone_43 rfl rfl rfl ?_
    refine ok_callVv (np := 3) (M' := m_X1_note) (As := [.int 1, .int a1, .int a3]) (st := []) 47 dX8_noteDone_44 rfl rfl km_X1_note ki_X1_note kv_X1_note ml_Encores_Stage_141 (by decide) sg_2 rfl (Nat.le_of_ble_eq_true rfl) rfl rfl rfl (Nat.le_of_ble_eq_true rfl) (c_X1_note N (d + 0) 1 a1 a3 m_31) ⟨Nat.le_refl _, Nat.le_refl _⟩ (Or.inl rfl) rfl (fun _ m_44 _ => ?_)
    exact ok_vret dX8_noteDone_47 rfl

set_option maxRecDepth 100000 in
set_option maxHeartbeats 4000000 in
theorem ok_X8_noteDone (N d : Nat) (a1 : Int32) (a2 : Int32) (a3 : Int32)  (m : Mem) : Ok SX SG (d + 2) m_X8_noteDone 0 [some (.ref 113), some (.int a1), some (.int a2), some (.int a3)] [] SG m (f_X8_noteDone N a1 a2 a3 m) := by
  unfold f_X8_noteDone
  refine ok_aload_n 1 0 dX8_noteDone_0 rfl rfl rfl ?_
  refine ok_getI 4 dX8_noteDone_1 rfl rfl F_Encores_Stage_109 sg_113 rfl (Nat.le_of_ble_eq_true rfl) rfl ?_
  refine ok_if_eq 8 7 dX8_noteDone_4 (by decide) rfl (fun _ => ?_) (fun _ => ?_)
  · refine ok_iload_n 9 2 dX8_noteDone_8 rfl rfl rfl ?_
    refine ok_if_eq 22 12 dX8_noteDone_9 (by decide) rfl (fun _ => ?_) (fun _ => ?_)
    · exact ok_less [some (.ref 113), some (.int a1), none, some (.int a3)] (And.intro rfl (And.intro rfl (And.intro rfl (trivial)))) (ok_X8_noteDone_J22 N d a1 a2 a3   m)
    · refine ok_aload_n 13 0 dX8_noteDone_12 rfl rfl rfl ?_
      refine ok_getR 16 dX8_noteDone_13 rfl rfl F_Encores_Stage_18 sg_113 rfl (Nat.le_of_ble_eq_true rfl) rfl rfl ?_
      refine ok_iconst 17 2 dX8_noteDone_16 rfl rfl ?_
      refine ok_iload_n 18 1 dX8_noteDone_17 rfl rfl rfl ?_
      refine ok_iconst 19 0 dX8_noteDone_18 rfl rfl ?_
      refine ok_callVv (np := 3) (M' := m_X1_note) (As := [.int 2, .int a1, .int 0]) (st := []) 22 dX8_noteDone_19 rfl rfl km_X1_note ki_X1_note kv_X1_note ml_Encores_Stage_141 (by decide) sg_2 rfl (Nat.le_of_ble_eq_true rfl) rfl rfl rfl (Nat.le_of_ble_eq_true rfl) (c_X1_note N (d + 0) 2 a1 0 m) ⟨Nat.le_refl _, Nat.le_refl _⟩ (Or.inl rfl) rfl (fun _ m_19 _ => ?_)
      exact ok_less [some (.ref 113), some (.int a1), none, some (.int a3)] (And.intro rfl (And.intro rfl (And.intro rfl (trivial)))) (ok_X8_noteDone_J22 N d a1 a2 a3   m_19)
  · exact ok_vret dX8_noteDone_7 rfl

theorem c_X8_noteDone (N d : Nat) (a1 : Int32) (a2 : Int32) (a3 : Int32)  (m : Mem) : CM SX (d + 2) m_X8_noteDone SG SG [.ref 113, .int a1, .int a2, .int a3] m (f_X8_noteDone N a1 a2 a3 m) :=
  CM.ofOk km_X8_noteDone ⟨Nat.le_refl _, Nat.le_refl _⟩ (by simp [Value.category]) (Nat.le_of_ble_eq_true rfl) (ok_X8_noteDone N d a1 a2 a3 m)

def f_X8_doWithAgains_J52 (N : Nat) (a1 : Int32)   (X : Int32 → Int32 → Int32 → Mem → Ans) (s2_52 : Int32) (s4_52 : Int32) (s5_52 : Int32) (t0_52 : Int32) (m : Mem) : Ans :=
bd (f_X8_noteDone N a1 s5_52 t0_52 m) fun _ m_60 =>
if s5_52 = 0 then (bd (f_X1_handsDue N m_60) fun r_77 m_77 =>
if t0_52 < r_77 then (X (s2_52 + 1) 0 (s4_52 + 1) m_77)
else (bd (f_X1_mayGoOn N m_77) fun r_87 m_87 =>
if r_87 = 0 then (X (s2_52 + 1) 0 (s4_52 + 1) m_87)
else (X (s2_52 + 1) 1 (s4_52 + 1) m_87)))
else (X (s2_52 + 1) 0 (s4_52 + 1) m_60)

def f_X8_doWithAgains_L7 (N : Nat) (a1 : Int32)   (X : Int32 → Int32 → Int32 → Mem → Ans) (s2_7 : Int32) (s3_7 : Int32) (s4_7 : Int32) (m : Mem) : Ans :=
if (20 : Int32) < s4_7 then (some (s2_7, m))
else (if s3_7 = 0 then (some (s2_7, m))
else (bd (f_X8_begin N a1 m) fun _ m_20 =>
bd (f_X8_drawEach N m_20) fun _ m_24 =>
bd (f_X8_applaud N a1 m_24) fun _ m_29 =>
bd (f_X8_coughs N m_29) fun r_33 m_33 =>
if r_33 = 0 then (bd (f_X8_handsAt N a1 m_33) fun r_49 m_49 =>
f_X8_doWithAgains_J52 N a1  X s2_7 s4_7 r_33 r_49 m_49)
else (f_X8_doWithAgains_J52 N a1  X s2_7 s4_7 r_33 0 m_33)))

def f_X8_doWithAgains (N : Nat) (a1 : Int32) (m : Mem) : Ans :=
it3 (f_X8_doWithAgains_L7 N a1 ) N 0 1 0 m

set_option maxRecDepth 100000 in
set_option maxHeartbeats 4000000 in
theorem ok_X8_doWithAgains_J52 (N d : Nat) (a1 : Int32)    (X : Int32 → Int32 → Int32 → Mem → Ans) (hX : ∀ (k2 : Int32) (k3 : Int32) (k4 : Int32) (m : Mem), Ok SX SG (d + 5) m_X8_doWithAgains 7 [some (.ref 113), some (.int a1), some (.int k2), some (.int k3), some (.int k4), none, none] [] SG m (X k2 k3 k4 m)) (s2_52 : Int32) (s4_52 : Int32) (s5_52 : Int32) (t0_52 : Int32) (m : Mem) : Ok SX SG (d + 5) m_X8_doWithAgains 52 [some (.ref 113), some (.int a1), some (.int s2_52), none, some (.int s4_52), some (.int s5_52), none] [.int t0_52] SG m (f_X8_doWithAgains_J52 N a1  X s2_52 s4_52 s5_52 t0_52 m) := by
  unfold f_X8_doWithAgains_J52
  refine ok_istore 54 6 [some (.ref 113), some (.int a1), some (.int s2_52), none, some (.int s4_52), some (.int s5_52), some (.int t0_52)] dX8_doWithAgains_52 rfl (by decide) rfl ?_
  refine ok_aload_n 55 0 dX8_doWithAgains_54 rfl rfl rfl ?_
  refine ok_iload_n 56 1 dX8_doWithAgains_55 rfl rfl rfl ?_
  refine ok_iload 58 5 dX8_doWithAgains_56 rfl rfl ?_
  refine ok_iload 60 6 dX8_doWithAgains_58 rfl rfl ?_
  refine ok_callVv (np := 3) (M' := m_X8_noteDone) (As := [.int a1, .int s5_52, .int t0_52]) (st := []) 63 dX8_doWithAgains_60 rfl rfl km_X8_noteDone ki_X8_noteDone kv_X8_noteDone ml_Encores_Stage_79 (by decide) sg_113 rfl (Nat.le_of_ble_eq_true rfl) rfl rfl rfl (Nat.le_of_ble_eq_true rfl) (c_X8_noteDone N (d + 2) a1 s5_52 t0_52 m) ⟨Nat.le_refl _, Nat.le_refl _⟩ (Or.inl rfl) rfl (fun _ m_60 _ => ?_)
  refine ok_iinc 66 2 1 [some (.ref 113), some (.int a1), some (.int (s2_52 + 1)), none, some (.int s4_52), some (.int s5_52), some (.int t0_52)] dX8_doWithAgains_63 rfl rfl rfl (by decide) rfl ?_
  refine ok_iload 68 5 dX8_doWithAgains_66 rfl rfl ?_
  refine ok_if_ne 97 71 dX8_doWithAgains_68 (by decide) rfl (fun _ => ?_) (fun _ => ?_)
  · refine ok_iconst 98 0 dX8_doWithAgains_97 rfl rfl ?_
    refine ok_istore_n 99 3 [some (.ref 113), some (.int a1), some (.int (s2_52 + 1)), some (.int 0), some (.int s4_52), some (.int s5_52), some (.int t0_52)] dX8_doWithAgains_98 rfl rfl (by decide) rfl ?_
    refine ok_iinc 102 4 1 [some (.ref 113), some (.int a1), some (.int (s2_52 + 1)), some (.int 0), some (.int (s4_52 + 1)), some (.int s5_52), some (.int t0_52)] dX8_doWithAgains_99 rfl rfl rfl (by decide) rfl ?_
    refine ok_goto 7 dX8_doWithAgains_102 (by decide) ?_
    exact ok_less [some (.ref 113), some (.int a1), some (.int (s2_52 + 1)), some (.int 0), some (.int (s4_52 + 1)), none, none] (And.intro rfl (And.intro rfl (And.intro rfl (And.intro rfl (And.intro rfl (trivial)))))) (hX (s2_52 + 1) 0 (s4_52 + 1) m_60)
  · refine ok_iload 73 6 dX8_doWithAgains_71 rfl rfl ?_
    refine ok_aload_n 74 0 dX8_doWithAgains_73 rfl rfl rfl ?_
    refine ok_getR 77 dX8_doWithAgains_74 rfl rfl F_Encores_Stage_18 sg_113 rfl (Nat.le_of_ble_eq_true rfl) rfl rfl ?_
    refine ok_callVi (np := 0) (M' := m_X1_handsDue) (As := []) (st := [.int t0_52]) 80 dX8_doWithAgains_77 rfl rfl km_X1_handsDue ki_X1_handsDue kv_X1_handsDue ml_Encores_Stage_83 (by decide) sg_2 rfl (Nat.le_of_ble_eq_true rfl) rfl rfl rfl (Nat.le_of_ble_eq_true rfl) (c_X1_handsDue N (d + 3) m_60) ⟨Nat.le_refl _, Nat.le_refl _⟩ (Or.inl rfl) rfl (fun r_77 m_77 _ => ?_)
    refine ok_icmp_lt 97 83 dX8_doWithAgains_80 (by decide) rfl (fun _ => ?_) (fun _ => ?_)
    · refine ok_iconst 98 0 dX8_doWithAgains_97 rfl rfl ?_
      refine ok_istore_n 99 3 [some (.ref 113), some (.int a1), some (.int (s2_52 + 1)), some (.int 0), some (.int s4_52), some (.int s5_52), some (.int t0_52)] dX8_doWithAgains_98 rfl rfl (by decide) rfl ?_
      refine ok_iinc 102 4 1 [some (.ref 113), some (.int a1), some (.int (s2_52 + 1)), some (.int 0), some (.int (s4_52 + 1)), some (.int s5_52), some (.int t0_52)] dX8_doWithAgains_99 rfl rfl rfl (by decide) rfl ?_
      refine ok_goto 7 dX8_doWithAgains_102 (by decide) ?_
      exact ok_less [some (.ref 113), some (.int a1), some (.int (s2_52 + 1)), some (.int 0), some (.int (s4_52 + 1)), none, none] (And.intro rfl (And.intro rfl (And.intro rfl (And.intro rfl (And.intro rfl (trivial)))))) (hX (s2_52 + 1) 0 (s4_52 + 1) m_77)
    · refine ok_aload_n 84 0 dX8_doWithAgains_83 rfl rfl rfl ?_
      refine ok_getR 87 dX8_doWithAgains_84 rfl rfl F_Encores_Stage_18 sg_113 rfl (Nat.le_of_ble_eq_true rfl) rfl rfl ?_
      refine ok_callVi (np := 0) (M' := m_X1_mayGoOn) (As := []) (st := []) 90 dX8_doWithAgains_87 rfl rfl km_X1_mayGoOn ki_X1_mayGoOn kv_X1_mayGoOn ml_Encores_Stage_86 (by decide) sg_2 rfl (Nat.le_of_ble_eq_true rfl) rfl rfl rfl (Nat.le_of_ble_eq_true rfl) (c_X1_mayGoOn N (d + 1) m_77) ⟨Nat.le_refl _, Nat.le_refl _⟩ (Or.inl rfl) rfl (fun r_87 m_87 _ => ?_)
      refine ok_if_eq 97 93 dX8_doWithAgains_90 (by decide) rfl (fun _ => ?_) (fun _ => ?_)
      · refine ok_iconst 98 0 dX8_doWithAgains_97 rfl rfl ?_
        refine ok_istore_n 99 3 [some (.ref 113), some (.int a1), some (.int (s2_52 + 1)), some (.int 0), some (.int s4_52), some (.int s5_52), some (.int t0_52)] dX8_doWithAgains_98 rfl rfl (by decide) rfl ?_
        refine ok_iinc 102 4 1 [some (.ref 113), some (.int a1), some (.int (s2_52 + 1)), some (.int 0), some (.int (s4_52 + 1)), some (.int s5_52), some (.int t0_52)] dX8_doWithAgains_99 rfl rfl rfl (by decide) rfl ?_
        refine ok_goto 7 dX8_doWithAgains_102 (by decide) ?_
        exact ok_less [some (.ref 113), some (.int a1), some (.int (s2_52 + 1)), some (.int 0), some (.int (s4_52 + 1)), none, none] (And.intro rfl (And.intro rfl (And.intro rfl (And.intro rfl (And.intro rfl (trivial)))))) (hX (s2_52 + 1) 0 (s4_52 + 1) m_87)
      · refine ok_iconst 94 1 dX8_doWithAgains_93 rfl rfl ?_
        refine ok_goto 98 dX8_doWithAgains_94 (by decide) ?_
        refine ok_istore_n 99 3 [some (.ref 113), some (.int a1), some (.int (s2_52 + 1)), some (.int 1), some (.int s4_52), some (.int s5_52), some (.int t0_52)] dX8_doWithAgains_98 rfl rfl (by decide) rfl ?_
        refine ok_iinc 102 4 1 [some (.ref 113), some (.int a1), some (.int (s2_52 + 1)), some (.int 1), some (.int (s4_52 + 1)), some (.int s5_52), some (.int t0_52)] dX8_doWithAgains_99 rfl rfl rfl (by decide) rfl ?_
        refine ok_goto 7 dX8_doWithAgains_102 (by decide) ?_
        exact ok_less [some (.ref 113), some (.int a1), some (.int (s2_52 + 1)), some (.int 1), some (.int (s4_52 + 1)), none, none] (And.intro rfl (And.intro rfl (And.intro rfl (And.intro rfl (And.intro rfl (trivial)))))) (hX (s2_52 + 1) 1 (s4_52 + 1) m_87)

set_option maxRecDepth 100000 in
set_option maxHeartbeats 4000000 in
theorem ok_X8_doWithAgains_L7 (N d : Nat) (a1 : Int32)    : ∀ (n : Nat) (s2_7 : Int32) (s3_7 : Int32) (s4_7 : Int32) (m : Mem), Ok SX SG (d + 5) m_X8_doWithAgains 7 [some (.ref 113), some (.int a1), some (.int s2_7), some (.int s3_7), some (.int s4_7), none, none] [] SG m (it3 (f_X8_doWithAgains_L7 N a1) n s2_7 s3_7 s4_7 m) :=
  ok_it3 (fun s2_7 s3_7 s4_7 => [some (.ref 113), some (.int a1), some (.int s2_7), some (.int s3_7), some (.int s4_7), none, none]) (fun X hX s2_7 s3_7 s4_7 m => by
    try unfold f_X8_doWithAgains_L7
    refine ok_iload 9 4 dX8_doWithAgains_7 rfl rfl ?_
    refine ok_bipush 11 20 dX8_doWithAgains_9 rfl rfl ?_
    refine ok_icmp_gt 105 14 dX8_doWithAgains_11 (by decide) rfl (fun _ => ?_) (fun _ => ?_)
    · refine ok_iload_n 106 2 dX8_doWithAgains_105 rfl rfl rfl ?_
      exact ok_iret dX8_doWithAgains_106 rfl
    · refine ok_iload_n 15 3 dX8_doWithAgains_14 rfl rfl rfl ?_
      refine ok_if_eq 105 18 dX8_doWithAgains_15 (by decide) rfl (fun _ => ?_) (fun _ => ?_)
      · refine ok_iload_n 106 2 dX8_doWithAgains_105 rfl rfl rfl ?_
        exact ok_iret dX8_doWithAgains_106 rfl
      · refine ok_aload_n 19 0 dX8_doWithAgains_18 rfl rfl rfl ?_
        refine ok_iload_n 20 1 dX8_doWithAgains_19 rfl rfl rfl ?_
        refine ok_callVv (np := 1) (M' := m_X8_begin) (As := [.int a1]) (st := []) 23 dX8_doWithAgains_20 rfl rfl km_X8_begin ki_X8_begin kv_X8_begin ml_Encores_Stage_62 (by decide) sg_113 rfl (Nat.le_of_ble_eq_true rfl) rfl rfl rfl (Nat.le_of_ble_eq_true rfl) (c_X8_begin N (d + 0) a1 m) ⟨Nat.le_refl _, Nat.le_refl _⟩ (Or.inl rfl) rfl (fun _ m_20 _ => ?_)
        refine ok_aload_n 24 0 dX8_doWithAgains_23 rfl rfl rfl ?_
        refine ok_callVv (np := 0) (M' := m_X8_drawEach) (As := []) (st := []) 27 dX8_doWithAgains_24 rfl rfl km_X8_drawEach ki_X8_drawEach kv_X8_drawEach ml_Encores_Stage_66 (by decide) sg_113 rfl (Nat.le_of_ble_eq_true rfl) rfl rfl rfl (Nat.le_of_ble_eq_true rfl) (c_X8_drawEach N (d + 1) m_20) ⟨Nat.le_refl _, Nat.le_refl _⟩ (Or.inl rfl) rfl (fun _ m_24 _ => ?_)
        refine ok_aload_n 28 0 dX8_doWithAgains_27 rfl rfl rfl ?_
        refine ok_iload_n 29 1 dX8_doWithAgains_28 rfl rfl rfl ?_
        refine ok_callVv (np := 1) (M' := m_X8_applaud) (As := [.int a1]) (st := []) 32 dX8_doWithAgains_29 rfl rfl km_X8_applaud ki_X8_applaud kv_X8_applaud ml_Encores_Stage_69 (by decide) sg_113 rfl (Nat.le_of_ble_eq_true rfl) rfl rfl rfl (Nat.le_of_ble_eq_true rfl) (c_X8_applaud N (d + 0) a1 m_24) ⟨Nat.le_refl _, Nat.le_refl _⟩ (Or.inl rfl) rfl (fun _ m_29 _ => ?_)
        refine ok_aload_n 33 0 dX8_doWithAgains_32 rfl rfl rfl ?_
        refine ok_callVi (np := 0) (M' := m_X8_coughs) (As := []) (st := []) 36 dX8_doWithAgains_33 rfl rfl km_X8_coughs ki_X8_coughs kv_X8_coughs ml_Encores_Stage_72 (by decide) sg_113 rfl (Nat.le_of_ble_eq_true rfl) rfl rfl rfl (Nat.le_of_ble_eq_true rfl) (c_X8_coughs N (d + 1) m_29) ⟨Nat.le_refl _, Nat.le_refl _⟩ (Or.inl rfl) rfl (fun r_33 m_33 _ => ?_)
        refine ok_istore 38 5 [some (.ref 113), some (.int a1), some (.int s2_7), some (.int s3_7), some (.int s4_7), some (.int r_33), none] dX8_doWithAgains_36 rfl (by decide) rfl ?_
        refine ok_iload 40 5 dX8_doWithAgains_38 rfl rfl ?_
        refine ok_if_eq 47 43 dX8_doWithAgains_40 (by decide) rfl (fun _ => ?_) (fun _ => ?_)
        · refine ok_aload_n 48 0 dX8_doWithAgains_47 rfl rfl rfl ?_
          refine ok_iload_n 49 1 dX8_doWithAgains_48 rfl rfl rfl ?_
          refine ok_callVi (np := 1) (M' := m_X8_handsAt) (As := [.int a1]) (st := []) 52 dX8_doWithAgains_49 rfl rfl km_X8_handsAt ki_X8_handsAt kv_X8_handsAt ml_Encores_Stage_76 (by decide) sg_113 rfl (Nat.le_of_ble_eq_true rfl) rfl rfl rfl (Nat.le_of_ble_eq_true rfl) (c_X8_handsAt N (d + 0) a1 m_33) ⟨Nat.le_refl _, Nat.le_refl _⟩ (Or.inl rfl) rfl (fun r_49 m_49 _ => ?_)
          exact ok_less [some (.ref 113), some (.int a1), some (.int s2_7), none, some (.int s4_7), some (.int r_33), none] (And.intro rfl (And.intro rfl (And.intro rfl (And.intro rfl (And.intro rfl (trivial)))))) (ok_X8_doWithAgains_J52 N d a1   X hX s2_7 s4_7 r_33 r_49 m_49)
        · refine ok_iconst 44 0 dX8_doWithAgains_43 rfl rfl ?_
          refine ok_goto 52 dX8_doWithAgains_44 (by decide) ?_
          exact ok_less [some (.ref 113), some (.int a1), some (.int s2_7), none, some (.int s4_7), some (.int r_33), none] (And.intro rfl (And.intro rfl (And.intro rfl (And.intro rfl (And.intro rfl (trivial)))))) (ok_X8_doWithAgains_J52 N d a1   X hX s2_7 s4_7 r_33 0 m_33))

set_option maxRecDepth 100000 in
set_option maxHeartbeats 4000000 in
theorem ok_X8_doWithAgains (N d : Nat) (a1 : Int32)  (m : Mem) : Ok SX SG (d + 5) m_X8_doWithAgains 0 [some (.ref 113), some (.int a1), none, none, none, none, none] [] SG m (f_X8_doWithAgains N a1 m) := by
  unfold f_X8_doWithAgains
  refine ok_iconst 1 0 dX8_doWithAgains_0 rfl rfl ?_
  refine ok_istore_n 2 2 [some (.ref 113), some (.int a1), some (.int 0), none, none, none, none] dX8_doWithAgains_1 rfl rfl (by decide) rfl ?_
  refine ok_iconst 3 1 dX8_doWithAgains_2 rfl rfl ?_
  refine ok_istore_n 4 3 [some (.ref 113), some (.int a1), some (.int 0), some (.int 1), none, none, none] dX8_doWithAgains_3 rfl rfl (by decide) rfl ?_
  refine ok_iconst 5 0 dX8_doWithAgains_4 rfl rfl ?_
  refine ok_istore 7 4 [some (.ref 113), some (.int a1), some (.int 0), some (.int 1), some (.int 0), none, none] dX8_doWithAgains_5 rfl (by decide) rfl ?_
  refine ok_less [some (.ref 113), some (.int a1), some (.int 0), some (.int 1), some (.int 0), none, none] (And.intro rfl (And.intro rfl (And.intro rfl (And.intro rfl (And.intro rfl (trivial)))))) ?_
  exact ok_X8_doWithAgains_L7 N d a1    N 0 1 0 m

theorem c_X8_doWithAgains (N d : Nat) (a1 : Int32)  (m : Mem) : CM SX (d + 5) m_X8_doWithAgains SG SG [.ref 113, .int a1] m (f_X8_doWithAgains N a1 m) :=
  CM.ofOk km_X8_doWithAgains ⟨Nat.le_refl _, Nat.le_refl _⟩ (by simp [Value.category]) (Nat.le_of_ble_eq_true rfl) (ok_X8_doWithAgains N d a1 m)

def f_X8_spendEvening_L31 (N : Nat)   (K119 : Int32 → Mem → Ans) (X : Int32 → Int32 → Mem → Ans) (s1_31 : Int32) (s2_31 : Int32) (m : Mem) : Ans :=
if (m 17 3) ≤ s2_31 then (K119 s1_31 m)
else (bd (f_X1_hour N 0 m) fun r_55 m_55 =>
bd (f_X9_at N 17 s2_31 1 m_55) fun r_67 m_67 =>
bd (f_X1_setHour N 0 (if r_55 < r_67 then r_67 else r_55) m_67) fun _ m_73 =>
bd (f_X1_hour N 0 m_73) fun r_81 m_81 =>
bd (f_X1_endMinute N m_81) fun r_88 m_88 =>
if r_88 ≤ r_81 then (X s1_31 (s2_31 + 1) m_88)
else (bd (f_X9_at N 17 s2_31 2 m_88) fun r_105 m_105 =>
bd (f_X8_doWithAgains N r_105 m_105) fun r_108 m_108 =>
bnd (s1_31 + r_108) fun a1_112 =>
X a1_112 (s2_31 + 1) m_108))

def f_X8_spendEvening (N : Nat)  (m : Mem) : Ans :=
bd (f_X1_setHour N 0 0 m) fun _ m_6 =>
bd (f_X1_setHour N 4 (-1) m_6) fun _ m_15 =>
bd (f_X1_setHour N 5 0 m_15) fun _ m_24 =>
it2 (f_X8_spendEvening_L31 N (fun k1_119 mk119 => bd (f_X1_hour N 1 mk119) fun r_129 m_129 =>
bd (f_X1_setHour N 1 (r_129 + (1 : Int32)) m_129) fun _ m_134 =>
some (k1_119, m_134))) N 0 0 m_24

set_option maxRecDepth 100000 in
set_option maxHeartbeats 4000000 in
theorem ok_X8_spendEvening_L31 (N d : Nat)    (K119 : Int32 → Mem → Ans) (hK119 : ∀ (k1 : Int32) (m : Mem), Ok SX SG (d + 6) m_X8_spendEvening 119 [some (.ref 113), some (.int k1), none] [] SG m (K119 k1 m)) : ∀ (n : Nat) (s1_31 : Int32) (s2_31 : Int32) (m : Mem), Ok SX SG (d + 6) m_X8_spendEvening 31 [some (.ref 113), some (.int s1_31), some (.int s2_31)] [] SG m (it2 (f_X8_spendEvening_L31 N K119) n s1_31 s2_31 m) :=
  ok_it2 (fun s1_31 s2_31 => [some (.ref 113), some (.int s1_31), some (.int s2_31)]) (fun X hX s1_31 s2_31 m => by
    try unfold f_X8_spendEvening_L31
    refine ok_iload_n 32 2 dX8_spendEvening_31 rfl rfl rfl ?_
    refine ok_aload_n 33 0 dX8_spendEvening_32 rfl rfl rfl ?_
    refine ok_getR 36 dX8_spendEvening_33 rfl rfl F_Encores_Stage_18 sg_113 rfl (Nat.le_of_ble_eq_true rfl) rfl rfl ?_
    refine ok_getR 39 dX8_spendEvening_36 rfl rfl F_Encores_Stage_32 sg_2 rfl (Nat.le_of_ble_eq_true rfl) rfl rfl ?_
    refine ok_getI 42 dX8_spendEvening_39 rfl rfl F_Encores_Stage_36 sg_17 rfl (Nat.le_of_ble_eq_true rfl) rfl ?_
    refine ok_icmp_ge 119 45 dX8_spendEvening_42 (by decide) rfl (fun _ => ?_) (fun _ => ?_)
    · exact ok_less [some (.ref 113), some (.int s1_31), none] (And.intro rfl (And.intro rfl (trivial))) (hK119 s1_31 m)
    · refine ok_aload_n 46 0 dX8_spendEvening_45 rfl rfl rfl ?_
      refine ok_getR 49 dX8_spendEvening_46 rfl rfl F_Encores_Stage_18 sg_113 rfl (Nat.le_of_ble_eq_true rfl) rfl rfl ?_
      refine ok_iconst 50 0 dX8_spendEvening_49 rfl rfl ?_
      refine ok_aload_n 51 0 dX8_spendEvening_50 rfl rfl rfl ?_
      refine ok_getR 54 dX8_spendEvening_51 rfl rfl F_Encores_Stage_18 sg_113 rfl (Nat.le_of_ble_eq_true rfl) rfl rfl ?_
      refine ok_iconst 55 0 dX8_spendEvening_54 rfl rfl ?_
      refine ok_callVi (np := 1) (M' := m_X1_hour) (As := [.int 0]) (st := [.int 0, .ref 2]) 58 dX8_spendEvening_55 rfl rfl km_X1_hour ki_X1_hour kv_X1_hour ml_Encores_Stage_42 (by decide) sg_2 rfl (Nat.le_of_ble_eq_true rfl) rfl rfl rfl (Nat.le_of_ble_eq_true rfl) (c_X1_hour N (d + 4) 0 m) ⟨Nat.le_refl _, Nat.le_refl _⟩ (Or.inl rfl) rfl (fun r_55 m_55 _ => ?_)
      refine ok_aload_n 59 0 dX8_spendEvening_58 rfl rfl rfl ?_
      refine ok_getR 62 dX8_spendEvening_59 rfl rfl F_Encores_Stage_18 sg_113 rfl (Nat.le_of_ble_eq_true rfl) rfl rfl ?_
      refine ok_getR 65 dX8_spendEvening_62 rfl rfl F_Encores_Stage_32 sg_2 rfl (Nat.le_of_ble_eq_true rfl) rfl rfl ?_
      refine ok_iload_n 66 2 dX8_spendEvening_65 rfl rfl rfl ?_
      refine ok_iconst 67 1 dX8_spendEvening_66 rfl rfl ?_
      refine ok_callVi (np := 2) (M' := m_X9_at) (As := [.int s2_31, .int 1]) (st := [.int r_55, .int 0, .ref 2]) 70 dX8_spendEvening_67 rfl rfl km_X9_at ki_X9_at kv_X9_at ml_Encores_Stage_46 (by decide) sg_17 rfl (Nat.le_of_ble_eq_true rfl) rfl rfl rfl (Nat.le_of_ble_eq_true rfl) (c_X9_at N (d + 5) 17 s2_31 1 tg_17 m_55) ⟨Nat.le_refl _, Nat.le_refl _⟩ (Or.inl rfl) rfl (fun r_67 m_67 _ => ?_)
      refine ok_max 73 ⟨Nat.le_refl _, Nat.le_refl _⟩ dX8_spendEvening_70 rfl rfl ml_Encores_Stage_50 (Nat.le_of_ble_eq_true rfl) ?_
      refine ok_callVv (np := 2) (M' := m_X1_setHour) (As := [.int 0, .int (if r_55 < r_67 then r_67 else r_55)]) (st := []) 76 dX8_spendEvening_73 rfl rfl km_X1_setHour ki_X1_setHour kv_X1_setHour ml_Encores_Stage_26 (by decide) sg_2 rfl (Nat.le_of_ble_eq_true rfl) rfl rfl rfl (Nat.le_of_ble_eq_true rfl) (c_X1_setHour N (d + 4) 0 (if r_55 < r_67 then r_67 else r_55) m_67) ⟨Nat.le_refl _, Nat.le_refl _⟩ (Or.inl rfl) rfl (fun _ m_73 _ => ?_)
      refine ok_aload_n 77 0 dX8_spendEvening_76 rfl rfl rfl ?_
      refine ok_getR 80 dX8_spendEvening_77 rfl rfl F_Encores_Stage_18 sg_113 rfl (Nat.le_of_ble_eq_true rfl) rfl rfl ?_
      refine ok_iconst 81 0 dX8_spendEvening_80 rfl rfl ?_
      refine ok_callVi (np := 1) (M' := m_X1_hour) (As := [.int 0]) (st := []) 84 dX8_spendEvening_81 rfl rfl km_X1_hour ki_X1_hour kv_X1_hour ml_Encores_Stage_42 (by decide) sg_2 rfl (Nat.le_of_ble_eq_true rfl) rfl rfl rfl (Nat.le_of_ble_eq_true rfl) (c_X1_hour N (d + 4) 0 m_73) ⟨Nat.le_refl _, Nat.le_refl _⟩ (Or.inl rfl) rfl (fun r_81 m_81 _ => ?_)
      refine ok_aload_n 85 0 dX8_spendEvening_84 rfl rfl rfl ?_
      refine ok_getR 88 dX8_spendEvening_85 rfl rfl F_Encores_Stage_18 sg_113 rfl (Nat.le_of_ble_eq_true rfl) rfl rfl ?_
      refine ok_callVi (np := 0) (M' := m_X1_endMinute) (As := []) (st := [.int r_81]) 91 dX8_spendEvening_88 rfl rfl km_X1_endMinute ki_X1_endMinute kv_X1_endMinute ml_Encores_Stage_55 (by decide) sg_2 rfl (Nat.le_of_ble_eq_true rfl) rfl rfl rfl (Nat.le_of_ble_eq_true rfl) (c_X1_endMinute N (d + 3) m_81) ⟨Nat.le_refl _, Nat.le_refl _⟩ (Or.inl rfl) rfl (fun r_88 m_88 _ => ?_)
      refine ok_icmp_ge 113 94 dX8_spendEvening_91 (by decide) rfl (fun _ => ?_) (fun _ => ?_)
      · refine ok_iinc 116 2 1 [some (.ref 113), some (.int s1_31), some (.int (s2_31 + 1))] dX8_spendEvening_113 rfl rfl rfl (by decide) rfl ?_
        refine ok_goto 31 dX8_spendEvening_116 (by decide) ?_
        exact ok_less [some (.ref 113), some (.int s1_31), some (.int (s2_31 + 1))] (And.intro rfl (And.intro rfl (And.intro rfl (trivial)))) (hX s1_31 (s2_31 + 1) m_88)
      · refine ok_iload_n 95 1 dX8_spendEvening_94 rfl rfl rfl ?_
        refine ok_aload_n 96 0 dX8_spendEvening_95 rfl rfl rfl ?_
        refine ok_aload_n 97 0 dX8_spendEvening_96 rfl rfl rfl ?_
        refine ok_getR 100 dX8_spendEvening_97 rfl rfl F_Encores_Stage_18 sg_113 rfl (Nat.le_of_ble_eq_true rfl) rfl rfl ?_
        refine ok_getR 103 dX8_spendEvening_100 rfl rfl F_Encores_Stage_32 sg_2 rfl (Nat.le_of_ble_eq_true rfl) rfl rfl ?_
        refine ok_iload_n 104 2 dX8_spendEvening_103 rfl rfl rfl ?_
        refine ok_iconst 105 2 dX8_spendEvening_104 rfl rfl ?_
        refine ok_callVi (np := 2) (M' := m_X9_at) (As := [.int s2_31, .int 2]) (st := [.ref 113, .int s1_31]) 108 dX8_spendEvening_105 rfl rfl km_X9_at ki_X9_at kv_X9_at ml_Encores_Stage_46 (by decide) sg_17 rfl (Nat.le_of_ble_eq_true rfl) rfl rfl rfl (Nat.le_of_ble_eq_true rfl) (c_X9_at N (d + 5) 17 s2_31 2 tg_17 m_88) ⟨Nat.le_refl _, Nat.le_refl _⟩ (Or.inl rfl) rfl (fun r_105 m_105 _ => ?_)
        refine ok_callVi (np := 1) (M' := m_X8_doWithAgains) (As := [.int r_105]) (st := [.int s1_31]) 111 dX8_spendEvening_108 rfl rfl km_X8_doWithAgains ki_X8_doWithAgains kv_X8_doWithAgains ml_Encores_Stage_59 (by decide) sg_113 rfl (Nat.le_of_ble_eq_true rfl) rfl rfl rfl (Nat.le_of_ble_eq_true rfl) (c_X8_doWithAgains N (d + 0) r_105 m_105) ⟨Nat.le_refl _, Nat.le_refl _⟩ (Or.inl rfl) rfl (fun r_108 m_108 _ => ?_)
        refine ok_iadd 112 dX8_spendEvening_111 rfl ?_
        refine ok_bndI (fun a1_112 => ?_)
        refine ok_istore_n 113 1 [some (.ref 113), some (.int a1_112), some (.int s2_31)] dX8_spendEvening_112 rfl rfl (by decide) rfl ?_
        refine ok_iinc 116 2 1 [some (.ref 113), some (.int a1_112), some (.int (s2_31 + 1))] dX8_spendEvening_113 rfl rfl rfl (by decide) rfl ?_
        refine ok_goto 31 dX8_spendEvening_116 (by decide) ?_
        exact ok_less [some (.ref 113), some (.int a1_112), some (.int (s2_31 + 1))] (And.intro rfl (And.intro rfl (And.intro rfl (trivial)))) (hX a1_112 (s2_31 + 1) m_108))

set_option maxRecDepth 100000 in
set_option maxHeartbeats 4000000 in
theorem ok_X8_spendEvening (N d : Nat)   (m : Mem) : Ok SX SG (d + 6) m_X8_spendEvening 0 [some (.ref 113), none, none] [] SG m (f_X8_spendEvening N m) := by
  unfold f_X8_spendEvening
  refine ok_aload_n 1 0 dX8_spendEvening_0 rfl rfl rfl ?_
  refine ok_getR 4 dX8_spendEvening_1 rfl rfl F_Encores_Stage_18 sg_113 rfl (Nat.le_of_ble_eq_true rfl) rfl rfl ?_
  refine ok_iconst 5 0 dX8_spendEvening_4 rfl rfl ?_
  refine ok_iconst 6 0 dX8_spendEvening_5 rfl rfl ?_
  refine ok_callVv (np := 2) (M' := m_X1_setHour) (As := [.int 0, .int 0]) (st := []) 9 dX8_spendEvening_6 rfl rfl km_X1_setHour ki_X1_setHour kv_X1_setHour ml_Encores_Stage_26 (by decide) sg_2 rfl (Nat.le_of_ble_eq_true rfl) rfl rfl rfl (Nat.le_of_ble_eq_true rfl) (c_X1_setHour N (d + 4) 0 0 m) ⟨Nat.le_refl _, Nat.le_refl _⟩ (Or.inl rfl) rfl (fun _ m_6 _ => ?_)
  refine ok_aload_n 10 0 dX8_spendEvening_9 rfl rfl rfl ?_
  refine ok_getR 13 dX8_spendEvening_10 rfl rfl F_Encores_Stage_18 sg_113 rfl (Nat.le_of_ble_eq_true rfl) rfl rfl ?_
  refine ok_iconst 14 4 dX8_spendEvening_13 rfl rfl ?_
  refine ok_iconst 15 (-1) dX8_spendEvening_14 rfl rfl ?_
  refine ok_callVv (np := 2) (M' := m_X1_setHour) (As := [.int 4, .int (-1)]) (st := []) 18 dX8_spendEvening_15 rfl rfl km_X1_setHour ki_X1_setHour kv_X1_setHour ml_Encores_Stage_26 (by decide) sg_2 rfl (Nat.le_of_ble_eq_true rfl) rfl rfl rfl (Nat.le_of_ble_eq_true rfl) (c_X1_setHour N (d + 4) 4 (-1) m_6) ⟨Nat.le_refl _, Nat.le_refl _⟩ (Or.inl rfl) rfl (fun _ m_15 _ => ?_)
  refine ok_aload_n 19 0 dX8_spendEvening_18 rfl rfl rfl ?_
  refine ok_getR 22 dX8_spendEvening_19 rfl rfl F_Encores_Stage_18 sg_113 rfl (Nat.le_of_ble_eq_true rfl) rfl rfl ?_
  refine ok_iconst 23 5 dX8_spendEvening_22 rfl rfl ?_
  refine ok_iconst 24 0 dX8_spendEvening_23 rfl rfl ?_
  refine ok_callVv (np := 2) (M' := m_X1_setHour) (As := [.int 5, .int 0]) (st := []) 27 dX8_spendEvening_24 rfl rfl km_X1_setHour ki_X1_setHour kv_X1_setHour ml_Encores_Stage_26 (by decide) sg_2 rfl (Nat.le_of_ble_eq_true rfl) rfl rfl rfl (Nat.le_of_ble_eq_true rfl) (c_X1_setHour N (d + 4) 5 0 m_15) ⟨Nat.le_refl _, Nat.le_refl _⟩ (Or.inl rfl) rfl (fun _ m_24 _ => ?_)
  refine ok_iconst 28 0 dX8_spendEvening_27 rfl rfl ?_
  refine ok_istore_n 29 1 [some (.ref 113), some (.int 0), none] dX8_spendEvening_28 rfl rfl (by decide) rfl ?_
  refine ok_iconst 30 0 dX8_spendEvening_29 rfl rfl ?_
  refine ok_istore_n 31 2 [some (.ref 113), some (.int 0), some (.int 0)] dX8_spendEvening_30 rfl rfl (by decide) rfl ?_
  refine ok_less [some (.ref 113), some (.int 0), some (.int 0)] (And.intro rfl (And.intro rfl (And.intro rfl (trivial)))) ?_
  exact ok_X8_spendEvening_L31 N d   _ (fun k1_119 mk119 => by
      refine ok_aload_n 120 0 dX8_spendEvening_119 rfl rfl rfl ?_
      refine ok_getR 123 dX8_spendEvening_120 rfl rfl F_Encores_Stage_18 sg_113 rfl (Nat.le_of_ble_eq_true rfl) rfl rfl ?_
      refine ok_iconst 124 1 dX8_spendEvening_123 rfl rfl ?_
      refine ok_aload_n 125 0 dX8_spendEvening_124 rfl rfl rfl ?_
      refine ok_getR 128 dX8_spendEvening_125 rfl rfl F_Encores_Stage_18 sg_113 rfl (Nat.le_of_ble_eq_true rfl) rfl rfl ?_
      refine ok_iconst 129 1 dX8_spendEvening_128 rfl rfl ?_
      refine ok_callVi (np := 1) (M' := m_X1_hour) (As := [.int 1]) (st := [.int 1, .ref 2]) 132 dX8_spendEvening_129 rfl rfl km_X1_hour ki_X1_hour kv_X1_hour ml_Encores_Stage_42 (by decide) sg_2 rfl (Nat.le_of_ble_eq_true rfl) rfl rfl rfl (Nat.le_of_ble_eq_true rfl) (c_X1_hour N (d + 4) 1 mk119) ⟨Nat.le_refl _, Nat.le_refl _⟩ (Or.inl rfl) rfl (fun r_129 m_129 _ => ?_)
      refine ok_iconst 133 1 dX8_spendEvening_132 rfl rfl ?_
      refine ok_iadd 134 dX8_spendEvening_133 rfl ?_
      refine ok_callVv (np := 2) (M' := m_X1_setHour) (As := [.int 1, .int (r_129 + (1 : Int32))]) (st := []) 137 dX8_spendEvening_134 rfl rfl km_X1_setHour ki_X1_setHour kv_X1_setHour ml_Encores_Stage_26 (by decide) sg_2 rfl (Nat.le_of_ble_eq_true rfl) rfl rfl rfl (Nat.le_of_ble_eq_true rfl) (c_X1_setHour N (d + 4) 1 (r_129 + (1 : Int32)) m_129) ⟨Nat.le_refl _, Nat.le_refl _⟩ (Or.inl rfl) rfl (fun _ m_134 _ => ?_)
      refine ok_iload_n 138 1 dX8_spendEvening_137 rfl rfl rfl ?_
      exact ok_iret dX8_spendEvening_138 rfl) N 0 0 m_24

theorem c_X8_spendEvening (N d : Nat)   (m : Mem) : CM SX (d + 6) m_X8_spendEvening SG SG [.ref 113] m (f_X8_spendEvening N m) :=
  CM.ofOk km_X8_spendEvening ⟨Nat.le_refl _, Nat.le_refl _⟩ (by simp [Value.category]) (Nat.le_of_ble_eq_true rfl) (ok_X8_spendEvening N d  m)

def f_X10_hasRoom (N : Nat) (a1 : Int32) (m : Mem) : Ans :=
if (400 : Int32) < ((m 99 2) + a1) then (some (0, m))
else (some (1, m))

set_option maxRecDepth 100000 in
set_option maxHeartbeats 4000000 in
theorem ok_X10_hasRoom (N d : Nat) (a1 : Int32)  (m : Mem) : Ok SX SG (d + 0) m_X10_hasRoom 0 [some (.ref 99), some (.int a1)] [] SG m (f_X10_hasRoom N a1 m) := by
  unfold f_X10_hasRoom
  refine ok_aload_n 1 0 dX10_hasRoom_0 rfl rfl rfl ?_
  refine ok_getI 4 dX10_hasRoom_1 rfl rfl F_Encores_Tape_24 sg_99 rfl (Nat.le_of_ble_eq_true rfl) rfl ?_
  refine ok_iload_n 5 1 dX10_hasRoom_4 rfl rfl rfl ?_
  refine ok_iadd 6 dX10_hasRoom_5 rfl ?_
  refine ok_aload_n 7 0 dX10_hasRoom_6 rfl rfl rfl ?_
  refine ok_getR 10 dX10_hasRoom_7 rfl rfl F_Encores_Tape_9 sg_99 rfl (Nat.le_of_ble_eq_true rfl) rfl rfl ?_
  refine ok_alen 11 dX10_hasRoom_10 rfl sg_100 ?_
  rw [show Int32.ofNat 400 = 400 from rfl]
  refine ok_icmp_gt 18 14 dX10_hasRoom_11 (by decide) rfl (fun _ => ?_) (fun _ => ?_)
  · refine ok_iconst 19 0 dX10_hasRoom_18 rfl rfl ?_
    exact ok_zretc dX10_hasRoom_19 rfl rfl
  · refine ok_iconst 15 1 dX10_hasRoom_14 rfl rfl ?_
    refine ok_goto 19 dX10_hasRoom_15 (by decide) ?_
    exact ok_zretc dX10_hasRoom_19 rfl rfl

theorem c_X10_hasRoom (N d : Nat) (a1 : Int32)  (m : Mem) : CM SX (d + 0) m_X10_hasRoom SG SG [.ref 99, .int a1] m (f_X10_hasRoom N a1 m) :=
  CM.ofOk km_X10_hasRoom ⟨Nat.le_refl _, Nat.le_refl _⟩ (by simp [Value.category]) (Nat.le_of_ble_eq_true rfl) (ok_X10_hasRoom N d a1 m)

def f_X10_append_L3 (N : Nat) (a1 : Int32)   (X : Int32 → Mem → Ans) (s2_3 : Int32) (m : Mem) : Ans :=
if s2_3 < 0 then (some (0, m))
else (if (m 99 2) < 0 then (X (s2_3 + (-8)) m)
else (if (400 : Int32) ≤ (m 99 2) then (X (s2_3 + (-8)) m)
else (chk (inb (m 99 2) 400) <|
bnd (mset m 100 (m 99 2).toNatClampNeg ((a1 >>> (s2_3 &&& 31)) &&& (255 : Int32))) fun m_41 =>
bnd (mset m_41 99 2 ((m_41 99 2) + (1 : Int32))) fun m_49 =>
X (s2_3 + (-8)) m_49)))

def f_X10_append (N : Nat) (a1 : Int32) (m : Mem) : Ans :=
it1 (f_X10_append_L3 N a1 ) N 24 m

set_option maxRecDepth 100000 in
set_option maxHeartbeats 4000000 in
theorem ok_X10_append_L3 (N d : Nat) (a1 : Int32)    : ∀ (n : Nat) (s2_3 : Int32) (m : Mem), Ok SX SG (d + 0) m_X10_append 3 [some (.ref 99), some (.int a1), some (.int s2_3)] [] SG m (it1 (f_X10_append_L3 N a1) n s2_3 m) :=
  ok_it1 (fun s2_3 => [some (.ref 99), some (.int a1), some (.int s2_3)]) (fun X hX s2_3 m => by
    try unfold f_X10_append_L3
    refine ok_iload_n 4 2 dX10_append_3 rfl rfl rfl ?_
    refine ok_if_lt 58 7 dX10_append_4 (by decide) rfl (fun _ => ?_) (fun _ => ?_)
    · exact ok_vret dX10_append_58 rfl
    · refine ok_aload_n 8 0 dX10_append_7 rfl rfl rfl ?_
      refine ok_getI 11 dX10_append_8 rfl rfl F_Encores_Tape_24 sg_99 rfl (Nat.le_of_ble_eq_true rfl) rfl ?_
      refine ok_if_lt 52 14 dX10_append_11 (by decide) rfl (fun _ => ?_) (fun _ => ?_)
      · refine ok_iinc 55 2 (-8) [some (.ref 99), some (.int a1), some (.int (s2_3 + (-8)))] dX10_append_52 rfl rfl rfl (by decide) rfl ?_
        refine ok_goto 3 dX10_append_55 (by decide) ?_
        exact ok_less [some (.ref 99), some (.int a1), some (.int (s2_3 + (-8)))] (And.intro rfl (And.intro rfl (And.intro rfl (trivial)))) (hX (s2_3 + (-8)) m)
      · refine ok_aload_n 15 0 dX10_append_14 rfl rfl rfl ?_
        refine ok_getI 18 dX10_append_15 rfl rfl F_Encores_Tape_24 sg_99 rfl (Nat.le_of_ble_eq_true rfl) rfl ?_
        refine ok_aload_n 19 0 dX10_append_18 rfl rfl rfl ?_
        refine ok_getR 22 dX10_append_19 rfl rfl F_Encores_Tape_9 sg_99 rfl (Nat.le_of_ble_eq_true rfl) rfl rfl ?_
        refine ok_alen 23 dX10_append_22 rfl sg_100 ?_
        rw [show Int32.ofNat 400 = 400 from rfl]
        refine ok_icmp_ge 52 26 dX10_append_23 (by decide) rfl (fun _ => ?_) (fun _ => ?_)
        · refine ok_iinc 55 2 (-8) [some (.ref 99), some (.int a1), some (.int (s2_3 + (-8)))] dX10_append_52 rfl rfl rfl (by decide) rfl ?_
          refine ok_goto 3 dX10_append_55 (by decide) ?_
          exact ok_less [some (.ref 99), some (.int a1), some (.int (s2_3 + (-8)))] (And.intro rfl (And.intro rfl (And.intro rfl (trivial)))) (hX (s2_3 + (-8)) m)
        · refine ok_aload_n 27 0 dX10_append_26 rfl rfl rfl ?_
          refine ok_getR 30 dX10_append_27 rfl rfl F_Encores_Tape_9 sg_99 rfl (Nat.le_of_ble_eq_true rfl) rfl rfl ?_
          refine ok_aload_n 31 0 dX10_append_30 rfl rfl rfl ?_
          refine ok_getI 34 dX10_append_31 rfl rfl F_Encores_Tape_24 sg_99 rfl (Nat.le_of_ble_eq_true rfl) rfl ?_
          refine ok_iload_n 35 1 dX10_append_34 rfl rfl rfl ?_
          refine ok_iload_n 36 2 dX10_append_35 rfl rfl rfl ?_
          refine ok_ishr 37 dX10_append_36 rfl ?_
          refine ok_sipush 40 255 dX10_append_37 rfl rfl ?_
          refine ok_iand 41 dX10_append_40 rfl ?_
          refine ok_iast 42 dX10_append_41 rfl sg_100 ?_
          refine ok_bndM (fun m_41 => ?_)
          refine ok_aload_n 43 0 dX10_append_42 rfl rfl rfl ?_
          refine ok_dup 44 dX10_append_43 rfl rfl ?_
          refine ok_getI 47 dX10_append_44 rfl rfl F_Encores_Tape_24 sg_99 rfl (Nat.le_of_ble_eq_true rfl) rfl ?_
          refine ok_iconst 48 1 dX10_append_47 rfl rfl ?_
          refine ok_iadd 49 dX10_append_48 rfl ?_
          refine ok_putI 52 dX10_append_49 rfl rfl F_Encores_Tape_24 sg_99 rfl (Nat.le_of_ble_eq_true rfl) rfl rfl pZ_10_2 rfl rfl ?_
          refine ok_bndM (fun m_49 => ?_)
          refine ok_iinc 55 2 (-8) [some (.ref 99), some (.int a1), some (.int (s2_3 + (-8)))] dX10_append_52 rfl rfl rfl (by decide) rfl ?_
          refine ok_goto 3 dX10_append_55 (by decide) ?_
          exact ok_less [some (.ref 99), some (.int a1), some (.int (s2_3 + (-8)))] (And.intro rfl (And.intro rfl (And.intro rfl (trivial)))) (hX (s2_3 + (-8)) m_49))

set_option maxRecDepth 100000 in
set_option maxHeartbeats 4000000 in
theorem ok_X10_append (N d : Nat) (a1 : Int32)  (m : Mem) : Ok SX SG (d + 0) m_X10_append 0 [some (.ref 99), some (.int a1), none] [] SG m (f_X10_append N a1 m) := by
  unfold f_X10_append
  refine ok_bipush 2 24 dX10_append_0 rfl rfl ?_
  refine ok_istore_n 3 2 [some (.ref 99), some (.int a1), some (.int 24)] dX10_append_2 rfl rfl (by decide) rfl ?_
  refine ok_less [some (.ref 99), some (.int a1), some (.int 24)] (And.intro rfl (And.intro rfl (And.intro rfl (trivial)))) ?_
  exact ok_X10_append_L3 N d a1    N 24 m

theorem c_X10_append (N d : Nat) (a1 : Int32)  (m : Mem) : CM SX (d + 0) m_X10_append SG SG [.ref 99, .int a1] m (f_X10_append N a1 m) :=
  CM.ofOk km_X10_append ⟨Nat.le_refl _, Nat.le_refl _⟩ (by simp [Value.category]) (Nat.le_of_ble_eq_true rfl) (ok_X10_append N d a1 m)

def f_X11_state (N : Nat) (a1 : Int32) (m : Mem) : Ans :=
bd (f_X1_hour N 6 m) fun r_6 m_6 =>
bd (f_X1_setHour N 6 a1 m_6) fun _ m_17 =>
bd (f_X4_forget N m_17) fun _ m_24 =>
some (r_6, m_24)

set_option maxRecDepth 100000 in
set_option maxHeartbeats 4000000 in
theorem ok_X11_state (N d : Nat) (a1 : Int32)  (m : Mem) : Ok SX SG (d + 2) m_X11_state 0 [some (.ref 0), some (.int a1), none] [] SG m (f_X11_state N a1 m) := by
  unfold f_X11_state
  refine ok_aload_n 1 0 dX11_state_0 rfl rfl rfl ?_
  refine ok_getR 4 dX11_state_1 rfl rfl F_Encores_16 sg_0 rfl (Nat.le_of_ble_eq_true rfl) rfl rfl ?_
  refine ok_bipush 6 6 dX11_state_4 rfl rfl ?_
  refine ok_callVi (np := 1) (M' := m_X1_hour) (As := [.int 6]) (st := []) 9 dX11_state_6 rfl rfl km_X1_hour ki_X1_hour kv_X1_hour ml_Encores_98 (by decide) sg_2 rfl (Nat.le_of_ble_eq_true rfl) rfl rfl rfl (Nat.le_of_ble_eq_true rfl) (c_X1_hour N (d + 0) 6 m) ⟨Nat.le_refl _, Nat.le_refl _⟩ (Or.inl rfl) rfl (fun r_6 m_6 _ => ?_)
  refine ok_istore_n 10 2 [some (.ref 0), some (.int a1), some (.int r_6)] dX11_state_9 rfl rfl (by decide) rfl ?_
  refine ok_aload_n 11 0 dX11_state_10 rfl rfl rfl ?_
  refine ok_getR 14 dX11_state_11 rfl rfl F_Encores_16 sg_0 rfl (Nat.le_of_ble_eq_true rfl) rfl rfl ?_
  refine ok_bipush 16 6 dX11_state_14 rfl rfl ?_
  refine ok_iload_n 17 1 dX11_state_16 rfl rfl rfl ?_
  refine ok_callVv (np := 2) (M' := m_X1_setHour) (As := [.int 6, .int a1]) (st := []) 20 dX11_state_17 rfl rfl km_X1_setHour ki_X1_setHour kv_X1_setHour ml_Encores_102 (by decide) sg_2 rfl (Nat.le_of_ble_eq_true rfl) rfl rfl rfl (Nat.le_of_ble_eq_true rfl) (c_X1_setHour N (d + 0) 6 a1 m_6) ⟨Nat.le_refl _, Nat.le_refl _⟩ (Or.inl rfl) rfl (fun _ m_17 _ => ?_)
  refine ok_aload_n 21 0 dX11_state_20 rfl rfl rfl ?_
  refine ok_getR 24 dX11_state_21 rfl rfl F_Encores_30 sg_0 rfl (Nat.le_of_ble_eq_true rfl) rfl rfl ?_
  refine ok_callVv (np := 0) (M' := m_X4_forget) (As := []) (st := []) 27 dX11_state_24 rfl rfl km_X4_forget ki_X4_forget kv_X4_forget ml_Encores_106 (by decide) sg_48 rfl (Nat.le_of_ble_eq_true rfl) rfl rfl rfl (Nat.le_of_ble_eq_true rfl) (c_X4_forget N (d + 1) m_17) ⟨Nat.le_refl _, Nat.le_refl _⟩ (Or.inl rfl) rfl (fun _ m_24 _ => ?_)
  refine ok_iload_n 28 2 dX11_state_27 rfl rfl rfl ?_
  exact ok_iret dX11_state_28 rfl

theorem c_X11_state (N d : Nat) (a1 : Int32)  (m : Mem) : CM SX (d + 2) m_X11_state SG SG [.ref 0, .int a1] m (f_X11_state N a1 m) :=
  CM.ofOk km_X11_state ⟨Nat.le_refl _, Nat.le_refl _⟩ (by simp [Value.category]) (Nat.le_of_ble_eq_true rfl) (ok_X11_state N d a1 m)

def f_X11_hearer (N : Nat) (a1 : Int32) (a2 : Int32) (a3 : Int32) (m : Mem) : Ans :=
bd (f_X11_within N a1 0 9 m) fun r_4 m_4 =>
if r_4 = 0 then (some ((-1), m_4))
else (bd (f_X11_within N a2 0 9 m_4) fun r_14 m_14 =>
if r_14 = 0 then (some ((-1), m_14))
else (bd (f_X11_within N a3 0 9 m_14) fun r_24 m_24 =>
if r_24 = 0 then (some ((-1), m_24))
else (bnd (m_24 3 3) fun a4_42 =>
bd (f_X9_add N 3 a1 a2 a3 1 m_24) fun r_55 m_55 =>
if r_55 = 0 then (some ((-1), m_55))
else (bd (f_X9_put N 3 a4_42 7 1 m_55) fun _ m_75 =>
bd (f_X4_forget N m_75) fun _ m_82 =>
some (a4_42, m_82)))))

set_option maxRecDepth 100000 in
set_option maxHeartbeats 4000000 in
theorem ok_X11_hearer (N d : Nat) (a1 : Int32) (a2 : Int32) (a3 : Int32)  (m : Mem) : Ok SX SG (d + 1) m_X11_hearer 0 [some (.ref 0), some (.int a1), some (.int a2), some (.int a3), none] [] SG m (f_X11_hearer N a1 a2 a3 m) := by
  unfold f_X11_hearer
  refine ok_iload_n 1 1 dX11_hearer_0 rfl rfl rfl ?_
  refine ok_iconst 2 0 dX11_hearer_1 rfl rfl ?_
  refine ok_bipush 4 9 dX11_hearer_2 rfl rfl ?_
  refine ok_callSi (np := 3) (M' := m_X11_within) (As := [.int a1, .int 0, .int 9]) (st := []) 7 dX11_hearer_4 rfl rfl km_X11_within ks_X11_within ml_Encores_109 (by decide) rfl rfl (Nat.le_of_ble_eq_true rfl) (c_X11_within N (d + 0) a1 0 9 m) ⟨Nat.le_refl _, Nat.le_refl _⟩ (Or.inl rfl) rfl (fun r_4 m_4 _ => ?_)
  refine ok_if_eq 30 10 dX11_hearer_7 (by decide) rfl (fun _ => ?_) (fun _ => ?_)
  · refine ok_iconst 31 (-1) dX11_hearer_30 rfl rfl ?_
    exact ok_iret dX11_hearer_31 rfl
  · refine ok_iload_n 11 2 dX11_hearer_10 rfl rfl rfl ?_
    refine ok_iconst 12 0 dX11_hearer_11 rfl rfl ?_
    refine ok_bipush 14 9 dX11_hearer_12 rfl rfl ?_
    refine ok_callSi (np := 3) (M' := m_X11_within) (As := [.int a2, .int 0, .int 9]) (st := []) 17 dX11_hearer_14 rfl rfl km_X11_within ks_X11_within ml_Encores_109 (by decide) rfl rfl (Nat.le_of_ble_eq_true rfl) (c_X11_within N (d + 0) a2 0 9 m_4) ⟨Nat.le_refl _, Nat.le_refl _⟩ (Or.inl rfl) rfl (fun r_14 m_14 _ => ?_)
    refine ok_if_eq 30 20 dX11_hearer_17 (by decide) rfl (fun _ => ?_) (fun _ => ?_)
    · refine ok_iconst 31 (-1) dX11_hearer_30 rfl rfl ?_
      exact ok_iret dX11_hearer_31 rfl
    · refine ok_iload_n 21 3 dX11_hearer_20 rfl rfl rfl ?_
      refine ok_iconst 22 0 dX11_hearer_21 rfl rfl ?_
      refine ok_bipush 24 9 dX11_hearer_22 rfl rfl ?_
      refine ok_callSi (np := 3) (M' := m_X11_within) (As := [.int a3, .int 0, .int 9]) (st := []) 27 dX11_hearer_24 rfl rfl km_X11_within ks_X11_within ml_Encores_109 (by decide) rfl rfl (Nat.le_of_ble_eq_true rfl) (c_X11_within N (d + 0) a3 0 9 m_14) ⟨Nat.le_refl _, Nat.le_refl _⟩ (Or.inl rfl) rfl (fun r_24 m_24 _ => ?_)
      refine ok_if_ne 32 30 dX11_hearer_27 (by decide) rfl (fun _ => ?_) (fun _ => ?_)
      · refine ok_aload_n 33 0 dX11_hearer_32 rfl rfl rfl ?_
        refine ok_getR 36 dX11_hearer_33 rfl rfl F_Encores_16 sg_0 rfl (Nat.le_of_ble_eq_true rfl) rfl rfl ?_
        refine ok_getR 39 dX11_hearer_36 rfl rfl F_Encores_113 sg_2 rfl (Nat.le_of_ble_eq_true rfl) rfl rfl ?_
        refine ok_getI 42 dX11_hearer_39 rfl rfl F_Encores_117 sg_3 rfl (Nat.le_of_ble_eq_true rfl) rfl ?_
        refine ok_bndI (fun a4_42 => ?_)
        refine ok_istore 44 4 [some (.ref 0), some (.int a1), some (.int a2), some (.int a3), some (.int a4_42)] dX11_hearer_42 rfl (by decide) rfl ?_
        refine ok_aload_n 45 0 dX11_hearer_44 rfl rfl rfl ?_
        refine ok_getR 48 dX11_hearer_45 rfl rfl F_Encores_16 sg_0 rfl (Nat.le_of_ble_eq_true rfl) rfl rfl ?_
        refine ok_getR 51 dX11_hearer_48 rfl rfl F_Encores_113 sg_2 rfl (Nat.le_of_ble_eq_true rfl) rfl rfl ?_
        refine ok_iload_n 52 1 dX11_hearer_51 rfl rfl rfl ?_
        refine ok_iload_n 53 2 dX11_hearer_52 rfl rfl rfl ?_
        refine ok_iload_n 54 3 dX11_hearer_53 rfl rfl rfl ?_
        refine ok_iconst 55 1 dX11_hearer_54 rfl rfl ?_
        refine ok_callVi (np := 4) (M' := m_X9_add) (As := [.int a1, .int a2, .int a3, .int 1]) (st := []) 58 dX11_hearer_55 rfl rfl km_X9_add ki_X9_add kv_X9_add ml_Encores_123 (by decide) sg_3 rfl (Nat.le_of_ble_eq_true rfl) rfl rfl rfl (Nat.le_of_ble_eq_true rfl) (c_X9_add N (d + 0) 3 a1 a2 a3 1 tg_3 m_24) ⟨Nat.le_refl _, Nat.le_refl _⟩ (Or.inl rfl) rfl (fun r_55 m_55 _ => ?_)
        refine ok_if_ne 63 61 dX11_hearer_58 (by decide) rfl (fun _ => ?_) (fun _ => ?_)
        · refine ok_aload_n 64 0 dX11_hearer_63 rfl rfl rfl ?_
          refine ok_getR 67 dX11_hearer_64 rfl rfl F_Encores_16 sg_0 rfl (Nat.le_of_ble_eq_true rfl) rfl rfl ?_
          refine ok_getR 70 dX11_hearer_67 rfl rfl F_Encores_113 sg_2 rfl (Nat.le_of_ble_eq_true rfl) rfl rfl ?_
          refine ok_iload 72 4 dX11_hearer_70 rfl rfl ?_
          refine ok_bipush 74 7 dX11_hearer_72 rfl rfl ?_
          refine ok_iconst 75 1 dX11_hearer_74 rfl rfl ?_
          refine ok_callVv (np := 3) (M' := m_X9_put) (As := [.int a4_42, .int 7, .int 1]) (st := []) 78 dX11_hearer_75 rfl rfl km_X9_put ki_X9_put kv_X9_put ml_Encores_127 (by decide) sg_3 rfl (Nat.le_of_ble_eq_true rfl) rfl rfl rfl (Nat.le_of_ble_eq_true rfl) (c_X9_put N (d + 0) 3 a4_42 7 1 tg_3 m_55) ⟨Nat.le_refl _, Nat.le_refl _⟩ (Or.inl rfl) rfl (fun _ m_75 _ => ?_)
          refine ok_aload_n 79 0 dX11_hearer_78 rfl rfl rfl ?_
          refine ok_getR 82 dX11_hearer_79 rfl rfl F_Encores_30 sg_0 rfl (Nat.le_of_ble_eq_true rfl) rfl rfl ?_
          refine ok_callVv (np := 0) (M' := m_X4_forget) (As := []) (st := []) 85 dX11_hearer_82 rfl rfl km_X4_forget ki_X4_forget kv_X4_forget ml_Encores_106 (by decide) sg_48 rfl (Nat.le_of_ble_eq_true rfl) rfl rfl rfl (Nat.le_of_ble_eq_true rfl) (c_X4_forget N (d + 0) m_75) ⟨Nat.le_refl _, Nat.le_refl _⟩ (Or.inl rfl) rfl (fun _ m_82 _ => ?_)
          refine ok_iload 87 4 dX11_hearer_85 rfl rfl ?_
          exact ok_iret dX11_hearer_87 rfl
        · refine ok_iconst 62 (-1) dX11_hearer_61 rfl rfl ?_
          exact ok_iret dX11_hearer_62 rfl
      · refine ok_iconst 31 (-1) dX11_hearer_30 rfl rfl ?_
        exact ok_iret dX11_hearer_31 rfl

theorem c_X11_hearer (N d : Nat) (a1 : Int32) (a2 : Int32) (a3 : Int32)  (m : Mem) : CM SX (d + 1) m_X11_hearer SG SG [.ref 0, .int a1, .int a2, .int a3] m (f_X11_hearer N a1 a2 a3 m) :=
  CM.ofOk km_X11_hearer ⟨Nat.le_refl _, Nat.le_refl _⟩ (by simp [Value.category]) (Nat.le_of_ble_eq_true rfl) (ok_X11_hearer N d a1 a2 a3 m)

def f_X11_deed (N : Nat) (a1 : Int32) (a2 : Int32) (a3 : Int32) (m : Mem) : Ans :=
bd (f_X11_within N a1 0 9 m) fun r_4 m_4 =>
if r_4 = 0 then (some ((-1), m_4))
else (bd (f_X11_within N a2 1 60 m_4) fun r_14 m_14 =>
if r_14 = 0 then (some ((-1), m_14))
else (bd (f_X11_within N a3 0 99 m_14) fun r_24 m_24 =>
if r_24 = 0 then (some ((-1), m_24))
else (bnd (m_24 5 3) fun a4_42 =>
bd (f_X9_add N 5 a1 a2 a3 0 m_24) fun r_55 m_55 =>
if r_55 = 0 then (some ((-1), m_55))
else (bd (f_X4_forget N m_55) fun _ m_67 =>
some (a4_42, m_67)))))

set_option maxRecDepth 100000 in
set_option maxHeartbeats 4000000 in
theorem ok_X11_deed (N d : Nat) (a1 : Int32) (a2 : Int32) (a3 : Int32)  (m : Mem) : Ok SX SG (d + 1) m_X11_deed 0 [some (.ref 0), some (.int a1), some (.int a2), some (.int a3), none] [] SG m (f_X11_deed N a1 a2 a3 m) := by
  unfold f_X11_deed
  refine ok_iload_n 1 1 dX11_deed_0 rfl rfl rfl ?_
  refine ok_iconst 2 0 dX11_deed_1 rfl rfl ?_
  refine ok_bipush 4 9 dX11_deed_2 rfl rfl ?_
  refine ok_callSi (np := 3) (M' := m_X11_within) (As := [.int a1, .int 0, .int 9]) (st := []) 7 dX11_deed_4 rfl rfl km_X11_within ks_X11_within ml_Encores_109 (by decide) rfl rfl (Nat.le_of_ble_eq_true rfl) (c_X11_within N (d + 0) a1 0 9 m) ⟨Nat.le_refl _, Nat.le_refl _⟩ (Or.inl rfl) rfl (fun r_4 m_4 _ => ?_)
  refine ok_if_eq 30 10 dX11_deed_7 (by decide) rfl (fun _ => ?_) (fun _ => ?_)
  · refine ok_iconst 31 (-1) dX11_deed_30 rfl rfl ?_
    exact ok_iret dX11_deed_31 rfl
  · refine ok_iload_n 11 2 dX11_deed_10 rfl rfl rfl ?_
    refine ok_iconst 12 1 dX11_deed_11 rfl rfl ?_
    refine ok_bipush 14 60 dX11_deed_12 rfl rfl ?_
    refine ok_callSi (np := 3) (M' := m_X11_within) (As := [.int a2, .int 1, .int 60]) (st := []) 17 dX11_deed_14 rfl rfl km_X11_within ks_X11_within ml_Encores_109 (by decide) rfl rfl (Nat.le_of_ble_eq_true rfl) (c_X11_within N (d + 0) a2 1 60 m_4) ⟨Nat.le_refl _, Nat.le_refl _⟩ (Or.inl rfl) rfl (fun r_14 m_14 _ => ?_)
    refine ok_if_eq 30 20 dX11_deed_17 (by decide) rfl (fun _ => ?_) (fun _ => ?_)
    · refine ok_iconst 31 (-1) dX11_deed_30 rfl rfl ?_
      exact ok_iret dX11_deed_31 rfl
    · refine ok_iload_n 21 3 dX11_deed_20 rfl rfl rfl ?_
      refine ok_iconst 22 0 dX11_deed_21 rfl rfl ?_
      refine ok_bipush 24 99 dX11_deed_22 rfl rfl ?_
      refine ok_callSi (np := 3) (M' := m_X11_within) (As := [.int a3, .int 0, .int 99]) (st := []) 27 dX11_deed_24 rfl rfl km_X11_within ks_X11_within ml_Encores_109 (by decide) rfl rfl (Nat.le_of_ble_eq_true rfl) (c_X11_within N (d + 0) a3 0 99 m_14) ⟨Nat.le_refl _, Nat.le_refl _⟩ (Or.inl rfl) rfl (fun r_24 m_24 _ => ?_)
      refine ok_if_ne 32 30 dX11_deed_27 (by decide) rfl (fun _ => ?_) (fun _ => ?_)
      · refine ok_aload_n 33 0 dX11_deed_32 rfl rfl rfl ?_
        refine ok_getR 36 dX11_deed_33 rfl rfl F_Encores_16 sg_0 rfl (Nat.le_of_ble_eq_true rfl) rfl rfl ?_
        refine ok_getR 39 dX11_deed_36 rfl rfl F_Encores_131 sg_2 rfl (Nat.le_of_ble_eq_true rfl) rfl rfl ?_
        refine ok_getI 42 dX11_deed_39 rfl rfl F_Encores_117 sg_5 rfl (Nat.le_of_ble_eq_true rfl) rfl ?_
        refine ok_bndI (fun a4_42 => ?_)
        refine ok_istore 44 4 [some (.ref 0), some (.int a1), some (.int a2), some (.int a3), some (.int a4_42)] dX11_deed_42 rfl (by decide) rfl ?_
        refine ok_aload_n 45 0 dX11_deed_44 rfl rfl rfl ?_
        refine ok_getR 48 dX11_deed_45 rfl rfl F_Encores_16 sg_0 rfl (Nat.le_of_ble_eq_true rfl) rfl rfl ?_
        refine ok_getR 51 dX11_deed_48 rfl rfl F_Encores_131 sg_2 rfl (Nat.le_of_ble_eq_true rfl) rfl rfl ?_
        refine ok_iload_n 52 1 dX11_deed_51 rfl rfl rfl ?_
        refine ok_iload_n 53 2 dX11_deed_52 rfl rfl rfl ?_
        refine ok_iload_n 54 3 dX11_deed_53 rfl rfl rfl ?_
        refine ok_iconst 55 0 dX11_deed_54 rfl rfl ?_
        refine ok_callVi (np := 4) (M' := m_X9_add) (As := [.int a1, .int a2, .int a3, .int 0]) (st := []) 58 dX11_deed_55 rfl rfl km_X9_add ki_X9_add kv_X9_add ml_Encores_123 (by decide) sg_5 rfl (Nat.le_of_ble_eq_true rfl) rfl rfl rfl (Nat.le_of_ble_eq_true rfl) (c_X9_add N (d + 0) 5 a1 a2 a3 0 tg_5 m_24) ⟨Nat.le_refl _, Nat.le_refl _⟩ (Or.inl rfl) rfl (fun r_55 m_55 _ => ?_)
        refine ok_if_ne 63 61 dX11_deed_58 (by decide) rfl (fun _ => ?_) (fun _ => ?_)
        · refine ok_aload_n 64 0 dX11_deed_63 rfl rfl rfl ?_
          refine ok_getR 67 dX11_deed_64 rfl rfl F_Encores_30 sg_0 rfl (Nat.le_of_ble_eq_true rfl) rfl rfl ?_
          refine ok_callVv (np := 0) (M' := m_X4_forget) (As := []) (st := []) 70 dX11_deed_67 rfl rfl km_X4_forget ki_X4_forget kv_X4_forget ml_Encores_106 (by decide) sg_48 rfl (Nat.le_of_ble_eq_true rfl) rfl rfl rfl (Nat.le_of_ble_eq_true rfl) (c_X4_forget N (d + 0) m_55) ⟨Nat.le_refl _, Nat.le_refl _⟩ (Or.inl rfl) rfl (fun _ m_67 _ => ?_)
          refine ok_iload 72 4 dX11_deed_70 rfl rfl ?_
          exact ok_iret dX11_deed_72 rfl
        · refine ok_iconst 62 (-1) dX11_deed_61 rfl rfl ?_
          exact ok_iret dX11_deed_62 rfl
      · refine ok_iconst 31 (-1) dX11_deed_30 rfl rfl ?_
        exact ok_iret dX11_deed_31 rfl

theorem c_X11_deed (N d : Nat) (a1 : Int32) (a2 : Int32) (a3 : Int32)  (m : Mem) : CM SX (d + 1) m_X11_deed SG SG [.ref 0, .int a1, .int a2, .int a3] m (f_X11_deed N a1 a2 a3 m) :=
  CM.ofOk km_X11_deed ⟨Nat.le_refl _, Nat.le_refl _⟩ (by simp [Value.category]) (Nat.le_of_ble_eq_true rfl) (ok_X11_deed N d a1 a2 a3 m)

def f_X11_setTo (N : Nat) (a0 : Nat) (a1 : Int32) (a2 : Int32) (a3 : Int32) (a4 : Int32) (m : Mem) : Ans :=
bd (f_X9_has N a0 a1 m) fun r_2 m_2 =>
if r_2 = 0 then (some (0, m_2))
else (bd (f_X11_within N a3 0 a4 m_2) fun r_12 m_12 =>
if r_12 = 0 then (some (0, m_12))
else (bd (f_X9_put N a0 a1 a2 a3 m_12) fun _ m_24 =>
some (1, m_24)))

set_option maxRecDepth 100000 in
set_option maxHeartbeats 4000000 in
theorem ok_X11_setTo (N d : Nat) (a0 : Nat) (a1 : Int32) (a2 : Int32) (a3 : Int32) (a4 : Int32) (h0 : tg a0 = 9) (m : Mem) : Ok SX SG (d + 1) m_X11_setTo 0 [some (.ref a0), some (.int a1), some (.int a2), some (.int a3), some (.int a4)] [] SG m (f_X11_setTo N a0 a1 a2 a3 a4 m) := by
  unfold f_X11_setTo
  refine ok_aload_n 1 0 dX11_setTo_0 rfl rfl rfl ?_
  refine ok_iload_n 2 1 dX11_setTo_1 rfl rfl rfl ?_
  refine ok_callVi (np := 1) (M' := m_X9_has) (As := [.int a1]) (st := []) 5 dX11_setTo_2 rfl rfl km_X9_has ki_X9_has kv_X9_has ml_Encores_138 (by decide) (sg_T _ h0) rfl (Nat.le_of_ble_eq_true rfl) rfl rfl rfl (Nat.le_of_ble_eq_true rfl) (c_X9_has N (d + 0) a0 a1 h0 m) ⟨Nat.le_refl _, Nat.le_refl _⟩ (Or.inl rfl) rfl (fun r_2 m_2 _ => ?_)
  refine ok_if_eq 18 8 dX11_setTo_5 (by decide) rfl (fun _ => ?_) (fun _ => ?_)
  · refine ok_iconst 19 0 dX11_setTo_18 rfl rfl ?_
    exact ok_zretc dX11_setTo_19 rfl rfl
  · refine ok_iload_n 9 3 dX11_setTo_8 rfl rfl rfl ?_
    refine ok_iconst 10 0 dX11_setTo_9 rfl rfl ?_
    refine ok_iload 12 4 dX11_setTo_10 rfl rfl ?_
    refine ok_callSi (np := 3) (M' := m_X11_within) (As := [.int a3, .int 0, .int a4]) (st := []) 15 dX11_setTo_12 rfl rfl km_X11_within ks_X11_within ml_Encores_109 (by decide) rfl rfl (Nat.le_of_ble_eq_true rfl) (c_X11_within N (d + 0) a3 0 a4 m_2) ⟨Nat.le_refl _, Nat.le_refl _⟩ (Or.inl rfl) rfl (fun r_12 m_12 _ => ?_)
    refine ok_if_ne 20 18 dX11_setTo_15 (by decide) rfl (fun _ => ?_) (fun _ => ?_)
    · refine ok_aload_n 21 0 dX11_setTo_20 rfl rfl rfl ?_
      refine ok_iload_n 22 1 dX11_setTo_21 rfl rfl rfl ?_
      refine ok_iload_n 23 2 dX11_setTo_22 rfl rfl rfl ?_
      refine ok_iload_n 24 3 dX11_setTo_23 rfl rfl rfl ?_
      refine ok_callVv (np := 3) (M' := m_X9_put) (As := [.int a1, .int a2, .int a3]) (st := []) 27 dX11_setTo_24 rfl rfl km_X9_put ki_X9_put kv_X9_put ml_Encores_127 (by decide) (sg_T _ h0) rfl (Nat.le_of_ble_eq_true rfl) rfl rfl rfl (Nat.le_of_ble_eq_true rfl) (c_X9_put N (d + 0) a0 a1 a2 a3 h0 m_12) ⟨Nat.le_refl _, Nat.le_refl _⟩ (Or.inl rfl) rfl (fun _ m_24 _ => ?_)
      refine ok_iconst 28 1 dX11_setTo_27 rfl rfl ?_
      exact ok_zretc dX11_setTo_28 rfl rfl
    · refine ok_iconst 19 0 dX11_setTo_18 rfl rfl ?_
      exact ok_zretc dX11_setTo_19 rfl rfl

theorem c_X11_setTo (N d : Nat) (a0 : Nat) (a1 : Int32) (a2 : Int32) (a3 : Int32) (a4 : Int32) (h0 : tg a0 = 9) (m : Mem) : CM SX (d + 1) m_X11_setTo SG SG [.ref a0, .int a1, .int a2, .int a3, .int a4] m (f_X11_setTo N a0 a1 a2 a3 a4 m) :=
  CM.ofOk km_X11_setTo ⟨Nat.le_refl _, Nat.le_refl _⟩ (by simp [Value.category]) (Nat.le_of_ble_eq_true rfl) (ok_X11_setTo N d a0 a1 a2 a3 a4 h0 m)

def f_X11_set (N : Nat) (a1 : Int32) (a2 : Int32) (a3 : Int32) (m : Mem) : Ans :=
swt (Int32.toInt a1 - (0)) [(bd (f_X11_within N a3 0 1000 m) fun r_49 m_49 =>
if r_49 = 0 then (if r_49 = 0 then (chk (isB r_49) (some (r_49, m_49)))
else (bd (f_X4_forget N m_49) fun _ m_180 =>
chk (isB r_49) (some (r_49, m_180))))
else (bd (f_X1_setHour N 3 a3 m_49) fun _ m_65 =>
if r_49 = 0 then (chk (isB r_49) (some (r_49, m_65)))
else (bd (f_X4_forget N m_65) fun _ m_180 =>
chk (isB r_49) (some (r_49, m_180))))),
(bd (f_X11_setTo N 3 a2 0 a3 9 m) fun r_83 m_83 =>
if r_83 = 0 then (chk (isB r_83) (some (r_83, m_83)))
else (bd (f_X4_forget N m_83) fun _ m_180 =>
chk (isB r_83) (some (r_83, m_180)))),
(bd (f_X11_setTo N 3 a2 1 a3 9 m) fun r_103 m_103 =>
if r_103 = 0 then (chk (isB r_103) (some (r_103, m_103)))
else (bd (f_X4_forget N m_103) fun _ m_180 =>
chk (isB r_103) (some (r_103, m_180)))),
(bd (f_X11_setTo N 3 a2 2 a3 9 m) fun r_123 m_123 =>
if r_123 = 0 then (chk (isB r_123) (some (r_123, m_123)))
else (bd (f_X4_forget N m_123) fun _ m_180 =>
chk (isB r_123) (some (r_123, m_180)))),
(bd (f_X11_setTo N 5 a2 0 a3 9 m) fun r_143 m_143 =>
if r_143 = 0 then (chk (isB r_143) (some (r_143, m_143)))
else (bd (f_X4_forget N m_143) fun _ m_180 =>
chk (isB r_143) (some (r_143, m_180)))),
(bd (f_X11_setTo N 5 a2 3 a3 99 m) fun r_163 m_163 =>
if r_163 = 0 then (chk (isB r_163) (some (r_163, m_163)))
else (bd (f_X4_forget N m_163) fun _ m_180 =>
chk (isB r_163) (some (r_163, m_180))))] (if (0 : Int32) = 0 then (some (0, m))
else (bd (f_X4_forget N m) fun _ m_180 =>
some (0, m_180)))

set_option maxRecDepth 100000 in
set_option maxHeartbeats 4000000 in
theorem ok_X11_set (N d : Nat) (a1 : Int32) (a2 : Int32) (a3 : Int32)  (m : Mem) : Ok SX SG (d + 2) m_X11_set 0 [some (.ref 0), some (.int a1), some (.int a2), some (.int a3), none] [] SG m (f_X11_set N a1 a2 a3 m) := by
  unfold f_X11_set
  refine ok_iconst 1 0 dX11_set_0 rfl rfl ?_
  refine ok_istore 3 4 [some (.ref 0), some (.int a1), some (.int a2), some (.int a3), some (.int 0)] dX11_set_1 rfl (by decide) rfl ?_
  refine ok_iload_n 4 1 dX11_set_3 rfl rfl rfl ?_
  refine ok_tsw 171 [44, 71, 91, 111, 131, 151] dX11_set_4 (by decide) (by decide) (by decide) rfl ?_ ?_
  · refine And.intro ?_ (And.intro ?_ (And.intro ?_ (And.intro ?_ (And.intro ?_ (And.intro ?_ (trivial))))))
    · refine ok_iload_n 45 3 dX11_set_44 rfl rfl rfl ?_
      refine ok_iconst 46 0 dX11_set_45 rfl rfl ?_
      refine ok_sipush 49 1000 dX11_set_46 rfl rfl ?_
      refine ok_callSi (np := 3) (M' := m_X11_within) (As := [.int a3, .int 0, .int 1000]) (st := []) 52 dX11_set_49 rfl rfl km_X11_within ks_X11_within ml_Encores_109 (by decide) rfl rfl (Nat.le_of_ble_eq_true rfl) (c_X11_within N (d + 1) a3 0 1000 m) ⟨Nat.le_refl _, Nat.le_refl _⟩ (Or.inl rfl) rfl (fun r_49 m_49 _ => ?_)
      refine ok_istore 54 4 [some (.ref 0), some (.int a1), some (.int a2), some (.int a3), some (.int r_49)] dX11_set_52 rfl (by decide) rfl ?_
      refine ok_iload 56 4 dX11_set_54 rfl rfl ?_
      refine ok_if_eq 171 59 dX11_set_56 (by decide) rfl (fun _ => ?_) (fun _ => ?_)
      · refine ok_iload 173 4 dX11_set_171 rfl rfl ?_
        refine ok_if_eq 183 176 dX11_set_173 (by decide) rfl (fun _ => ?_) (fun _ => ?_)
        · refine ok_iload 185 4 dX11_set_183 rfl rfl ?_
          exact ok_zret dX11_set_185 rfl
        · refine ok_aload_n 177 0 dX11_set_176 rfl rfl rfl ?_
          refine ok_getR 180 dX11_set_177 rfl rfl F_Encores_30 sg_0 rfl (Nat.le_of_ble_eq_true rfl) rfl rfl ?_
          refine ok_callVv (np := 0) (M' := m_X4_forget) (As := []) (st := []) 183 dX11_set_180 rfl rfl km_X4_forget ki_X4_forget kv_X4_forget ml_Encores_106 (by decide) sg_48 rfl (Nat.le_of_ble_eq_true rfl) rfl rfl rfl (Nat.le_of_ble_eq_true rfl) (c_X4_forget N (d + 1) m_49) ⟨Nat.le_refl _, Nat.le_refl _⟩ (Or.inl rfl) rfl (fun _ m_180 _ => ?_)
          refine ok_iload 185 4 dX11_set_183 rfl rfl ?_
          exact ok_zret dX11_set_185 rfl
      · refine ok_aload_n 60 0 dX11_set_59 rfl rfl rfl ?_
        refine ok_getR 63 dX11_set_60 rfl rfl F_Encores_16 sg_0 rfl (Nat.le_of_ble_eq_true rfl) rfl rfl ?_
        refine ok_iconst 64 3 dX11_set_63 rfl rfl ?_
        refine ok_iload_n 65 3 dX11_set_64 rfl rfl rfl ?_
        refine ok_callVv (np := 2) (M' := m_X1_setHour) (As := [.int 3, .int a3]) (st := []) 68 dX11_set_65 rfl rfl km_X1_setHour ki_X1_setHour kv_X1_setHour ml_Encores_102 (by decide) sg_2 rfl (Nat.le_of_ble_eq_true rfl) rfl rfl rfl (Nat.le_of_ble_eq_true rfl) (c_X1_setHour N (d + 0) 3 a3 m_49) ⟨Nat.le_refl _, Nat.le_refl _⟩ (Or.inl rfl) rfl (fun _ m_65 _ => ?_)
        refine ok_goto 171 dX11_set_68 (by decide) ?_
        refine ok_iload 173 4 dX11_set_171 rfl rfl ?_
        refine ok_if_eq 183 176 dX11_set_173 (by decide) rfl (fun _ => ?_) (fun _ => ?_)
        · refine ok_iload 185 4 dX11_set_183 rfl rfl ?_
          exact ok_zret dX11_set_185 rfl
        · refine ok_aload_n 177 0 dX11_set_176 rfl rfl rfl ?_
          refine ok_getR 180 dX11_set_177 rfl rfl F_Encores_30 sg_0 rfl (Nat.le_of_ble_eq_true rfl) rfl rfl ?_
          refine ok_callVv (np := 0) (M' := m_X4_forget) (As := []) (st := []) 183 dX11_set_180 rfl rfl km_X4_forget ki_X4_forget kv_X4_forget ml_Encores_106 (by decide) sg_48 rfl (Nat.le_of_ble_eq_true rfl) rfl rfl rfl (Nat.le_of_ble_eq_true rfl) (c_X4_forget N (d + 1) m_65) ⟨Nat.le_refl _, Nat.le_refl _⟩ (Or.inl rfl) rfl (fun _ m_180 _ => ?_)
          refine ok_iload 185 4 dX11_set_183 rfl rfl ?_
          exact ok_zret dX11_set_185 rfl
    · refine ok_aload_n 72 0 dX11_set_71 rfl rfl rfl ?_
      refine ok_getR 75 dX11_set_72 rfl rfl F_Encores_16 sg_0 rfl (Nat.le_of_ble_eq_true rfl) rfl rfl ?_
      refine ok_getR 78 dX11_set_75 rfl rfl F_Encores_113 sg_2 rfl (Nat.le_of_ble_eq_true rfl) rfl rfl ?_
      refine ok_iload_n 79 2 dX11_set_78 rfl rfl rfl ?_
      refine ok_iconst 80 0 dX11_set_79 rfl rfl ?_
      refine ok_iload_n 81 3 dX11_set_80 rfl rfl rfl ?_
      refine ok_bipush 83 9 dX11_set_81 rfl rfl ?_
      refine ok_callSi (np := 5) (M' := m_X11_setTo) (As := [.ref 3, .int a2, .int 0, .int a3, .int 9]) (st := []) 86 dX11_set_83 rfl rfl km_X11_setTo ks_X11_setTo ml_Encores_134 (by decide) rfl rfl (Nat.le_of_ble_eq_true rfl) (c_X11_setTo N (d + 0) 3 a2 0 a3 9 tg_3 m) ⟨Nat.le_refl _, Nat.le_refl _⟩ (Or.inl rfl) rfl (fun r_83 m_83 _ => ?_)
      refine ok_istore 88 4 [some (.ref 0), some (.int a1), some (.int a2), some (.int a3), some (.int r_83)] dX11_set_86 rfl (by decide) rfl ?_
      refine ok_goto 171 dX11_set_88 (by decide) ?_
      refine ok_iload 173 4 dX11_set_171 rfl rfl ?_
      refine ok_if_eq 183 176 dX11_set_173 (by decide) rfl (fun _ => ?_) (fun _ => ?_)
      · refine ok_iload 185 4 dX11_set_183 rfl rfl ?_
        exact ok_zret dX11_set_185 rfl
      · refine ok_aload_n 177 0 dX11_set_176 rfl rfl rfl ?_
        refine ok_getR 180 dX11_set_177 rfl rfl F_Encores_30 sg_0 rfl (Nat.le_of_ble_eq_true rfl) rfl rfl ?_
        refine ok_callVv (np := 0) (M' := m_X4_forget) (As := []) (st := []) 183 dX11_set_180 rfl rfl km_X4_forget ki_X4_forget kv_X4_forget ml_Encores_106 (by decide) sg_48 rfl (Nat.le_of_ble_eq_true rfl) rfl rfl rfl (Nat.le_of_ble_eq_true rfl) (c_X4_forget N (d + 1) m_83) ⟨Nat.le_refl _, Nat.le_refl _⟩ (Or.inl rfl) rfl (fun _ m_180 _ => ?_)
        refine ok_iload 185 4 dX11_set_183 rfl rfl ?_
        exact ok_zret dX11_set_185 rfl
    · refine ok_aload_n 92 0 dX11_set_91 rfl rfl rfl ?_
      refine ok_getR 95 dX11_set_92 rfl rfl F_Encores_16 sg_0 rfl (Nat.le_of_ble_eq_true rfl) rfl rfl ?_
      refine ok_getR 98 dX11_set_95 rfl rfl F_Encores_113 sg_2 rfl (Nat.le_of_ble_eq_true rfl) rfl rfl ?_
      refine ok_iload_n 99 2 dX11_set_98 rfl rfl rfl ?_
      refine ok_iconst 100 1 dX11_set_99 rfl rfl ?_
      refine ok_iload_n 101 3 dX11_set_100 rfl rfl rfl ?_
      refine ok_bipush 103 9 dX11_set_101 rfl rfl ?_
      refine ok_callSi (np := 5) (M' := m_X11_setTo) (As := [.ref 3, .int a2, .int 1, .int a3, .int 9]) (st := []) 106 dX11_set_103 rfl rfl km_X11_setTo ks_X11_setTo ml_Encores_134 (by decide) rfl rfl (Nat.le_of_ble_eq_true rfl) (c_X11_setTo N (d + 0) 3 a2 1 a3 9 tg_3 m) ⟨Nat.le_refl _, Nat.le_refl _⟩ (Or.inl rfl) rfl (fun r_103 m_103 _ => ?_)
      refine ok_istore 108 4 [some (.ref 0), some (.int a1), some (.int a2), some (.int a3), some (.int r_103)] dX11_set_106 rfl (by decide) rfl ?_
      refine ok_goto 171 dX11_set_108 (by decide) ?_
      refine ok_iload 173 4 dX11_set_171 rfl rfl ?_
      refine ok_if_eq 183 176 dX11_set_173 (by decide) rfl (fun _ => ?_) (fun _ => ?_)
      · refine ok_iload 185 4 dX11_set_183 rfl rfl ?_
        exact ok_zret dX11_set_185 rfl
      · refine ok_aload_n 177 0 dX11_set_176 rfl rfl rfl ?_
        refine ok_getR 180 dX11_set_177 rfl rfl F_Encores_30 sg_0 rfl (Nat.le_of_ble_eq_true rfl) rfl rfl ?_
        refine ok_callVv (np := 0) (M' := m_X4_forget) (As := []) (st := []) 183 dX11_set_180 rfl rfl km_X4_forget ki_X4_forget kv_X4_forget ml_Encores_106 (by decide) sg_48 rfl (Nat.le_of_ble_eq_true rfl) rfl rfl rfl (Nat.le_of_ble_eq_true rfl) (c_X4_forget N (d + 1) m_103) ⟨Nat.le_refl _, Nat.le_refl _⟩ (Or.inl rfl) rfl (fun _ m_180 _ => ?_)
        refine ok_iload 185 4 dX11_set_183 rfl rfl ?_
        exact ok_zret dX11_set_185 rfl
    · refine ok_aload_n 112 0 dX11_set_111 rfl rfl rfl ?_
      refine ok_getR 115 dX11_set_112 rfl rfl F_Encores_16 sg_0 rfl (Nat.le_of_ble_eq_true rfl) rfl rfl ?_
      refine ok_getR 118 dX11_set_115 rfl rfl F_Encores_113 sg_2 rfl (Nat.le_of_ble_eq_true rfl) rfl rfl ?_
      refine ok_iload_n 119 2 dX11_set_118 rfl rfl rfl ?_
      refine ok_iconst 120 2 dX11_set_119 rfl rfl ?_
      refine ok_iload_n 121 3 dX11_set_120 rfl rfl rfl ?_
      refine ok_bipush 123 9 dX11_set_121 rfl rfl ?_
      refine ok_callSi (np := 5) (M' := m_X11_setTo) (As := [.ref 3, .int a2, .int 2, .int a3, .int 9]) (st := []) 126 dX11_set_123 rfl rfl km_X11_setTo ks_X11_setTo ml_Encores_134 (by decide) rfl rfl (Nat.le_of_ble_eq_true rfl) (c_X11_setTo N (d + 0) 3 a2 2 a3 9 tg_3 m) ⟨Nat.le_refl _, Nat.le_refl _⟩ (Or.inl rfl) rfl (fun r_123 m_123 _ => ?_)
      refine ok_istore 128 4 [some (.ref 0), some (.int a1), some (.int a2), some (.int a3), some (.int r_123)] dX11_set_126 rfl (by decide) rfl ?_
      refine ok_goto 171 dX11_set_128 (by decide) ?_
      refine ok_iload 173 4 dX11_set_171 rfl rfl ?_
      refine ok_if_eq 183 176 dX11_set_173 (by decide) rfl (fun _ => ?_) (fun _ => ?_)
      · refine ok_iload 185 4 dX11_set_183 rfl rfl ?_
        exact ok_zret dX11_set_185 rfl
      · refine ok_aload_n 177 0 dX11_set_176 rfl rfl rfl ?_
        refine ok_getR 180 dX11_set_177 rfl rfl F_Encores_30 sg_0 rfl (Nat.le_of_ble_eq_true rfl) rfl rfl ?_
        refine ok_callVv (np := 0) (M' := m_X4_forget) (As := []) (st := []) 183 dX11_set_180 rfl rfl km_X4_forget ki_X4_forget kv_X4_forget ml_Encores_106 (by decide) sg_48 rfl (Nat.le_of_ble_eq_true rfl) rfl rfl rfl (Nat.le_of_ble_eq_true rfl) (c_X4_forget N (d + 1) m_123) ⟨Nat.le_refl _, Nat.le_refl _⟩ (Or.inl rfl) rfl (fun _ m_180 _ => ?_)
        refine ok_iload 185 4 dX11_set_183 rfl rfl ?_
        exact ok_zret dX11_set_185 rfl
    · refine ok_aload_n 132 0 dX11_set_131 rfl rfl rfl ?_
      refine ok_getR 135 dX11_set_132 rfl rfl F_Encores_16 sg_0 rfl (Nat.le_of_ble_eq_true rfl) rfl rfl ?_
      refine ok_getR 138 dX11_set_135 rfl rfl F_Encores_131 sg_2 rfl (Nat.le_of_ble_eq_true rfl) rfl rfl ?_
      refine ok_iload_n 139 2 dX11_set_138 rfl rfl rfl ?_
      refine ok_iconst 140 0 dX11_set_139 rfl rfl ?_
      refine ok_iload_n 141 3 dX11_set_140 rfl rfl rfl ?_
      refine ok_bipush 143 9 dX11_set_141 rfl rfl ?_
      refine ok_callSi (np := 5) (M' := m_X11_setTo) (As := [.ref 5, .int a2, .int 0, .int a3, .int 9]) (st := []) 146 dX11_set_143 rfl rfl km_X11_setTo ks_X11_setTo ml_Encores_134 (by decide) rfl rfl (Nat.le_of_ble_eq_true rfl) (c_X11_setTo N (d + 0) 5 a2 0 a3 9 tg_5 m) ⟨Nat.le_refl _, Nat.le_refl _⟩ (Or.inl rfl) rfl (fun r_143 m_143 _ => ?_)
      refine ok_istore 148 4 [some (.ref 0), some (.int a1), some (.int a2), some (.int a3), some (.int r_143)] dX11_set_146 rfl (by decide) rfl ?_
      refine ok_goto 171 dX11_set_148 (by decide) ?_
      refine ok_iload 173 4 dX11_set_171 rfl rfl ?_
      refine ok_if_eq 183 176 dX11_set_173 (by decide) rfl (fun _ => ?_) (fun _ => ?_)
      · refine ok_iload 185 4 dX11_set_183 rfl rfl ?_
        exact ok_zret dX11_set_185 rfl
      · refine ok_aload_n 177 0 dX11_set_176 rfl rfl rfl ?_
        refine ok_getR 180 dX11_set_177 rfl rfl F_Encores_30 sg_0 rfl (Nat.le_of_ble_eq_true rfl) rfl rfl ?_
        refine ok_callVv (np := 0) (M' := m_X4_forget) (As := []) (st := []) 183 dX11_set_180 rfl rfl km_X4_forget ki_X4_forget kv_X4_forget ml_Encores_106 (by decide) sg_48 rfl (Nat.le_of_ble_eq_true rfl) rfl rfl rfl (Nat.le_of_ble_eq_true rfl) (c_X4_forget N (d + 1) m_143) ⟨Nat.le_refl _, Nat.le_refl _⟩ (Or.inl rfl) rfl (fun _ m_180 _ => ?_)
        refine ok_iload 185 4 dX11_set_183 rfl rfl ?_
        exact ok_zret dX11_set_185 rfl
    · refine ok_aload_n 152 0 dX11_set_151 rfl rfl rfl ?_
      refine ok_getR 155 dX11_set_152 rfl rfl F_Encores_16 sg_0 rfl (Nat.le_of_ble_eq_true rfl) rfl rfl ?_
      refine ok_getR 158 dX11_set_155 rfl rfl F_Encores_131 sg_2 rfl (Nat.le_of_ble_eq_true rfl) rfl rfl ?_
      refine ok_iload_n 159 2 dX11_set_158 rfl rfl rfl ?_
      refine ok_iconst 160 3 dX11_set_159 rfl rfl ?_
      refine ok_iload_n 161 3 dX11_set_160 rfl rfl rfl ?_
      refine ok_bipush 163 99 dX11_set_161 rfl rfl ?_
      refine ok_callSi (np := 5) (M' := m_X11_setTo) (As := [.ref 5, .int a2, .int 3, .int a3, .int 99]) (st := []) 166 dX11_set_163 rfl rfl km_X11_setTo ks_X11_setTo ml_Encores_134 (by decide) rfl rfl (Nat.le_of_ble_eq_true rfl) (c_X11_setTo N (d + 0) 5 a2 3 a3 99 tg_5 m) ⟨Nat.le_refl _, Nat.le_refl _⟩ (Or.inl rfl) rfl (fun r_163 m_163 _ => ?_)
      refine ok_istore 168 4 [some (.ref 0), some (.int a1), some (.int a2), some (.int a3), some (.int r_163)] dX11_set_166 rfl (by decide) rfl ?_
      refine ok_goto 171 dX11_set_168 (by decide) ?_
      refine ok_iload 173 4 dX11_set_171 rfl rfl ?_
      refine ok_if_eq 183 176 dX11_set_173 (by decide) rfl (fun _ => ?_) (fun _ => ?_)
      · refine ok_iload 185 4 dX11_set_183 rfl rfl ?_
        exact ok_zret dX11_set_185 rfl
      · refine ok_aload_n 177 0 dX11_set_176 rfl rfl rfl ?_
        refine ok_getR 180 dX11_set_177 rfl rfl F_Encores_30 sg_0 rfl (Nat.le_of_ble_eq_true rfl) rfl rfl ?_
        refine ok_callVv (np := 0) (M' := m_X4_forget) (As := []) (st := []) 183 dX11_set_180 rfl rfl km_X4_forget ki_X4_forget kv_X4_forget ml_Encores_106 (by decide) sg_48 rfl (Nat.le_of_ble_eq_true rfl) rfl rfl rfl (Nat.le_of_ble_eq_true rfl) (c_X4_forget N (d + 1) m_163) ⟨Nat.le_refl _, Nat.le_refl _⟩ (Or.inl rfl) rfl (fun _ m_180 _ => ?_)
        refine ok_iload 185 4 dX11_set_183 rfl rfl ?_
        exact ok_zret dX11_set_185 rfl
  · refine ok_iload 173 4 dX11_set_171 rfl rfl ?_
    refine ok_if_eq 183 176 dX11_set_173 (by decide) rfl (fun _ => ?_) (fun _ => ?_)
    · refine ok_iload 185 4 dX11_set_183 rfl rfl ?_
      exact ok_zretc dX11_set_185 rfl rfl
    · refine ok_aload_n 177 0 dX11_set_176 rfl rfl rfl ?_
      refine ok_getR 180 dX11_set_177 rfl rfl F_Encores_30 sg_0 rfl (Nat.le_of_ble_eq_true rfl) rfl rfl ?_
      refine ok_callVv (np := 0) (M' := m_X4_forget) (As := []) (st := []) 183 dX11_set_180 rfl rfl km_X4_forget ki_X4_forget kv_X4_forget ml_Encores_106 (by decide) sg_48 rfl (Nat.le_of_ble_eq_true rfl) rfl rfl rfl (Nat.le_of_ble_eq_true rfl) (c_X4_forget N (d + 1) m) ⟨Nat.le_refl _, Nat.le_refl _⟩ (Or.inl rfl) rfl (fun _ m_180 _ => ?_)
      refine ok_iload 185 4 dX11_set_183 rfl rfl ?_
      exact ok_zretc dX11_set_185 rfl rfl

theorem c_X11_set (N d : Nat) (a1 : Int32) (a2 : Int32) (a3 : Int32)  (m : Mem) : CM SX (d + 2) m_X11_set SG SG [.ref 0, .int a1, .int a2, .int a3] m (f_X11_set N a1 a2 a3 m) :=
  CM.ofOk km_X11_set ⟨Nat.le_refl _, Nat.le_refl _⟩ (by simp [Value.category]) (Nat.le_of_ble_eq_true rfl) (ok_X11_set N d a1 a2 a3 m)

def f_X11_perform (N : Nat) (a1 : Int32) (m : Mem) : Ans :=
bd (f_X9_has N 5 a1 m) fun r_8 m_8 =>
if r_8 = 0 then (some ((-1), m_8))
else (bd (f_X1_hour N 0 m_8) fun r_21 m_21 =>
bd (f_X9_at N 5 a1 1 m_21) fun r_35 m_35 =>
bnd (r_21 + ((21 : Int32) * r_35)) fun a2_40 =>
if a2_40 < (9999 : Int32) then (bd (f_X4_keep N m_35) fun _ m_58 =>
bd (f_X8_doWithAgains N a1 m_58) fun r_66 m_66 =>
some (r_66, m_66))
else (some ((-1), m_35)))

set_option maxRecDepth 100000 in
set_option maxHeartbeats 4000000 in
theorem ok_X11_perform (N d : Nat) (a1 : Int32)  (m : Mem) : Ok SX SG (d + 6) m_X11_perform 0 [some (.ref 0), some (.int a1), none] [] SG m (f_X11_perform N a1 m) := by
  unfold f_X11_perform
  refine ok_aload_n 1 0 dX11_perform_0 rfl rfl rfl ?_
  refine ok_getR 4 dX11_perform_1 rfl rfl F_Encores_16 sg_0 rfl (Nat.le_of_ble_eq_true rfl) rfl rfl ?_
  refine ok_getR 7 dX11_perform_4 rfl rfl F_Encores_131 sg_2 rfl (Nat.le_of_ble_eq_true rfl) rfl rfl ?_
  refine ok_iload_n 8 1 dX11_perform_7 rfl rfl rfl ?_
  refine ok_callVi (np := 1) (M' := m_X9_has) (As := [.int a1]) (st := []) 11 dX11_perform_8 rfl rfl km_X9_has ki_X9_has kv_X9_has ml_Encores_138 (by decide) sg_5 rfl (Nat.le_of_ble_eq_true rfl) rfl rfl rfl (Nat.le_of_ble_eq_true rfl) (c_X9_has N (d + 5) 5 a1 tg_5 m) ⟨Nat.le_refl _, Nat.le_refl _⟩ (Or.inl rfl) rfl (fun r_8 m_8 _ => ?_)
  refine ok_if_ne 16 14 dX11_perform_11 (by decide) rfl (fun _ => ?_) (fun _ => ?_)
  · refine ok_aload_n 17 0 dX11_perform_16 rfl rfl rfl ?_
    refine ok_getR 20 dX11_perform_17 rfl rfl F_Encores_16 sg_0 rfl (Nat.le_of_ble_eq_true rfl) rfl rfl ?_
    refine ok_iconst 21 0 dX11_perform_20 rfl rfl ?_
    refine ok_callVi (np := 1) (M' := m_X1_hour) (As := [.int 0]) (st := []) 24 dX11_perform_21 rfl rfl km_X1_hour ki_X1_hour kv_X1_hour ml_Encores_98 (by decide) sg_2 rfl (Nat.le_of_ble_eq_true rfl) rfl rfl rfl (Nat.le_of_ble_eq_true rfl) (c_X1_hour N (d + 4) 0 m_8) ⟨Nat.le_refl _, Nat.le_refl _⟩ (Or.inl rfl) rfl (fun r_21 m_21 _ => ?_)
    refine ok_bipush 26 21 dX11_perform_24 rfl rfl ?_
    refine ok_aload_n 27 0 dX11_perform_26 rfl rfl rfl ?_
    refine ok_getR 30 dX11_perform_27 rfl rfl F_Encores_16 sg_0 rfl (Nat.le_of_ble_eq_true rfl) rfl rfl ?_
    refine ok_getR 33 dX11_perform_30 rfl rfl F_Encores_131 sg_2 rfl (Nat.le_of_ble_eq_true rfl) rfl rfl ?_
    refine ok_iload_n 34 1 dX11_perform_33 rfl rfl rfl ?_
    refine ok_iconst 35 1 dX11_perform_34 rfl rfl ?_
    refine ok_callVi (np := 2) (M' := m_X9_at) (As := [.int a1, .int 1]) (st := [.int 21, .int r_21]) 38 dX11_perform_35 rfl rfl km_X9_at ki_X9_at kv_X9_at ml_Encores_142 (by decide) sg_5 rfl (Nat.le_of_ble_eq_true rfl) rfl rfl rfl (Nat.le_of_ble_eq_true rfl) (c_X9_at N (d + 5) 5 a1 1 tg_5 m_21) ⟨Nat.le_refl _, Nat.le_refl _⟩ (Or.inl rfl) rfl (fun r_35 m_35 _ => ?_)
    refine ok_imul 39 dX11_perform_38 rfl ?_
    refine ok_iadd 40 dX11_perform_39 rfl ?_
    refine ok_bndI (fun a2_40 => ?_)
    refine ok_istore_n 41 2 [some (.ref 0), some (.int a1), some (.int a2_40)] dX11_perform_40 rfl rfl (by decide) rfl ?_
    refine ok_iload_n 42 2 dX11_perform_41 rfl rfl rfl ?_
    refine ok_sipush 45 9999 dX11_perform_42 rfl rfl ?_
    refine ok_icmp_lt 50 48 dX11_perform_45 (by decide) rfl (fun _ => ?_) (fun _ => ?_)
    · refine ok_aload_n 51 0 dX11_perform_50 rfl rfl rfl ?_
      refine ok_getR 54 dX11_perform_51 rfl rfl F_Encores_30 sg_0 rfl (Nat.le_of_ble_eq_true rfl) rfl rfl ?_
      refine ok_aload_n 55 0 dX11_perform_54 rfl rfl rfl ?_
      refine ok_getR 58 dX11_perform_55 rfl rfl F_Encores_16 sg_0 rfl (Nat.le_of_ble_eq_true rfl) rfl rfl ?_
      refine ok_callVv (np := 1) (M' := m_X4_keep) (As := [.ref 2]) (st := []) 61 dX11_perform_58 rfl rfl km_X4_keep ki_X4_keep kv_X4_keep ml_Encores_146 (by decide) sg_48 rfl (Nat.le_of_ble_eq_true rfl) rfl rfl rfl (Nat.le_of_ble_eq_true rfl) (c_X4_keep N (d + 2) m_35) ⟨Nat.le_refl _, Nat.le_refl _⟩ (Or.inl rfl) rfl (fun _ m_58 _ => ?_)
      refine ok_aload_n 62 0 dX11_perform_61 rfl rfl rfl ?_
      refine ok_getR 65 dX11_perform_62 rfl rfl F_Encores_71 sg_0 rfl (Nat.le_of_ble_eq_true rfl) rfl rfl ?_
      refine ok_iload_n 66 1 dX11_perform_65 rfl rfl rfl ?_
      refine ok_callVi (np := 1) (M' := m_X8_doWithAgains) (As := [.int a1]) (st := []) 69 dX11_perform_66 rfl rfl km_X8_doWithAgains ki_X8_doWithAgains kv_X8_doWithAgains ml_Encores_149 (by decide) sg_113 rfl (Nat.le_of_ble_eq_true rfl) rfl rfl rfl (Nat.le_of_ble_eq_true rfl) (c_X8_doWithAgains N (d + 0) a1 m_58) ⟨Nat.le_refl _, Nat.le_refl _⟩ (Or.inl rfl) rfl (fun r_66 m_66 _ => ?_)
      exact ok_iret dX11_perform_69 rfl
    · refine ok_iconst 49 (-1) dX11_perform_48 rfl rfl ?_
      exact ok_iret dX11_perform_49 rfl
  · refine ok_iconst 15 (-1) dX11_perform_14 rfl rfl ?_
    exact ok_iret dX11_perform_15 rfl

theorem c_X11_perform (N d : Nat) (a1 : Int32)  (m : Mem) : CM SX (d + 6) m_X11_perform SG SG [.ref 0, .int a1] m (f_X11_perform N a1 m) :=
  CM.ofOk km_X11_perform ⟨Nat.le_refl _, Nat.le_refl _⟩ (by simp [Value.category]) (Nat.le_of_ble_eq_true rfl) (ok_X11_perform N d a1 m)

