def f_X12_asked (N : Nat)  (m : Mem) : Ans :=
bd (f_X12_is N 1008 m) fun r_3 m_3 =>
if r_3 = 0 then (bd (f_X12_is N 1009 m_3) fun r_15 m_15 =>
if r_15 = 0 then (bd (f_X12_is N 1010 m_15) fun r_27 m_27 =>
if r_27 = 0 then (bd (f_X12_is N 1011 m_27) fun r_39 m_39 =>
if r_39 = 0 then (bd (f_X12_is N 1012 m_39) fun r_51 m_51 =>
if r_51 = 0 then (bd (f_X12_is N 1013 m_51) fun r_63 m_63 =>
if r_63 = 0 then (bd (f_X12_is N 1014 m_63) fun r_75 m_75 =>
if r_75 = 0 then (bd (f_X12_is N 1015 m_75) fun r_87 m_87 =>
if r_87 = 0 then (bd (f_X12_is N 1016 m_87) fun r_99 m_99 =>
if r_99 = 0 then (bd (f_X12_is N 1017 m_99) fun r_111 m_111 =>
if r_111 = 0 then (some (1, m_111))
else (some (50, m_111)))
else (some (49, m_99)))
else (some (48, m_87)))
else (some (47, m_75)))
else (some (46, m_63)))
else (some (45, m_51)))
else (some (44, m_39)))
else (some (43, m_27)))
else (some (42, m_15)))
else (some (41, m_3))

set_option maxRecDepth 100000 in
set_option maxHeartbeats 4000000 in
theorem ok_X12_asked (N d : Nat)   (m : Mem) : Ok none SG (d + 5) m_X12_asked 0 [some (.ref 123)] [] SG m (f_X12_asked N m) := by
  unfold f_X12_asked
  refine ok_aload_n 1 0 dX12_asked_0 rfl rfl rfl ?_
  refine ok_ldcS 3 8 dX12_asked_1 rfl rfl rfl ?_
  refine ok_callVi (np := 1) (M' := m_X12_is) (As := [.ref 1008]) (st := []) 6 dX12_asked_3 rfl rfl km_X12_is ki_X12_is kv_X12_is ml_EncoresModel_99 (by decide) sg_123 rfl (Nat.le_of_ble_eq_true rfl) rfl rfl rfl (Nat.le_of_ble_eq_true rfl) (c_X12_is N (d + 0) 1008 (by decide) m) ⟨Nat.le_refl _, Nat.le_refl _⟩ (Or.inl rfl) rfl (fun r_3 m_3 _ => ?_)
  refine ok_if_eq 12 9 dX12_asked_6 (by decide) rfl (fun _ => ?_) (fun _ => ?_)
  · refine ok_aload_n 13 0 dX12_asked_12 rfl rfl rfl ?_
    refine ok_ldcS 15 9 dX12_asked_13 rfl rfl rfl ?_
    refine ok_callVi (np := 1) (M' := m_X12_is) (As := [.ref 1009]) (st := []) 18 dX12_asked_15 rfl rfl km_X12_is ki_X12_is kv_X12_is ml_EncoresModel_99 (by decide) sg_123 rfl (Nat.le_of_ble_eq_true rfl) rfl rfl rfl (Nat.le_of_ble_eq_true rfl) (c_X12_is N (d + 0) 1009 (by decide) m_3) ⟨Nat.le_refl _, Nat.le_refl _⟩ (Or.inl rfl) rfl (fun r_15 m_15 _ => ?_)
    refine ok_if_eq 24 21 dX12_asked_18 (by decide) rfl (fun _ => ?_) (fun _ => ?_)
    · refine ok_aload_n 25 0 dX12_asked_24 rfl rfl rfl ?_
      refine ok_ldcS 27 10 dX12_asked_25 rfl rfl rfl ?_
      refine ok_callVi (np := 1) (M' := m_X12_is) (As := [.ref 1010]) (st := []) 30 dX12_asked_27 rfl rfl km_X12_is ki_X12_is kv_X12_is ml_EncoresModel_99 (by decide) sg_123 rfl (Nat.le_of_ble_eq_true rfl) rfl rfl rfl (Nat.le_of_ble_eq_true rfl) (c_X12_is N (d + 0) 1010 (by decide) m_15) ⟨Nat.le_refl _, Nat.le_refl _⟩ (Or.inl rfl) rfl (fun r_27 m_27 _ => ?_)
      refine ok_if_eq 36 33 dX12_asked_30 (by decide) rfl (fun _ => ?_) (fun _ => ?_)
      · refine ok_aload_n 37 0 dX12_asked_36 rfl rfl rfl ?_
        refine ok_ldcS 39 11 dX12_asked_37 rfl rfl rfl ?_
        refine ok_callVi (np := 1) (M' := m_X12_is) (As := [.ref 1011]) (st := []) 42 dX12_asked_39 rfl rfl km_X12_is ki_X12_is kv_X12_is ml_EncoresModel_99 (by decide) sg_123 rfl (Nat.le_of_ble_eq_true rfl) rfl rfl rfl (Nat.le_of_ble_eq_true rfl) (c_X12_is N (d + 0) 1011 (by decide) m_27) ⟨Nat.le_refl _, Nat.le_refl _⟩ (Or.inl rfl) rfl (fun r_39 m_39 _ => ?_)
        refine ok_if_eq 48 45 dX12_asked_42 (by decide) rfl (fun _ => ?_) (fun _ => ?_)
        · refine ok_aload_n 49 0 dX12_asked_48 rfl rfl rfl ?_
          refine ok_ldcS 51 12 dX12_asked_49 rfl rfl rfl ?_
          refine ok_callVi (np := 1) (M' := m_X12_is) (As := [.ref 1012]) (st := []) 54 dX12_asked_51 rfl rfl km_X12_is ki_X12_is kv_X12_is ml_EncoresModel_99 (by decide) sg_123 rfl (Nat.le_of_ble_eq_true rfl) rfl rfl rfl (Nat.le_of_ble_eq_true rfl) (c_X12_is N (d + 0) 1012 (by decide) m_39) ⟨Nat.le_refl _, Nat.le_refl _⟩ (Or.inl rfl) rfl (fun r_51 m_51 _ => ?_)
          refine ok_if_eq 60 57 dX12_asked_54 (by decide) rfl (fun _ => ?_) (fun _ => ?_)
          · refine ok_aload_n 61 0 dX12_asked_60 rfl rfl rfl ?_
            refine ok_ldcS 63 13 dX12_asked_61 rfl rfl rfl ?_
            refine ok_callVi (np := 1) (M' := m_X12_is) (As := [.ref 1013]) (st := []) 66 dX12_asked_63 rfl rfl km_X12_is ki_X12_is kv_X12_is ml_EncoresModel_99 (by decide) sg_123 rfl (Nat.le_of_ble_eq_true rfl) rfl rfl rfl (Nat.le_of_ble_eq_true rfl) (c_X12_is N (d + 0) 1013 (by decide) m_51) ⟨Nat.le_refl _, Nat.le_refl _⟩ (Or.inl rfl) rfl (fun r_63 m_63 _ => ?_)
            refine ok_if_eq 72 69 dX12_asked_66 (by decide) rfl (fun _ => ?_) (fun _ => ?_)
            · refine ok_aload_n 73 0 dX12_asked_72 rfl rfl rfl ?_
              refine ok_ldcS 75 14 dX12_asked_73 rfl rfl rfl ?_
              refine ok_callVi (np := 1) (M' := m_X12_is) (As := [.ref 1014]) (st := []) 78 dX12_asked_75 rfl rfl km_X12_is ki_X12_is kv_X12_is ml_EncoresModel_99 (by decide) sg_123 rfl (Nat.le_of_ble_eq_true rfl) rfl rfl rfl (Nat.le_of_ble_eq_true rfl) (c_X12_is N (d + 0) 1014 (by decide) m_63) ⟨Nat.le_refl _, Nat.le_refl _⟩ (Or.inl rfl) rfl (fun r_75 m_75 _ => ?_)
              refine ok_if_eq 84 81 dX12_asked_78 (by decide) rfl (fun _ => ?_) (fun _ => ?_)
              · refine ok_aload_n 85 0 dX12_asked_84 rfl rfl rfl ?_
                refine ok_ldcS 87 15 dX12_asked_85 rfl rfl rfl ?_
                refine ok_callVi (np := 1) (M' := m_X12_is) (As := [.ref 1015]) (st := []) 90 dX12_asked_87 rfl rfl km_X12_is ki_X12_is kv_X12_is ml_EncoresModel_99 (by decide) sg_123 rfl (Nat.le_of_ble_eq_true rfl) rfl rfl rfl (Nat.le_of_ble_eq_true rfl) (c_X12_is N (d + 0) 1015 (by decide) m_75) ⟨Nat.le_refl _, Nat.le_refl _⟩ (Or.inl rfl) rfl (fun r_87 m_87 _ => ?_)
                refine ok_if_eq 96 93 dX12_asked_90 (by decide) rfl (fun _ => ?_) (fun _ => ?_)
                · refine ok_aload_n 97 0 dX12_asked_96 rfl rfl rfl ?_
                  refine ok_ldcS 99 16 dX12_asked_97 rfl rfl rfl ?_
                  refine ok_callVi (np := 1) (M' := m_X12_is) (As := [.ref 1016]) (st := []) 102 dX12_asked_99 rfl rfl km_X12_is ki_X12_is kv_X12_is ml_EncoresModel_99 (by decide) sg_123 rfl (Nat.le_of_ble_eq_true rfl) rfl rfl rfl (Nat.le_of_ble_eq_true rfl) (c_X12_is N (d + 0) 1016 (by decide) m_87) ⟨Nat.le_refl _, Nat.le_refl _⟩ (Or.inl rfl) rfl (fun r_99 m_99 _ => ?_)
                  refine ok_if_eq 108 105 dX12_asked_102 (by decide) rfl (fun _ => ?_) (fun _ => ?_)
                  · refine ok_aload_n 109 0 dX12_asked_108 rfl rfl rfl ?_
                    refine ok_ldcS 111 17 dX12_asked_109 rfl rfl rfl ?_
                    refine ok_callVi (np := 1) (M' := m_X12_is) (As := [.ref 1017]) (st := []) 114 dX12_asked_111 rfl rfl km_X12_is ki_X12_is kv_X12_is ml_EncoresModel_99 (by decide) sg_123 rfl (Nat.le_of_ble_eq_true rfl) rfl rfl rfl (Nat.le_of_ble_eq_true rfl) (c_X12_is N (d + 0) 1017 (by decide) m_99) ⟨Nat.le_refl _, Nat.le_refl _⟩ (Or.inl rfl) rfl (fun r_111 m_111 _ => ?_)
                    refine ok_if_eq 122 117 dX12_asked_114 (by decide) rfl (fun _ => ?_) (fun _ => ?_)
                    · refine ok_iconst 123 1 dX12_asked_122 rfl rfl ?_
                      exact ok_iret dX12_asked_123 rfl
                    · refine ok_bipush 119 50 dX12_asked_117 rfl rfl ?_
                      refine ok_goto 123 dX12_asked_119 (by decide) ?_
                      exact ok_iret dX12_asked_123 rfl
                  · refine ok_bipush 107 49 dX12_asked_105 rfl rfl ?_
                    exact ok_iret dX12_asked_107 rfl
                · refine ok_bipush 95 48 dX12_asked_93 rfl rfl ?_
                  exact ok_iret dX12_asked_95 rfl
              · refine ok_bipush 83 47 dX12_asked_81 rfl rfl ?_
                exact ok_iret dX12_asked_83 rfl
            · refine ok_bipush 71 46 dX12_asked_69 rfl rfl ?_
              exact ok_iret dX12_asked_71 rfl
          · refine ok_bipush 59 45 dX12_asked_57 rfl rfl ?_
            exact ok_iret dX12_asked_59 rfl
        · refine ok_bipush 47 44 dX12_asked_45 rfl rfl ?_
          exact ok_iret dX12_asked_47 rfl
      · refine ok_bipush 35 43 dX12_asked_33 rfl rfl ?_
        exact ok_iret dX12_asked_35 rfl
    · refine ok_bipush 23 42 dX12_asked_21 rfl rfl ?_
      exact ok_iret dX12_asked_23 rfl
  · refine ok_bipush 11 41 dX12_asked_9 rfl rfl ?_
    exact ok_iret dX12_asked_11 rfl

theorem c_X12_asked (N d : Nat)   (m : Mem) : CM (d + 5) m_X12_asked SG SG [.ref 123] m (f_X12_asked N m) :=
  CM.ofOk km_X12_asked ⟨Nat.le_refl _, Nat.le_refl _⟩ (by simp [Value.category]) (Nat.le_of_ble_eq_true rfl) (ok_X12_asked N d  m)

def f_X12_lawWord (N : Nat)  (m : Mem) : Ans :=
bd (f_X12_is N 1001 m) fun r_3 m_3 =>
if r_3 = 0 then (bd (f_X12_is N 1002 m_3) fun r_14 m_14 =>
if r_14 = 0 then (bd (f_X12_is N 1003 m_14) fun r_25 m_25 =>
if r_25 = 0 then (bd (f_X12_is N 1004 m_25) fun r_36 m_36 =>
if r_36 = 0 then (bd (f_X12_is N 1005 m_36) fun r_48 m_48 =>
if r_48 = 0 then (bd (f_X12_is N 1006 m_48) fun r_60 m_60 =>
if r_60 = 0 then (bd (f_X12_is N 1007 m_60) fun r_72 m_72 =>
if r_72 = 0 then (bd (f_X12_asked N m_72) fun r_84 m_84 =>
some (r_84, m_84))
else (some (22, m_72)))
else (some (21, m_60)))
else (some (20, m_48)))
else (some (6, m_36)))
else (some (5, m_25)))
else (some (4, m_14)))
else (some (3, m_3))

set_option maxRecDepth 100000 in
set_option maxHeartbeats 4000000 in
theorem ok_X12_lawWord (N d : Nat)   (m : Mem) : Ok none SG (d + 6) m_X12_lawWord 0 [some (.ref 123)] [] SG m (f_X12_lawWord N m) := by
  unfold f_X12_lawWord
  refine ok_aload_n 1 0 dX12_lawWord_0 rfl rfl rfl ?_
  refine ok_ldcS 3 1 dX12_lawWord_1 rfl rfl rfl ?_
  refine ok_callVi (np := 1) (M' := m_X12_is) (As := [.ref 1001]) (st := []) 6 dX12_lawWord_3 rfl rfl km_X12_is ki_X12_is kv_X12_is ml_EncoresModel_99 (by decide) sg_123 rfl (Nat.le_of_ble_eq_true rfl) rfl rfl rfl (Nat.le_of_ble_eq_true rfl) (c_X12_is N (d + 1) 1001 (by decide) m) ⟨Nat.le_refl _, Nat.le_refl _⟩ (Or.inl rfl) rfl (fun r_3 m_3 _ => ?_)
  refine ok_if_eq 11 9 dX12_lawWord_6 (by decide) rfl (fun _ => ?_) (fun _ => ?_)
  · refine ok_aload_n 12 0 dX12_lawWord_11 rfl rfl rfl ?_
    refine ok_ldcS 14 2 dX12_lawWord_12 rfl rfl rfl ?_
    refine ok_callVi (np := 1) (M' := m_X12_is) (As := [.ref 1002]) (st := []) 17 dX12_lawWord_14 rfl rfl km_X12_is ki_X12_is kv_X12_is ml_EncoresModel_99 (by decide) sg_123 rfl (Nat.le_of_ble_eq_true rfl) rfl rfl rfl (Nat.le_of_ble_eq_true rfl) (c_X12_is N (d + 1) 1002 (by decide) m_3) ⟨Nat.le_refl _, Nat.le_refl _⟩ (Or.inl rfl) rfl (fun r_14 m_14 _ => ?_)
    refine ok_if_eq 22 20 dX12_lawWord_17 (by decide) rfl (fun _ => ?_) (fun _ => ?_)
    · refine ok_aload_n 23 0 dX12_lawWord_22 rfl rfl rfl ?_
      refine ok_ldcS 25 3 dX12_lawWord_23 rfl rfl rfl ?_
      refine ok_callVi (np := 1) (M' := m_X12_is) (As := [.ref 1003]) (st := []) 28 dX12_lawWord_25 rfl rfl km_X12_is ki_X12_is kv_X12_is ml_EncoresModel_99 (by decide) sg_123 rfl (Nat.le_of_ble_eq_true rfl) rfl rfl rfl (Nat.le_of_ble_eq_true rfl) (c_X12_is N (d + 1) 1003 (by decide) m_14) ⟨Nat.le_refl _, Nat.le_refl _⟩ (Or.inl rfl) rfl (fun r_25 m_25 _ => ?_)
      refine ok_if_eq 33 31 dX12_lawWord_28 (by decide) rfl (fun _ => ?_) (fun _ => ?_)
      · refine ok_aload_n 34 0 dX12_lawWord_33 rfl rfl rfl ?_
        refine ok_ldcS 36 4 dX12_lawWord_34 rfl rfl rfl ?_
        refine ok_callVi (np := 1) (M' := m_X12_is) (As := [.ref 1004]) (st := []) 39 dX12_lawWord_36 rfl rfl km_X12_is ki_X12_is kv_X12_is ml_EncoresModel_99 (by decide) sg_123 rfl (Nat.le_of_ble_eq_true rfl) rfl rfl rfl (Nat.le_of_ble_eq_true rfl) (c_X12_is N (d + 1) 1004 (by decide) m_25) ⟨Nat.le_refl _, Nat.le_refl _⟩ (Or.inl rfl) rfl (fun r_36 m_36 _ => ?_)
        refine ok_if_eq 45 42 dX12_lawWord_39 (by decide) rfl (fun _ => ?_) (fun _ => ?_)
        · refine ok_aload_n 46 0 dX12_lawWord_45 rfl rfl rfl ?_
          refine ok_ldcS 48 5 dX12_lawWord_46 rfl rfl rfl ?_
          refine ok_callVi (np := 1) (M' := m_X12_is) (As := [.ref 1005]) (st := []) 51 dX12_lawWord_48 rfl rfl km_X12_is ki_X12_is kv_X12_is ml_EncoresModel_99 (by decide) sg_123 rfl (Nat.le_of_ble_eq_true rfl) rfl rfl rfl (Nat.le_of_ble_eq_true rfl) (c_X12_is N (d + 1) 1005 (by decide) m_36) ⟨Nat.le_refl _, Nat.le_refl _⟩ (Or.inl rfl) rfl (fun r_48 m_48 _ => ?_)
          refine ok_if_eq 57 54 dX12_lawWord_51 (by decide) rfl (fun _ => ?_) (fun _ => ?_)
          · refine ok_aload_n 58 0 dX12_lawWord_57 rfl rfl rfl ?_
            refine ok_ldcS 60 6 dX12_lawWord_58 rfl rfl rfl ?_
            refine ok_callVi (np := 1) (M' := m_X12_is) (As := [.ref 1006]) (st := []) 63 dX12_lawWord_60 rfl rfl km_X12_is ki_X12_is kv_X12_is ml_EncoresModel_99 (by decide) sg_123 rfl (Nat.le_of_ble_eq_true rfl) rfl rfl rfl (Nat.le_of_ble_eq_true rfl) (c_X12_is N (d + 1) 1006 (by decide) m_48) ⟨Nat.le_refl _, Nat.le_refl _⟩ (Or.inl rfl) rfl (fun r_60 m_60 _ => ?_)
            refine ok_if_eq 69 66 dX12_lawWord_63 (by decide) rfl (fun _ => ?_) (fun _ => ?_)
            · refine ok_aload_n 70 0 dX12_lawWord_69 rfl rfl rfl ?_
              refine ok_ldcS 72 7 dX12_lawWord_70 rfl rfl rfl ?_
              refine ok_callVi (np := 1) (M' := m_X12_is) (As := [.ref 1007]) (st := []) 75 dX12_lawWord_72 rfl rfl km_X12_is ki_X12_is kv_X12_is ml_EncoresModel_99 (by decide) sg_123 rfl (Nat.le_of_ble_eq_true rfl) rfl rfl rfl (Nat.le_of_ble_eq_true rfl) (c_X12_is N (d + 1) 1007 (by decide) m_60) ⟨Nat.le_refl _, Nat.le_refl _⟩ (Or.inl rfl) rfl (fun r_72 m_72 _ => ?_)
              refine ok_if_eq 83 78 dX12_lawWord_75 (by decide) rfl (fun _ => ?_) (fun _ => ?_)
              · refine ok_aload_n 84 0 dX12_lawWord_83 rfl rfl rfl ?_
                refine ok_callVi (np := 0) (M' := m_X12_asked) (As := []) (st := []) 87 dX12_lawWord_84 rfl rfl km_X12_asked ki_X12_asked kv_X12_asked ml_EncoresModel_135 (by decide) sg_123 rfl (Nat.le_of_ble_eq_true rfl) rfl rfl rfl (Nat.le_of_ble_eq_true rfl) (c_X12_asked N (d + 0) m_72) ⟨Nat.le_refl _, Nat.le_refl _⟩ (Or.inl rfl) rfl (fun r_84 m_84 _ => ?_)
                exact ok_iret dX12_lawWord_87 rfl
              · refine ok_bipush 80 22 dX12_lawWord_78 rfl rfl ?_
                refine ok_goto 87 dX12_lawWord_80 (by decide) ?_
                exact ok_iret dX12_lawWord_87 rfl
            · refine ok_bipush 68 21 dX12_lawWord_66 rfl rfl ?_
              exact ok_iret dX12_lawWord_68 rfl
          · refine ok_bipush 56 20 dX12_lawWord_54 rfl rfl ?_
            exact ok_iret dX12_lawWord_56 rfl
        · refine ok_bipush 44 6 dX12_lawWord_42 rfl rfl ?_
          exact ok_iret dX12_lawWord_44 rfl
      · refine ok_iconst 32 5 dX12_lawWord_31 rfl rfl ?_
        exact ok_iret dX12_lawWord_32 rfl
    · refine ok_iconst 21 4 dX12_lawWord_20 rfl rfl ?_
      exact ok_iret dX12_lawWord_21 rfl
  · refine ok_iconst 10 3 dX12_lawWord_9 rfl rfl ?_
    exact ok_iret dX12_lawWord_10 rfl

theorem c_X12_lawWord (N d : Nat)   (m : Mem) : CM (d + 6) m_X12_lawWord SG SG [.ref 123] m (f_X12_lawWord N m) :=
  CM.ofOk km_X12_lawWord ⟨Nat.le_refl _, Nat.le_refl _⟩ (by simp [Value.category]) (Nat.le_of_ble_eq_true rfl) (ok_X12_lawWord N d  m)

def f_X12_statuteWord (N : Nat)  (m : Mem) : Ans :=
bd (f_X12_is N 1009 m) fun r_3 m_3 =>
if r_3 = 0 then (bd (f_X12_is N 1018 m_3) fun r_15 m_15 =>
if r_15 = 0 then (bd (f_X12_is N 1019 m_15) fun r_27 m_27 =>
if r_27 = 0 then (bd (f_X12_is N 1020 m_27) fun r_39 m_39 =>
if r_39 = 0 then (bd (f_X12_is N 1021 m_39) fun r_51 m_51 =>
if r_51 = 0 then (some (1, m_51))
else (some (11, m_51)))
else (some (10, m_39)))
else (some (9, m_27)))
else (some (8, m_15)))
else (some (7, m_3))

set_option maxRecDepth 100000 in
set_option maxHeartbeats 4000000 in
theorem ok_X12_statuteWord (N d : Nat)   (m : Mem) : Ok none SG (d + 5) m_X12_statuteWord 0 [some (.ref 123)] [] SG m (f_X12_statuteWord N m) := by
  unfold f_X12_statuteWord
  refine ok_aload_n 1 0 dX12_statuteWord_0 rfl rfl rfl ?_
  refine ok_ldcS 3 9 dX12_statuteWord_1 rfl rfl rfl ?_
  refine ok_callVi (np := 1) (M' := m_X12_is) (As := [.ref 1009]) (st := []) 6 dX12_statuteWord_3 rfl rfl km_X12_is ki_X12_is kv_X12_is ml_EncoresModel_99 (by decide) sg_123 rfl (Nat.le_of_ble_eq_true rfl) rfl rfl rfl (Nat.le_of_ble_eq_true rfl) (c_X12_is N (d + 0) 1009 (by decide) m) ⟨Nat.le_refl _, Nat.le_refl _⟩ (Or.inl rfl) rfl (fun r_3 m_3 _ => ?_)
  refine ok_if_eq 12 9 dX12_statuteWord_6 (by decide) rfl (fun _ => ?_) (fun _ => ?_)
  · refine ok_aload_n 13 0 dX12_statuteWord_12 rfl rfl rfl ?_
    refine ok_ldcS 15 18 dX12_statuteWord_13 rfl rfl rfl ?_
    refine ok_callVi (np := 1) (M' := m_X12_is) (As := [.ref 1018]) (st := []) 18 dX12_statuteWord_15 rfl rfl km_X12_is ki_X12_is kv_X12_is ml_EncoresModel_99 (by decide) sg_123 rfl (Nat.le_of_ble_eq_true rfl) rfl rfl rfl (Nat.le_of_ble_eq_true rfl) (c_X12_is N (d + 0) 1018 (by decide) m_3) ⟨Nat.le_refl _, Nat.le_refl _⟩ (Or.inl rfl) rfl (fun r_15 m_15 _ => ?_)
    refine ok_if_eq 24 21 dX12_statuteWord_18 (by decide) rfl (fun _ => ?_) (fun _ => ?_)
    · refine ok_aload_n 25 0 dX12_statuteWord_24 rfl rfl rfl ?_
      refine ok_ldcS 27 19 dX12_statuteWord_25 rfl rfl rfl ?_
      refine ok_callVi (np := 1) (M' := m_X12_is) (As := [.ref 1019]) (st := []) 30 dX12_statuteWord_27 rfl rfl km_X12_is ki_X12_is kv_X12_is ml_EncoresModel_99 (by decide) sg_123 rfl (Nat.le_of_ble_eq_true rfl) rfl rfl rfl (Nat.le_of_ble_eq_true rfl) (c_X12_is N (d + 0) 1019 (by decide) m_15) ⟨Nat.le_refl _, Nat.le_refl _⟩ (Or.inl rfl) rfl (fun r_27 m_27 _ => ?_)
      refine ok_if_eq 36 33 dX12_statuteWord_30 (by decide) rfl (fun _ => ?_) (fun _ => ?_)
      · refine ok_aload_n 37 0 dX12_statuteWord_36 rfl rfl rfl ?_
        refine ok_ldcS 39 20 dX12_statuteWord_37 rfl rfl rfl ?_
        refine ok_callVi (np := 1) (M' := m_X12_is) (As := [.ref 1020]) (st := []) 42 dX12_statuteWord_39 rfl rfl km_X12_is ki_X12_is kv_X12_is ml_EncoresModel_99 (by decide) sg_123 rfl (Nat.le_of_ble_eq_true rfl) rfl rfl rfl (Nat.le_of_ble_eq_true rfl) (c_X12_is N (d + 0) 1020 (by decide) m_27) ⟨Nat.le_refl _, Nat.le_refl _⟩ (Or.inl rfl) rfl (fun r_39 m_39 _ => ?_)
        refine ok_if_eq 48 45 dX12_statuteWord_42 (by decide) rfl (fun _ => ?_) (fun _ => ?_)
        · refine ok_aload_n 49 0 dX12_statuteWord_48 rfl rfl rfl ?_
          refine ok_ldcS 51 21 dX12_statuteWord_49 rfl rfl rfl ?_
          refine ok_callVi (np := 1) (M' := m_X12_is) (As := [.ref 1021]) (st := []) 54 dX12_statuteWord_51 rfl rfl km_X12_is ki_X12_is kv_X12_is ml_EncoresModel_99 (by decide) sg_123 rfl (Nat.le_of_ble_eq_true rfl) rfl rfl rfl (Nat.le_of_ble_eq_true rfl) (c_X12_is N (d + 0) 1021 (by decide) m_39) ⟨Nat.le_refl _, Nat.le_refl _⟩ (Or.inl rfl) rfl (fun r_51 m_51 _ => ?_)
          refine ok_if_eq 62 57 dX12_statuteWord_54 (by decide) rfl (fun _ => ?_) (fun _ => ?_)
          · refine ok_iconst 63 1 dX12_statuteWord_62 rfl rfl ?_
            exact ok_iret dX12_statuteWord_63 rfl
          · refine ok_bipush 59 11 dX12_statuteWord_57 rfl rfl ?_
            refine ok_goto 63 dX12_statuteWord_59 (by decide) ?_
            exact ok_iret dX12_statuteWord_63 rfl
        · refine ok_bipush 47 10 dX12_statuteWord_45 rfl rfl ?_
          exact ok_iret dX12_statuteWord_47 rfl
      · refine ok_bipush 35 9 dX12_statuteWord_33 rfl rfl ?_
        exact ok_iret dX12_statuteWord_35 rfl
    · refine ok_bipush 23 8 dX12_statuteWord_21 rfl rfl ?_
      exact ok_iret dX12_statuteWord_23 rfl
  · refine ok_bipush 11 7 dX12_statuteWord_9 rfl rfl ?_
    exact ok_iret dX12_statuteWord_11 rfl

theorem c_X12_statuteWord (N d : Nat)   (m : Mem) : CM (d + 5) m_X12_statuteWord SG SG [.ref 123] m (f_X12_statuteWord N m) :=
  CM.ofOk km_X12_statuteWord ⟨Nat.le_refl _, Nat.le_refl _⟩ (by simp [Value.category]) (Nat.le_of_ble_eq_true rfl) (ok_X12_statuteWord N d  m)

def f_X12_word (N : Nat)  (m : Mem) : Ans :=
swt (Int32.toInt (m 123 12) - (0)) [(bd (f_X12_lawWord N m) fun r_33 m_33 =>
some (r_33, m_33)),
(bd (f_X12_statuteWord N m) fun r_38 m_38 =>
some (r_38, m_38)),
(bd (f_X12_is N 1022 m) fun r_45 m_45 =>
if r_45 = 0 then (bd (f_X12_is N 1023 m_45) fun r_59 m_59 =>
if r_59 = 0 then (some (1, m_59))
else (some (13, m_59)))
else (some (12, m_45)))] (bd (f_X12_is N 1008 m) fun r_75 m_75 =>
if r_75 = 0 then (bd (f_X12_is N 1016 m_75) fun r_89 m_89 =>
if r_89 = 0 then (some (1, m_89))
else (some (15, m_89)))
else (some (14, m_75)))

set_option maxRecDepth 100000 in
set_option maxHeartbeats 4000000 in
theorem ok_X12_word (N d : Nat)   (m : Mem) : Ok none SG (d + 7) m_X12_word 0 [some (.ref 123)] [] SG m (f_X12_word N m) := by
  unfold f_X12_word
  refine ok_aload_n 1 0 dX12_word_0 rfl rfl rfl ?_
  refine ok_getI 4 dX12_word_1 rfl rfl F_EncoresModel_146 sg_123 rfl (Nat.le_of_ble_eq_true rfl) rfl ?_
  refine ok_tsw 72 [32, 37, 42] dX12_word_4 (by decide) (by decide) (by decide) rfl ?_ ?_
  · refine And.intro ?_ (And.intro ?_ (And.intro ?_ (trivial)))
    · refine ok_aload_n 33 0 dX12_word_32 rfl rfl rfl ?_
      refine ok_callVi (np := 0) (M' := m_X12_lawWord) (As := []) (st := []) 36 dX12_word_33 rfl rfl km_X12_lawWord ki_X12_lawWord kv_X12_lawWord ml_EncoresModel_149 (by decide) sg_123 rfl (Nat.le_of_ble_eq_true rfl) rfl rfl rfl (Nat.le_of_ble_eq_true rfl) (c_X12_lawWord N (d + 0) m) ⟨Nat.le_refl _, Nat.le_refl _⟩ (Or.inl rfl) rfl (fun r_33 m_33 _ => ?_)
      exact ok_iret dX12_word_36 rfl
    · refine ok_aload_n 38 0 dX12_word_37 rfl rfl rfl ?_
      refine ok_callVi (np := 0) (M' := m_X12_statuteWord) (As := []) (st := []) 41 dX12_word_38 rfl rfl km_X12_statuteWord ki_X12_statuteWord kv_X12_statuteWord ml_EncoresModel_152 (by decide) sg_123 rfl (Nat.le_of_ble_eq_true rfl) rfl rfl rfl (Nat.le_of_ble_eq_true rfl) (c_X12_statuteWord N (d + 1) m) ⟨Nat.le_refl _, Nat.le_refl _⟩ (Or.inl rfl) rfl (fun r_38 m_38 _ => ?_)
      exact ok_iret dX12_word_41 rfl
    · refine ok_aload_n 43 0 dX12_word_42 rfl rfl rfl ?_
      refine ok_ldcS 45 22 dX12_word_43 rfl rfl rfl ?_
      refine ok_callVi (np := 1) (M' := m_X12_is) (As := [.ref 1022]) (st := []) 48 dX12_word_45 rfl rfl km_X12_is ki_X12_is kv_X12_is ml_EncoresModel_99 (by decide) sg_123 rfl (Nat.le_of_ble_eq_true rfl) rfl rfl rfl (Nat.le_of_ble_eq_true rfl) (c_X12_is N (d + 2) 1022 (by decide) m) ⟨Nat.le_refl _, Nat.le_refl _⟩ (Or.inl rfl) rfl (fun r_45 m_45 _ => ?_)
      refine ok_if_eq 56 51 dX12_word_48 (by decide) rfl (fun _ => ?_) (fun _ => ?_)
      · refine ok_aload_n 57 0 dX12_word_56 rfl rfl rfl ?_
        refine ok_ldcS 59 23 dX12_word_57 rfl rfl rfl ?_
        refine ok_callVi (np := 1) (M' := m_X12_is) (As := [.ref 1023]) (st := []) 62 dX12_word_59 rfl rfl km_X12_is ki_X12_is kv_X12_is ml_EncoresModel_99 (by decide) sg_123 rfl (Nat.le_of_ble_eq_true rfl) rfl rfl rfl (Nat.le_of_ble_eq_true rfl) (c_X12_is N (d + 2) 1023 (by decide) m_45) ⟨Nat.le_refl _, Nat.le_refl _⟩ (Or.inl rfl) rfl (fun r_59 m_59 _ => ?_)
        refine ok_if_eq 70 65 dX12_word_62 (by decide) rfl (fun _ => ?_) (fun _ => ?_)
        · refine ok_iconst 71 1 dX12_word_70 rfl rfl ?_
          exact ok_iret dX12_word_71 rfl
        · refine ok_bipush 67 13 dX12_word_65 rfl rfl ?_
          refine ok_goto 71 dX12_word_67 (by decide) ?_
          exact ok_iret dX12_word_71 rfl
      · refine ok_bipush 53 12 dX12_word_51 rfl rfl ?_
        refine ok_goto 71 dX12_word_53 (by decide) ?_
        exact ok_iret dX12_word_71 rfl
  · refine ok_aload_n 73 0 dX12_word_72 rfl rfl rfl ?_
    refine ok_ldcS 75 8 dX12_word_73 rfl rfl rfl ?_
    refine ok_callVi (np := 1) (M' := m_X12_is) (As := [.ref 1008]) (st := []) 78 dX12_word_75 rfl rfl km_X12_is ki_X12_is kv_X12_is ml_EncoresModel_99 (by decide) sg_123 rfl (Nat.le_of_ble_eq_true rfl) rfl rfl rfl (Nat.le_of_ble_eq_true rfl) (c_X12_is N (d + 2) 1008 (by decide) m) ⟨Nat.le_refl _, Nat.le_refl _⟩ (Or.inl rfl) rfl (fun r_75 m_75 _ => ?_)
    refine ok_if_eq 86 81 dX12_word_78 (by decide) rfl (fun _ => ?_) (fun _ => ?_)
    · refine ok_aload_n 87 0 dX12_word_86 rfl rfl rfl ?_
      refine ok_ldcS 89 16 dX12_word_87 rfl rfl rfl ?_
      refine ok_callVi (np := 1) (M' := m_X12_is) (As := [.ref 1016]) (st := []) 92 dX12_word_89 rfl rfl km_X12_is ki_X12_is kv_X12_is ml_EncoresModel_99 (by decide) sg_123 rfl (Nat.le_of_ble_eq_true rfl) rfl rfl rfl (Nat.le_of_ble_eq_true rfl) (c_X12_is N (d + 2) 1016 (by decide) m_75) ⟨Nat.le_refl _, Nat.le_refl _⟩ (Or.inl rfl) rfl (fun r_89 m_89 _ => ?_)
      refine ok_if_eq 100 95 dX12_word_92 (by decide) rfl (fun _ => ?_) (fun _ => ?_)
      · refine ok_iconst 101 1 dX12_word_100 rfl rfl ?_
        exact ok_iret dX12_word_101 rfl
      · refine ok_bipush 97 15 dX12_word_95 rfl rfl ?_
        refine ok_goto 101 dX12_word_97 (by decide) ?_
        exact ok_iret dX12_word_101 rfl
    · refine ok_bipush 83 14 dX12_word_81 rfl rfl ?_
      refine ok_goto 101 dX12_word_83 (by decide) ?_
      exact ok_iret dX12_word_101 rfl

theorem c_X12_word (N d : Nat)   (m : Mem) : CM (d + 7) m_X12_word SG SG [.ref 123] m (f_X12_word N m) :=
  CM.ofOk km_X12_word ⟨Nat.le_refl _, Nat.le_refl _⟩ (by simp [Value.category]) (Nat.le_of_ble_eq_true rfl) (ok_X12_word N d  m)

def f_X12_next0_L0 (N : Nat)   (K39 : Mem → Ans) (X : Mem → Ans)  (m : Mem) : Ans :=
bd (f_X12_see N (m 123 17) m) fun r_5 m_5 =>
if r_5 = (32 : Int32) then (bnd (mset m_5 123 17 ((m_5 123 17) + (1 : Int32))) fun m_33 =>
X m_33)
else (bd (f_X12_see N (m_5 123 17) m_5) fun r_18 m_18 =>
if r_18 = (10 : Int32) then (bnd (mset m_18 123 17 ((m_18 123 17) + (1 : Int32))) fun m_33 =>
X m_33)
else (K39 m_18))

def f_X12_next0_J284 (N : Nat)    (s1_284 : Int32) (m : Mem) : Ans :=
if (1 : Int32) = 0 then (bnd (mset m 123 18 1) fun m_303 =>
some (0, m_303))
else (bnd (mset m 123 18 ((100 : Int32) + s1_284)) fun m_303 =>
some (0, m_303))

def f_X12_next0_L126 (N : Nat)   (K189 : Mem → Ans) (X : Mem → Ans)  (m : Mem) : Ans :=
bd (f_X12_see N (m 123 17) m) fun r_131 m_131 =>
bd (f_X12_isDigit N r_131 m_131) fun r_134 m_134 =>
if r_134 = 0 then (K189 m_134)
else (if ((m_134 123 19) + (4 : Int32)) ≤ (m_134 123 17) then (bnd (mset m_134 123 17 ((m_134 123 17) + (1 : Int32))) fun m_183 =>
X m_183)
else (bd (f_X12_see N (m_134 123 17) m_134) fun r_166 m_166 =>
bnd (mset m_166 123 20 ((((10 : Int32) * (m_134 123 20)) + r_166) - (48 : Int32))) fun m_173 =>
bnd (mset m_173 123 17 ((m_173 123 17) + (1 : Int32))) fun m_183 =>
X m_183))

def f_X12_next0_L76 (N : Nat)    (X : Mem → Ans)  (m : Mem) : Ans :=
bd (f_X12_see N (m 123 17) m) fun r_81 m_81 =>
bd (f_X12_isLetter N r_81 m_81) fun r_84 m_84 =>
if r_84 = 0 then (bd (f_X12_word N m_84) fun r_105 m_105 =>
bnd (mset m_105 123 18 r_105) fun m_108 =>
some (0, m_108))
else (bnd (mset m_84 123 17 ((m_84 123 17) + (1 : Int32))) fun m_97 =>
X m_97)

def f_X12_next0 (N : Nat)  (m : Mem) : Ans :=
it0 (f_X12_next0_L0 N (fun mk39 => bnd (mset mk39 123 19 (mk39 123 17)) fun m_44 =>
bd (f_X12_see N (m_44 123 17) m_44) fun r_52 m_52 =>
if r_52 = (-1 : Int32) then (bnd (mset m_52 123 18 0) fun m_63 =>
some (0, m_63))
else (bd (f_X12_isLetter N r_52 m_52) fun r_70 m_70 =>
if r_70 = 0 then (bd (f_X12_isDigit N r_52 m_70) fun r_115 m_115 =>
if r_115 = 0 then (bnd (mset m_115 123 17 ((m_115 123 17) + (1 : Int32))) fun m_221 =>
if r_52 = (59 : Int32) then (f_X12_next0_J284 N r_52 m_221)
else (if r_52 = (43 : Int32) then (f_X12_next0_J284 N r_52 m_221)
else (if r_52 = (45 : Int32) then (f_X12_next0_J284 N r_52 m_221)
else (if r_52 = (42 : Int32) then (f_X12_next0_J284 N r_52 m_221)
else (if r_52 = (47 : Int32) then (f_X12_next0_J284 N r_52 m_221)
else (if r_52 = (40 : Int32) then (f_X12_next0_J284 N r_52 m_221)
else (if r_52 = (41 : Int32) then (f_X12_next0_J284 N r_52 m_221)
else (if r_52 = (60 : Int32) then (f_X12_next0_J284 N r_52 m_221)
else (if r_52 = (61 : Int32) then (f_X12_next0_J284 N r_52 m_221)
else (if r_52 = (62 : Int32) then (f_X12_next0_J284 N r_52 m_221)
else (if (0 : Int32) = 0 then (bnd (mset m_221 123 18 1) fun m_303 =>
some (0, m_303))
else (bnd (mset m_221 123 18 ((100 : Int32) + r_52)) fun m_303 =>
some (0, m_303)))))))))))))
else (bnd (mset m_115 123 20 0) fun m_123 =>
it0 (f_X12_next0_L126 N (fun mk189 => if (5 : Int32) ≤ ((mk189 123 17) - (mk189 123 19)) then (bnd (mset mk189 123 18 1) fun m_208 =>
some (0, m_208))
else (bnd (mset mk189 123 18 2) fun m_208 =>
some (0, m_208)))) N m_123))
else (it0 (f_X12_next0_L76 N ) N m_70)))) N m

set_option maxRecDepth 100000 in
set_option maxHeartbeats 4000000 in
theorem ok_X12_next0_L0 (N d : Nat)    (K39 : Mem → Ans) (hK39 : ∀  (m : Mem), Ok none SG (d + 8) m_X12_next0 39 [some (.ref 123), none, none] [] SG m (K39 m)) : ∀ (n : Nat) (m : Mem), Ok none SG (d + 8) m_X12_next0 0 [some (.ref 123), none, none] [] SG m (it0 (f_X12_next0_L0 N K39) n m) :=
  ok_it0 [some (.ref 123), none, none] (fun X hX m => by
    try unfold f_X12_next0_L0
    refine ok_aload_n 1 0 dX12_next0_0 rfl rfl rfl ?_
    refine ok_aload_n 2 0 dX12_next0_1 rfl rfl rfl ?_
    refine ok_getI 5 dX12_next0_2 rfl rfl F_EncoresModel_81 sg_123 rfl (Nat.le_of_ble_eq_true rfl) rfl ?_
    refine ok_callVi (np := 1) (M' := m_X12_see) (As := [.int (m 123 17)]) (st := []) 8 dX12_next0_5 rfl rfl km_X12_see ki_X12_see kv_X12_see ml_EncoresModel_158 (by decide) sg_123 rfl (Nat.le_of_ble_eq_true rfl) rfl rfl rfl (Nat.le_of_ble_eq_true rfl) (c_X12_see N (d + 7) (m 123 17) m) ⟨Nat.le_refl _, Nat.le_refl _⟩ (Or.inl rfl) rfl (fun r_5 m_5 _ => ?_)
    refine ok_bipush 10 32 dX12_next0_8 rfl rfl ?_
    refine ok_icmp_eq 26 13 dX12_next0_10 (by decide) rfl (fun _ => ?_) (fun _ => ?_)
    · refine ok_aload_n 27 0 dX12_next0_26 rfl rfl rfl ?_
      refine ok_dup 28 dX12_next0_27 rfl rfl ?_
      refine ok_getI 31 dX12_next0_28 rfl rfl F_EncoresModel_81 sg_123 rfl (Nat.le_of_ble_eq_true rfl) rfl ?_
      refine ok_iconst 32 1 dX12_next0_31 rfl rfl ?_
      refine ok_iadd 33 dX12_next0_32 rfl ?_
      refine ok_putI 36 dX12_next0_33 rfl rfl F_EncoresModel_81 sg_123 rfl (Nat.le_of_ble_eq_true rfl) rfl rfl pZ_12_17 rfl rfl ?_
      refine ok_bndM (fun m_33 => ?_)
      refine ok_goto 0 dX12_next0_36 (by decide) ?_
      exact ok_less [some (.ref 123), none, none] (And.intro rfl (trivial)) (hX m_33)
    · refine ok_aload_n 14 0 dX12_next0_13 rfl rfl rfl ?_
      refine ok_aload_n 15 0 dX12_next0_14 rfl rfl rfl ?_
      refine ok_getI 18 dX12_next0_15 rfl rfl F_EncoresModel_81 sg_123 rfl (Nat.le_of_ble_eq_true rfl) rfl ?_
      refine ok_callVi (np := 1) (M' := m_X12_see) (As := [.int (m_5 123 17)]) (st := []) 21 dX12_next0_18 rfl rfl km_X12_see ki_X12_see kv_X12_see ml_EncoresModel_158 (by decide) sg_123 rfl (Nat.le_of_ble_eq_true rfl) rfl rfl rfl (Nat.le_of_ble_eq_true rfl) (c_X12_see N (d + 7) (m_5 123 17) m_5) ⟨Nat.le_refl _, Nat.le_refl _⟩ (Or.inl rfl) rfl (fun r_18 m_18 _ => ?_)
      refine ok_bipush 23 10 dX12_next0_21 rfl rfl ?_
      refine ok_icmp_ne 39 26 dX12_next0_23 (by decide) rfl (fun _ => ?_) (fun _ => ?_)
      · exact ok_less [some (.ref 123), none, none] (And.intro rfl (trivial)) (hK39 m_18)
      · refine ok_aload_n 27 0 dX12_next0_26 rfl rfl rfl ?_
        refine ok_dup 28 dX12_next0_27 rfl rfl ?_
        refine ok_getI 31 dX12_next0_28 rfl rfl F_EncoresModel_81 sg_123 rfl (Nat.le_of_ble_eq_true rfl) rfl ?_
        refine ok_iconst 32 1 dX12_next0_31 rfl rfl ?_
        refine ok_iadd 33 dX12_next0_32 rfl ?_
        refine ok_putI 36 dX12_next0_33 rfl rfl F_EncoresModel_81 sg_123 rfl (Nat.le_of_ble_eq_true rfl) rfl rfl pZ_12_17 rfl rfl ?_
        refine ok_bndM (fun m_33 => ?_)
        refine ok_goto 0 dX12_next0_36 (by decide) ?_
        exact ok_less [some (.ref 123), none, none] (And.intro rfl (trivial)) (hX m_33))

set_option maxRecDepth 100000 in
set_option maxHeartbeats 4000000 in
theorem ok_X12_next0_J284 (N d : Nat)     (s1_284 : Int32) (m : Mem) : Ok none SG (d + 8) m_X12_next0 284 [some (.ref 123), some (.int s1_284), none] [] SG m (f_X12_next0_J284 N s1_284 m) := by
  unfold f_X12_next0_J284
  refine ok_iconst 285 1 dX12_next0_284 rfl rfl ?_
  refine ok_goto 289 dX12_next0_285 (by decide) ?_
  refine ok_istore_n 290 2 [some (.ref 123), some (.int s1_284), some (.int 1)] dX12_next0_289 rfl rfl (by decide) rfl ?_
  refine ok_aload_n 291 0 dX12_next0_290 rfl rfl rfl ?_
  refine ok_iload_n 292 2 dX12_next0_291 rfl rfl rfl ?_
  refine ok_if_eq 302 295 dX12_next0_292 (by decide) rfl (fun _ => ?_) (fun _ => ?_)
  · refine ok_iconst 303 1 dX12_next0_302 rfl rfl ?_
    refine ok_putI 306 dX12_next0_303 rfl rfl F_EncoresModel_162 sg_123 rfl (Nat.le_of_ble_eq_true rfl) rfl rfl pZ_12_18 rfl rfl ?_
    refine ok_bndM (fun m_303 => ?_)
    exact ok_vret dX12_next0_306 rfl
  · refine ok_bipush 297 100 dX12_next0_295 rfl rfl ?_
    refine ok_iload_n 298 1 dX12_next0_297 rfl rfl rfl ?_
    refine ok_iadd 299 dX12_next0_298 rfl ?_
    refine ok_goto 303 dX12_next0_299 (by decide) ?_
    refine ok_putI 306 dX12_next0_303 rfl rfl F_EncoresModel_162 sg_123 rfl (Nat.le_of_ble_eq_true rfl) rfl rfl pZ_12_18 rfl rfl ?_
    refine ok_bndM (fun m_303 => ?_)
    exact ok_vret dX12_next0_306 rfl

set_option maxRecDepth 100000 in
set_option maxHeartbeats 4000000 in
theorem ok_X12_next0_L126 (N d : Nat)    (K189 : Mem → Ans) (hK189 : ∀  (m : Mem), Ok none SG (d + 8) m_X12_next0 189 [some (.ref 123), none, none] [] SG m (K189 m)) : ∀ (n : Nat) (m : Mem), Ok none SG (d + 8) m_X12_next0 126 [some (.ref 123), none, none] [] SG m (it0 (f_X12_next0_L126 N K189) n m) :=
  ok_it0 [some (.ref 123), none, none] (fun X hX m => by
    try unfold f_X12_next0_L126
    refine ok_aload_n 127 0 dX12_next0_126 rfl rfl rfl ?_
    refine ok_aload_n 128 0 dX12_next0_127 rfl rfl rfl ?_
    refine ok_getI 131 dX12_next0_128 rfl rfl F_EncoresModel_81 sg_123 rfl (Nat.le_of_ble_eq_true rfl) rfl ?_
    refine ok_callVi (np := 1) (M' := m_X12_see) (As := [.int (m 123 17)]) (st := []) 134 dX12_next0_131 rfl rfl km_X12_see ki_X12_see kv_X12_see ml_EncoresModel_158 (by decide) sg_123 rfl (Nat.le_of_ble_eq_true rfl) rfl rfl rfl (Nat.le_of_ble_eq_true rfl) (c_X12_see N (d + 7) (m 123 17) m) ⟨Nat.le_refl _, Nat.le_refl _⟩ (Or.inl rfl) rfl (fun r_131 m_131 _ => ?_)
    refine ok_callSi (np := 1) (M' := m_X12_isDigit) (As := [.int r_131]) (st := []) 137 dX12_next0_134 rfl rfl km_X12_isDigit ks_X12_isDigit ml_EncoresModel_171 (by decide) rfl rfl (Nat.le_of_ble_eq_true rfl) (c_X12_isDigit N (d + 6) r_131 m_131) ⟨Nat.le_refl _, Nat.le_refl _⟩ (Or.inl rfl) rfl (fun r_134 m_134 _ => ?_)
    refine ok_if_eq 189 140 dX12_next0_137 (by decide) rfl (fun _ => ?_) (fun _ => ?_)
    · exact ok_less [some (.ref 123), none, none] (And.intro rfl (trivial)) (hK189 m_134)
    · refine ok_aload_n 141 0 dX12_next0_140 rfl rfl rfl ?_
      refine ok_getI 144 dX12_next0_141 rfl rfl F_EncoresModel_81 sg_123 rfl (Nat.le_of_ble_eq_true rfl) rfl ?_
      refine ok_aload_n 145 0 dX12_next0_144 rfl rfl rfl ?_
      refine ok_getI 148 dX12_next0_145 rfl rfl F_EncoresModel_84 sg_123 rfl (Nat.le_of_ble_eq_true rfl) rfl ?_
      refine ok_iconst 149 4 dX12_next0_148 rfl rfl ?_
      refine ok_iadd 150 dX12_next0_149 rfl ?_
      refine ok_icmp_ge 176 153 dX12_next0_150 (by decide) rfl (fun _ => ?_) (fun _ => ?_)
      · refine ok_aload_n 177 0 dX12_next0_176 rfl rfl rfl ?_
        refine ok_dup 178 dX12_next0_177 rfl rfl ?_
        refine ok_getI 181 dX12_next0_178 rfl rfl F_EncoresModel_81 sg_123 rfl (Nat.le_of_ble_eq_true rfl) rfl ?_
        refine ok_iconst 182 1 dX12_next0_181 rfl rfl ?_
        refine ok_iadd 183 dX12_next0_182 rfl ?_
        refine ok_putI 186 dX12_next0_183 rfl rfl F_EncoresModel_81 sg_123 rfl (Nat.le_of_ble_eq_true rfl) rfl rfl pZ_12_17 rfl rfl ?_
        refine ok_bndM (fun m_183 => ?_)
        refine ok_goto 126 dX12_next0_186 (by decide) ?_
        exact ok_less [some (.ref 123), none, none] (And.intro rfl (trivial)) (hX m_183)
      · refine ok_aload_n 154 0 dX12_next0_153 rfl rfl rfl ?_
        refine ok_bipush 156 10 dX12_next0_154 rfl rfl ?_
        refine ok_aload_n 157 0 dX12_next0_156 rfl rfl rfl ?_
        refine ok_getI 160 dX12_next0_157 rfl rfl F_EncoresModel_174 sg_123 rfl (Nat.le_of_ble_eq_true rfl) rfl ?_
        refine ok_imul 161 dX12_next0_160 rfl ?_
        refine ok_aload_n 162 0 dX12_next0_161 rfl rfl rfl ?_
        refine ok_aload_n 163 0 dX12_next0_162 rfl rfl rfl ?_
        refine ok_getI 166 dX12_next0_163 rfl rfl F_EncoresModel_81 sg_123 rfl (Nat.le_of_ble_eq_true rfl) rfl ?_
        refine ok_callVi (np := 1) (M' := m_X12_see) (As := [.int (m_134 123 17)]) (st := [.int ((10 : Int32) * (m_134 123 20)), .ref 123]) 169 dX12_next0_166 rfl rfl km_X12_see ki_X12_see kv_X12_see ml_EncoresModel_158 (by decide) sg_123 rfl (Nat.le_of_ble_eq_true rfl) rfl rfl rfl (Nat.le_of_ble_eq_true rfl) (c_X12_see N (d + 7) (m_134 123 17) m_134) ⟨Nat.le_refl _, Nat.le_refl _⟩ (Or.inl rfl) rfl (fun r_166 m_166 _ => ?_)
        refine ok_iadd 170 dX12_next0_169 rfl ?_
        refine ok_bipush 172 48 dX12_next0_170 rfl rfl ?_
        refine ok_isub 173 dX12_next0_172 rfl ?_
        refine ok_putI 176 dX12_next0_173 rfl rfl F_EncoresModel_174 sg_123 rfl (Nat.le_of_ble_eq_true rfl) rfl rfl pZ_12_20 rfl rfl ?_
        refine ok_bndM (fun m_173 => ?_)
        refine ok_aload_n 177 0 dX12_next0_176 rfl rfl rfl ?_
        refine ok_dup 178 dX12_next0_177 rfl rfl ?_
        refine ok_getI 181 dX12_next0_178 rfl rfl F_EncoresModel_81 sg_123 rfl (Nat.le_of_ble_eq_true rfl) rfl ?_
        refine ok_iconst 182 1 dX12_next0_181 rfl rfl ?_
        refine ok_iadd 183 dX12_next0_182 rfl ?_
        refine ok_putI 186 dX12_next0_183 rfl rfl F_EncoresModel_81 sg_123 rfl (Nat.le_of_ble_eq_true rfl) rfl rfl pZ_12_17 rfl rfl ?_
        refine ok_bndM (fun m_183 => ?_)
        refine ok_goto 126 dX12_next0_186 (by decide) ?_
        exact ok_less [some (.ref 123), none, none] (And.intro rfl (trivial)) (hX m_183))

set_option maxRecDepth 100000 in
set_option maxHeartbeats 4000000 in
theorem ok_X12_next0_L76 (N d : Nat)     : ∀ (n : Nat) (m : Mem), Ok none SG (d + 8) m_X12_next0 76 [some (.ref 123), none, none] [] SG m (it0 (f_X12_next0_L76 N) n m) :=
  ok_it0 [some (.ref 123), none, none] (fun X hX m => by
    try unfold f_X12_next0_L76
    refine ok_aload_n 77 0 dX12_next0_76 rfl rfl rfl ?_
    refine ok_aload_n 78 0 dX12_next0_77 rfl rfl rfl ?_
    refine ok_getI 81 dX12_next0_78 rfl rfl F_EncoresModel_81 sg_123 rfl (Nat.le_of_ble_eq_true rfl) rfl ?_
    refine ok_callVi (np := 1) (M' := m_X12_see) (As := [.int (m 123 17)]) (st := []) 84 dX12_next0_81 rfl rfl km_X12_see ki_X12_see kv_X12_see ml_EncoresModel_158 (by decide) sg_123 rfl (Nat.le_of_ble_eq_true rfl) rfl rfl rfl (Nat.le_of_ble_eq_true rfl) (c_X12_see N (d + 7) (m 123 17) m) ⟨Nat.le_refl _, Nat.le_refl _⟩ (Or.inl rfl) rfl (fun r_81 m_81 _ => ?_)
    refine ok_callSi (np := 1) (M' := m_X12_isLetter) (As := [.int r_81]) (st := []) 87 dX12_next0_84 rfl rfl km_X12_isLetter ks_X12_isLetter ml_EncoresModel_165 (by decide) rfl rfl (Nat.le_of_ble_eq_true rfl) (c_X12_isLetter N (d + 6) r_81 m_81) ⟨Nat.le_refl _, Nat.le_refl _⟩ (Or.inl rfl) rfl (fun r_84 m_84 _ => ?_)
    refine ok_if_eq 103 90 dX12_next0_87 (by decide) rfl (fun _ => ?_) (fun _ => ?_)
    · refine ok_aload_n 104 0 dX12_next0_103 rfl rfl rfl ?_
      refine ok_aload_n 105 0 dX12_next0_104 rfl rfl rfl ?_
      refine ok_callVi (np := 0) (M' := m_X12_word) (As := []) (st := [.ref 123]) 108 dX12_next0_105 rfl rfl km_X12_word ki_X12_word kv_X12_word ml_EncoresModel_168 (by decide) sg_123 rfl (Nat.le_of_ble_eq_true rfl) rfl rfl rfl (Nat.le_of_ble_eq_true rfl) (c_X12_word N (d + 0) m_84) ⟨Nat.le_refl _, Nat.le_refl _⟩ (Or.inl rfl) rfl (fun r_105 m_105 _ => ?_)
      refine ok_putI 111 dX12_next0_108 rfl rfl F_EncoresModel_162 sg_123 rfl (Nat.le_of_ble_eq_true rfl) rfl rfl pZ_12_18 rfl rfl ?_
      refine ok_bndM (fun m_108 => ?_)
      refine ok_goto 306 dX12_next0_111 (by decide) ?_
      exact ok_vret dX12_next0_306 rfl
    · refine ok_aload_n 91 0 dX12_next0_90 rfl rfl rfl ?_
      refine ok_dup 92 dX12_next0_91 rfl rfl ?_
      refine ok_getI 95 dX12_next0_92 rfl rfl F_EncoresModel_81 sg_123 rfl (Nat.le_of_ble_eq_true rfl) rfl ?_
      refine ok_iconst 96 1 dX12_next0_95 rfl rfl ?_
      refine ok_iadd 97 dX12_next0_96 rfl ?_
      refine ok_putI 100 dX12_next0_97 rfl rfl F_EncoresModel_81 sg_123 rfl (Nat.le_of_ble_eq_true rfl) rfl rfl pZ_12_17 rfl rfl ?_
      refine ok_bndM (fun m_97 => ?_)
      refine ok_goto 76 dX12_next0_100 (by decide) ?_
      exact ok_less [some (.ref 123), none, none] (And.intro rfl (trivial)) (hX m_97))

set_option maxRecDepth 100000 in
set_option maxHeartbeats 4000000 in
theorem ok_X12_next0 (N d : Nat)   (m : Mem) : Ok none SG (d + 8) m_X12_next0 0 [some (.ref 123), none, none] [] SG m (f_X12_next0 N m) := by
  unfold f_X12_next0
  refine ok_less [some (.ref 123), none, none] (And.intro rfl (trivial)) ?_
  exact ok_X12_next0_L0 N d   _ (fun mk39 => by
      refine ok_aload_n 40 0 dX12_next0_39 rfl rfl rfl ?_
      refine ok_aload_n 41 0 dX12_next0_40 rfl rfl rfl ?_
      refine ok_getI 44 dX12_next0_41 rfl rfl F_EncoresModel_81 sg_123 rfl (Nat.le_of_ble_eq_true rfl) rfl ?_
      refine ok_putI 47 dX12_next0_44 rfl rfl F_EncoresModel_84 sg_123 rfl (Nat.le_of_ble_eq_true rfl) rfl rfl pZ_12_19 rfl rfl ?_
      refine ok_bndM (fun m_44 => ?_)
      refine ok_aload_n 48 0 dX12_next0_47 rfl rfl rfl ?_
      refine ok_aload_n 49 0 dX12_next0_48 rfl rfl rfl ?_
      refine ok_getI 52 dX12_next0_49 rfl rfl F_EncoresModel_81 sg_123 rfl (Nat.le_of_ble_eq_true rfl) rfl ?_
      refine ok_callVi (np := 1) (M' := m_X12_see) (As := [.int (m_44 123 17)]) (st := []) 55 dX12_next0_52 rfl rfl km_X12_see ki_X12_see kv_X12_see ml_EncoresModel_158 (by decide) sg_123 rfl (Nat.le_of_ble_eq_true rfl) rfl rfl rfl (Nat.le_of_ble_eq_true rfl) (c_X12_see N (d + 7) (m_44 123 17) m_44) ⟨Nat.le_refl _, Nat.le_refl _⟩ (Or.inl rfl) rfl (fun r_52 m_52 _ => ?_)
      refine ok_istore_n 56 1 [some (.ref 123), some (.int r_52), none] dX12_next0_55 rfl rfl (by decide) rfl ?_
      refine ok_iload_n 57 1 dX12_next0_56 rfl rfl rfl ?_
      refine ok_iconst 58 (-1) dX12_next0_57 rfl rfl ?_
      refine ok_icmp_ne 69 61 dX12_next0_58 (by decide) rfl (fun _ => ?_) (fun _ => ?_)
      · refine ok_iload_n 70 1 dX12_next0_69 rfl rfl rfl ?_
        refine ok_callSi (np := 1) (M' := m_X12_isLetter) (As := [.int r_52]) (st := []) 73 dX12_next0_70 rfl rfl km_X12_isLetter ks_X12_isLetter ml_EncoresModel_165 (by decide) rfl rfl (Nat.le_of_ble_eq_true rfl) (c_X12_isLetter N (d + 6) r_52 m_52) ⟨Nat.le_refl _, Nat.le_refl _⟩ (Or.inl rfl) rfl (fun r_70 m_70 _ => ?_)
        refine ok_if_eq 114 76 dX12_next0_73 (by decide) rfl (fun _ => ?_) (fun _ => ?_)
        · refine ok_iload_n 115 1 dX12_next0_114 rfl rfl rfl ?_
          refine ok_callSi (np := 1) (M' := m_X12_isDigit) (As := [.int r_52]) (st := []) 118 dX12_next0_115 rfl rfl km_X12_isDigit ks_X12_isDigit ml_EncoresModel_171 (by decide) rfl rfl (Nat.le_of_ble_eq_true rfl) (c_X12_isDigit N (d + 6) r_52 m_70) ⟨Nat.le_refl _, Nat.le_refl _⟩ (Or.inl rfl) rfl (fun r_115 m_115 _ => ?_)
          refine ok_if_eq 214 121 dX12_next0_118 (by decide) rfl (fun _ => ?_) (fun _ => ?_)
          · refine ok_aload_n 215 0 dX12_next0_214 rfl rfl rfl ?_
            refine ok_dup 216 dX12_next0_215 rfl rfl ?_
            refine ok_getI 219 dX12_next0_216 rfl rfl F_EncoresModel_81 sg_123 rfl (Nat.le_of_ble_eq_true rfl) rfl ?_
            refine ok_iconst 220 1 dX12_next0_219 rfl rfl ?_
            refine ok_iadd 221 dX12_next0_220 rfl ?_
            refine ok_putI 224 dX12_next0_221 rfl rfl F_EncoresModel_81 sg_123 rfl (Nat.le_of_ble_eq_true rfl) rfl rfl pZ_12_17 rfl rfl ?_
            refine ok_bndM (fun m_221 => ?_)
            refine ok_iload_n 225 1 dX12_next0_224 rfl rfl rfl ?_
            refine ok_bipush 227 59 dX12_next0_225 rfl rfl ?_
            refine ok_icmp_eq 284 230 dX12_next0_227 (by decide) rfl (fun _ => ?_) (fun _ => ?_)
            · exact ok_less [some (.ref 123), some (.int r_52), none] (And.intro rfl (And.intro rfl (trivial))) (ok_X12_next0_J284 N d    r_52 m_221)
            · refine ok_iload_n 231 1 dX12_next0_230 rfl rfl rfl ?_
              refine ok_bipush 233 43 dX12_next0_231 rfl rfl ?_
              refine ok_icmp_eq 284 236 dX12_next0_233 (by decide) rfl (fun _ => ?_) (fun _ => ?_)
              · exact ok_less [some (.ref 123), some (.int r_52), none] (And.intro rfl (And.intro rfl (trivial))) (ok_X12_next0_J284 N d    r_52 m_221)
              · refine ok_iload_n 237 1 dX12_next0_236 rfl rfl rfl ?_
                refine ok_bipush 239 45 dX12_next0_237 rfl rfl ?_
                refine ok_icmp_eq 284 242 dX12_next0_239 (by decide) rfl (fun _ => ?_) (fun _ => ?_)
                · exact ok_less [some (.ref 123), some (.int r_52), none] (And.intro rfl (And.intro rfl (trivial))) (ok_X12_next0_J284 N d    r_52 m_221)
                · refine ok_iload_n 243 1 dX12_next0_242 rfl rfl rfl ?_
                  refine ok_bipush 245 42 dX12_next0_243 rfl rfl ?_
                  refine ok_icmp_eq 284 248 dX12_next0_245 (by decide) rfl (fun _ => ?_) (fun _ => ?_)
                  · exact ok_less [some (.ref 123), some (.int r_52), none] (And.intro rfl (And.intro rfl (trivial))) (ok_X12_next0_J284 N d    r_52 m_221)
                  · refine ok_iload_n 249 1 dX12_next0_248 rfl rfl rfl ?_
                    refine ok_bipush 251 47 dX12_next0_249 rfl rfl ?_
                    refine ok_icmp_eq 284 254 dX12_next0_251 (by decide) rfl (fun _ => ?_) (fun _ => ?_)
                    · exact ok_less [some (.ref 123), some (.int r_52), none] (And.intro rfl (And.intro rfl (trivial))) (ok_X12_next0_J284 N d    r_52 m_221)
                    · refine ok_iload_n 255 1 dX12_next0_254 rfl rfl rfl ?_
                      refine ok_bipush 257 40 dX12_next0_255 rfl rfl ?_
                      refine ok_icmp_eq 284 260 dX12_next0_257 (by decide) rfl (fun _ => ?_) (fun _ => ?_)
                      · exact ok_less [some (.ref 123), some (.int r_52), none] (And.intro rfl (And.intro rfl (trivial))) (ok_X12_next0_J284 N d    r_52 m_221)
                      · refine ok_iload_n 261 1 dX12_next0_260 rfl rfl rfl ?_
                        refine ok_bipush 263 41 dX12_next0_261 rfl rfl ?_
                        refine ok_icmp_eq 284 266 dX12_next0_263 (by decide) rfl (fun _ => ?_) (fun _ => ?_)
                        · exact ok_less [some (.ref 123), some (.int r_52), none] (And.intro rfl (And.intro rfl (trivial))) (ok_X12_next0_J284 N d    r_52 m_221)
                        · refine ok_iload_n 267 1 dX12_next0_266 rfl rfl rfl ?_
                          refine ok_bipush 269 60 dX12_next0_267 rfl rfl ?_
                          refine ok_icmp_eq 284 272 dX12_next0_269 (by decide) rfl (fun _ => ?_) (fun _ => ?_)
                          · exact ok_less [some (.ref 123), some (.int r_52), none] (And.intro rfl (And.intro rfl (trivial))) (ok_X12_next0_J284 N d    r_52 m_221)
                          · refine ok_iload_n 273 1 dX12_next0_272 rfl rfl rfl ?_
                            refine ok_bipush 275 61 dX12_next0_273 rfl rfl ?_
                            refine ok_icmp_eq 284 278 dX12_next0_275 (by decide) rfl (fun _ => ?_) (fun _ => ?_)
                            · exact ok_less [some (.ref 123), some (.int r_52), none] (And.intro rfl (And.intro rfl (trivial))) (ok_X12_next0_J284 N d    r_52 m_221)
                            · refine ok_iload_n 279 1 dX12_next0_278 rfl rfl rfl ?_
                              refine ok_bipush 281 62 dX12_next0_279 rfl rfl ?_
                              refine ok_icmp_ne 288 284 dX12_next0_281 (by decide) rfl (fun _ => ?_) (fun _ => ?_)
                              · refine ok_iconst 289 0 dX12_next0_288 rfl rfl ?_
                                refine ok_istore_n 290 2 [some (.ref 123), some (.int r_52), some (.int 0)] dX12_next0_289 rfl rfl (by decide) rfl ?_
                                refine ok_aload_n 291 0 dX12_next0_290 rfl rfl rfl ?_
                                refine ok_iload_n 292 2 dX12_next0_291 rfl rfl rfl ?_
                                refine ok_if_eq 302 295 dX12_next0_292 (by decide) rfl (fun _ => ?_) (fun _ => ?_)
                                · refine ok_iconst 303 1 dX12_next0_302 rfl rfl ?_
                                  refine ok_putI 306 dX12_next0_303 rfl rfl F_EncoresModel_162 sg_123 rfl (Nat.le_of_ble_eq_true rfl) rfl rfl pZ_12_18 rfl rfl ?_
                                  refine ok_bndM (fun m_303 => ?_)
                                  exact ok_vret dX12_next0_306 rfl
                                · refine ok_bipush 297 100 dX12_next0_295 rfl rfl ?_
                                  refine ok_iload_n 298 1 dX12_next0_297 rfl rfl rfl ?_
                                  refine ok_iadd 299 dX12_next0_298 rfl ?_
                                  refine ok_goto 303 dX12_next0_299 (by decide) ?_
                                  refine ok_putI 306 dX12_next0_303 rfl rfl F_EncoresModel_162 sg_123 rfl (Nat.le_of_ble_eq_true rfl) rfl rfl pZ_12_18 rfl rfl ?_
                                  refine ok_bndM (fun m_303 => ?_)
                                  exact ok_vret dX12_next0_306 rfl
                              · exact ok_less [some (.ref 123), some (.int r_52), none] (And.intro rfl (And.intro rfl (trivial))) (ok_X12_next0_J284 N d    r_52 m_221)
          · refine ok_aload_n 122 0 dX12_next0_121 rfl rfl rfl ?_
            refine ok_iconst 123 0 dX12_next0_122 rfl rfl ?_
            refine ok_putI 126 dX12_next0_123 rfl rfl F_EncoresModel_174 sg_123 rfl (Nat.le_of_ble_eq_true rfl) rfl rfl pZ_12_20 rfl rfl ?_
            refine ok_bndM (fun m_123 => ?_)
            refine ok_less [some (.ref 123), none, none] (And.intro rfl (trivial)) ?_
            exact ok_X12_next0_L126 N d   _ (fun mk189 => by
                refine ok_aload_n 190 0 dX12_next0_189 rfl rfl rfl ?_
                refine ok_aload_n 191 0 dX12_next0_190 rfl rfl rfl ?_
                refine ok_getI 194 dX12_next0_191 rfl rfl F_EncoresModel_81 sg_123 rfl (Nat.le_of_ble_eq_true rfl) rfl ?_
                refine ok_aload_n 195 0 dX12_next0_194 rfl rfl rfl ?_
                refine ok_getI 198 dX12_next0_195 rfl rfl F_EncoresModel_84 sg_123 rfl (Nat.le_of_ble_eq_true rfl) rfl ?_
                refine ok_isub 199 dX12_next0_198 rfl ?_
                refine ok_iconst 200 5 dX12_next0_199 rfl rfl ?_
                refine ok_icmp_ge 207 203 dX12_next0_200 (by decide) rfl (fun _ => ?_) (fun _ => ?_)
                · refine ok_iconst 208 1 dX12_next0_207 rfl rfl ?_
                  refine ok_putI 211 dX12_next0_208 rfl rfl F_EncoresModel_162 sg_123 rfl (Nat.le_of_ble_eq_true rfl) rfl rfl pZ_12_18 rfl rfl ?_
                  refine ok_bndM (fun m_208 => ?_)
                  refine ok_goto 306 dX12_next0_211 (by decide) ?_
                  exact ok_vret dX12_next0_306 rfl
                · refine ok_iconst 204 2 dX12_next0_203 rfl rfl ?_
                  refine ok_goto 208 dX12_next0_204 (by decide) ?_
                  refine ok_putI 211 dX12_next0_208 rfl rfl F_EncoresModel_162 sg_123 rfl (Nat.le_of_ble_eq_true rfl) rfl rfl pZ_12_18 rfl rfl ?_
                  refine ok_bndM (fun m_208 => ?_)
                  refine ok_goto 306 dX12_next0_211 (by decide) ?_
                  exact ok_vret dX12_next0_306 rfl) N m_123
        · refine ok_less [some (.ref 123), none, none] (And.intro rfl (trivial)) ?_
          exact ok_X12_next0_L76 N d     N m_70
      · refine ok_aload_n 62 0 dX12_next0_61 rfl rfl rfl ?_
        refine ok_iconst 63 0 dX12_next0_62 rfl rfl ?_
        refine ok_putI 66 dX12_next0_63 rfl rfl F_EncoresModel_162 sg_123 rfl (Nat.le_of_ble_eq_true rfl) rfl rfl pZ_12_18 rfl rfl ?_
        refine ok_bndM (fun m_63 => ?_)
        refine ok_goto 306 dX12_next0_66 (by decide) ?_
        exact ok_vret dX12_next0_306 rfl) N m

theorem c_X12_next0 (N d : Nat)   (m : Mem) : CM (d + 8) m_X12_next0 SG SG [.ref 123] m (f_X12_next0 N m) :=
  CM.ofOk km_X12_next0 ⟨Nat.le_refl _, Nat.le_refl _⟩ (by simp [Value.category]) (Nat.le_of_ble_eq_true rfl) (ok_X12_next0 N d  m)

def f_X12_bad (N : Nat) (a1 : Int32) (m : Mem) : Ans :=
bnd (mset m 123 21 a1) fun m_2 =>
bnd (mset m_2 123 22 (m_2 123 19)) fun m_10 =>
some (0, m_10)

set_option maxRecDepth 100000 in
set_option maxHeartbeats 4000000 in
theorem ok_X12_bad (N d : Nat) (a1 : Int32)  (m : Mem) : Ok none SG (d + 0) m_X12_bad 0 [some (.ref 123), some (.int a1)] [] SG m (f_X12_bad N a1 m) := by
  unfold f_X12_bad
  refine ok_aload_n 1 0 dX12_bad_0 rfl rfl rfl ?_
  refine ok_iload_n 2 1 dX12_bad_1 rfl rfl rfl ?_
  refine ok_putI 5 dX12_bad_2 rfl rfl F_EncoresModel_177 sg_123 rfl (Nat.le_of_ble_eq_true rfl) rfl rfl pZ_12_21 rfl rfl ?_
  refine ok_bndM (fun m_2 => ?_)
  refine ok_aload_n 6 0 dX12_bad_5 rfl rfl rfl ?_
  refine ok_aload_n 7 0 dX12_bad_6 rfl rfl rfl ?_
  refine ok_getI 10 dX12_bad_7 rfl rfl F_EncoresModel_84 sg_123 rfl (Nat.le_of_ble_eq_true rfl) rfl ?_
  refine ok_putI 13 dX12_bad_10 rfl rfl F_EncoresModel_180 sg_123 rfl (Nat.le_of_ble_eq_true rfl) rfl rfl pZ_12_22 rfl rfl ?_
  refine ok_bndM (fun m_10 => ?_)
  refine ok_iconst 14 0 dX12_bad_13 rfl rfl ?_
  exact ok_zretc dX12_bad_14 rfl rfl

theorem c_X12_bad (N d : Nat) (a1 : Int32)  (m : Mem) : CM (d + 0) m_X12_bad SG SG [.ref 123, .int a1] m (f_X12_bad N a1 m) :=
  CM.ofOk km_X12_bad ⟨Nat.le_refl _, Nat.le_refl _⟩ (by simp [Value.category]) (Nat.le_of_ble_eq_true rfl) (ok_X12_bad N d a1 m)

def f_X12_need (N : Nat) (a1 : Int32) (m : Mem) : Ans :=
if (m 123 18) = a1 then (bd (f_X12_next0 N m) fun _ m_15 =>
some (1, m_15))
else (bd (f_X12_bad N 1 m) fun r_10 m_10 =>
chk (isB r_10) (some (r_10, m_10)))

set_option maxRecDepth 100000 in
set_option maxHeartbeats 4000000 in
theorem ok_X12_need (N d : Nat) (a1 : Int32)  (m : Mem) : Ok none SG (d + 9) m_X12_need 0 [some (.ref 123), some (.int a1)] [] SG m (f_X12_need N a1 m) := by
  unfold f_X12_need
  refine ok_aload_n 1 0 dX12_need_0 rfl rfl rfl ?_
  refine ok_getI 4 dX12_need_1 rfl rfl F_EncoresModel_162 sg_123 rfl (Nat.le_of_ble_eq_true rfl) rfl ?_
  refine ok_iload_n 5 1 dX12_need_4 rfl rfl rfl ?_
  refine ok_icmp_eq 14 8 dX12_need_5 (by decide) rfl (fun _ => ?_) (fun _ => ?_)
  · refine ok_aload_n 15 0 dX12_need_14 rfl rfl rfl ?_
    refine ok_callVv (np := 0) (M' := m_X12_next0) (As := []) (st := []) 18 dX12_need_15 rfl rfl km_X12_next0 ki_X12_next0 kv_X12_next0 ml_EncoresModel_186 (by decide) sg_123 rfl (Nat.le_of_ble_eq_true rfl) rfl rfl rfl (Nat.le_of_ble_eq_true rfl) (c_X12_next0 N (d + 0) m) ⟨Nat.le_refl _, Nat.le_refl _⟩ (Or.inl rfl) rfl (fun _ m_15 _ => ?_)
    refine ok_iconst 19 1 dX12_need_18 rfl rfl ?_
    exact ok_zretc dX12_need_19 rfl rfl
  · refine ok_aload_n 9 0 dX12_need_8 rfl rfl rfl ?_
    refine ok_iconst 10 1 dX12_need_9 rfl rfl ?_
    refine ok_callVi (np := 1) (M' := m_X12_bad) (As := [.int 1]) (st := []) 13 dX12_need_10 rfl rfl km_X12_bad ki_X12_bad kv_X12_bad ml_EncoresModel_183 (by decide) sg_123 rfl (Nat.le_of_ble_eq_true rfl) rfl rfl rfl (Nat.le_of_ble_eq_true rfl) (c_X12_bad N (d + 8) 1 m) ⟨Nat.le_refl _, Nat.le_refl _⟩ (Or.inl rfl) rfl (fun r_10 m_10 _ => ?_)
    exact ok_zret dX12_need_13 rfl

theorem c_X12_need (N d : Nat) (a1 : Int32)  (m : Mem) : CM (d + 9) m_X12_need SG SG [.ref 123, .int a1] m (f_X12_need N a1 m) :=
  CM.ofOk km_X12_need ⟨Nat.le_refl _, Nat.le_refl _⟩ (by simp [Value.category]) (Nat.le_of_ble_eq_true rfl) (ok_X12_need N d a1 m)

def f_X12_lay (N : Nat) (a1 : Int32) (a2 : Int32) (m : Mem) : Ans :=
chk (inb ((2 : Int32) * (m 123 14)) 820) <|
bnd (mset m 129 ((2 : Int32) * (m 123 14)).toNatClampNeg a1) fun m_11 =>
chk (inb (((2 : Int32) * (m_11 123 14)) + (1 : Int32)) 820) <|
bnd (mset m_11 129 (((2 : Int32) * (m_11 123 14)) + (1 : Int32)).toNatClampNeg a2) fun m_25 =>
bnd (mset m_25 123 14 ((m_25 123 14) + (1 : Int32))) fun m_33 =>
some (0, m_33)

set_option maxRecDepth 100000 in
set_option maxHeartbeats 4000000 in
theorem ok_X12_lay (N d : Nat) (a1 : Int32) (a2 : Int32)  (m : Mem) : Ok none SG (d + 0) m_X12_lay 0 [some (.ref 123), some (.int a1), some (.int a2)] [] SG m (f_X12_lay N a1 a2 m) := by
  unfold f_X12_lay
  refine ok_aload_n 1 0 dX12_lay_0 rfl rfl rfl ?_
  refine ok_getR 4 dX12_lay_1 rfl rfl F_EncoresModel_25 sg_123 rfl (Nat.le_of_ble_eq_true rfl) rfl rfl ?_
  refine ok_iconst 5 2 dX12_lay_4 rfl rfl ?_
  refine ok_aload_n 6 0 dX12_lay_5 rfl rfl rfl ?_
  refine ok_getI 9 dX12_lay_6 rfl rfl F_EncoresModel_189 sg_123 rfl (Nat.le_of_ble_eq_true rfl) rfl ?_
  refine ok_imul 10 dX12_lay_9 rfl ?_
  refine ok_iload_n 11 1 dX12_lay_10 rfl rfl rfl ?_
  refine ok_iast 12 dX12_lay_11 rfl sg_129 ?_
  refine ok_bndM (fun m_11 => ?_)
  refine ok_aload_n 13 0 dX12_lay_12 rfl rfl rfl ?_
  refine ok_getR 16 dX12_lay_13 rfl rfl F_EncoresModel_25 sg_123 rfl (Nat.le_of_ble_eq_true rfl) rfl rfl ?_
  refine ok_iconst 17 2 dX12_lay_16 rfl rfl ?_
  refine ok_aload_n 18 0 dX12_lay_17 rfl rfl rfl ?_
  refine ok_getI 21 dX12_lay_18 rfl rfl F_EncoresModel_189 sg_123 rfl (Nat.le_of_ble_eq_true rfl) rfl ?_
  refine ok_imul 22 dX12_lay_21 rfl ?_
  refine ok_iconst 23 1 dX12_lay_22 rfl rfl ?_
  refine ok_iadd 24 dX12_lay_23 rfl ?_
  refine ok_iload_n 25 2 dX12_lay_24 rfl rfl rfl ?_
  refine ok_iast 26 dX12_lay_25 rfl sg_129 ?_
  refine ok_bndM (fun m_25 => ?_)
  refine ok_aload_n 27 0 dX12_lay_26 rfl rfl rfl ?_
  refine ok_dup 28 dX12_lay_27 rfl rfl ?_
  refine ok_getI 31 dX12_lay_28 rfl rfl F_EncoresModel_189 sg_123 rfl (Nat.le_of_ble_eq_true rfl) rfl ?_
  refine ok_iconst 32 1 dX12_lay_31 rfl rfl ?_
  refine ok_iadd 33 dX12_lay_32 rfl ?_
  refine ok_putI 36 dX12_lay_33 rfl rfl F_EncoresModel_189 sg_123 rfl (Nat.le_of_ble_eq_true rfl) rfl rfl pZ_12_14 rfl rfl ?_
  refine ok_bndM (fun m_33 => ?_)
  exact ok_vret dX12_lay_36 rfl

theorem c_X12_lay (N d : Nat) (a1 : Int32) (a2 : Int32)  (m : Mem) : CM (d + 0) m_X12_lay SG SG [.ref 123, .int a1, .int a2] m (f_X12_lay N a1 a2 m) :=
  CM.ofOk km_X12_lay ⟨Nat.le_refl _, Nat.le_refl _⟩ (by simp [Value.category]) (Nat.le_of_ble_eq_true rfl) (ok_X12_lay N d a1 a2 m)

def f_X12_opens (N : Nat)  (m : Mem) : Ans :=
if (m 123 24) = (8 : Int32) then (bd (f_X12_bad N 3 m) fun r_11 m_11 =>
chk (isB r_11) (some (r_11, m_11)))
else (bnd (mset m 123 24 ((m 123 24) + (1 : Int32))) fun m_22 =>
bd (f_X12_next0 N m_22) fun _ m_26 =>
some (1, m_26))

set_option maxRecDepth 100000 in
set_option maxHeartbeats 4000000 in
theorem ok_X12_opens (N d : Nat)   (m : Mem) : Ok none SG (d + 9) m_X12_opens 0 [some (.ref 123)] [] SG m (f_X12_opens N m) := by
  unfold f_X12_opens
  refine ok_aload_n 1 0 dX12_opens_0 rfl rfl rfl ?_
  refine ok_getI 4 dX12_opens_1 rfl rfl F_EncoresModel_192 sg_123 rfl (Nat.le_of_ble_eq_true rfl) rfl ?_
  refine ok_bipush 6 8 dX12_opens_4 rfl rfl ?_
  refine ok_icmp_ne 15 9 dX12_opens_6 (by decide) rfl (fun _ => ?_) (fun _ => ?_)
  · refine ok_aload_n 16 0 dX12_opens_15 rfl rfl rfl ?_
    refine ok_dup 17 dX12_opens_16 rfl rfl ?_
    refine ok_getI 20 dX12_opens_17 rfl rfl F_EncoresModel_192 sg_123 rfl (Nat.le_of_ble_eq_true rfl) rfl ?_
    refine ok_iconst 21 1 dX12_opens_20 rfl rfl ?_
    refine ok_iadd 22 dX12_opens_21 rfl ?_
    refine ok_putI 25 dX12_opens_22 rfl rfl F_EncoresModel_192 sg_123 rfl (Nat.le_of_ble_eq_true rfl) rfl rfl pZ_12_24 rfl rfl ?_
    refine ok_bndM (fun m_22 => ?_)
    refine ok_aload_n 26 0 dX12_opens_25 rfl rfl rfl ?_
    refine ok_callVv (np := 0) (M' := m_X12_next0) (As := []) (st := []) 29 dX12_opens_26 rfl rfl km_X12_next0 ki_X12_next0 kv_X12_next0 ml_EncoresModel_186 (by decide) sg_123 rfl (Nat.le_of_ble_eq_true rfl) rfl rfl rfl (Nat.le_of_ble_eq_true rfl) (c_X12_next0 N (d + 0) m_22) ⟨Nat.le_refl _, Nat.le_refl _⟩ (Or.inl rfl) rfl (fun _ m_26 _ => ?_)
    refine ok_iconst 30 1 dX12_opens_29 rfl rfl ?_
    exact ok_zretc dX12_opens_30 rfl rfl
  · refine ok_aload_n 10 0 dX12_opens_9 rfl rfl rfl ?_
    refine ok_iconst 11 3 dX12_opens_10 rfl rfl ?_
    refine ok_callVi (np := 1) (M' := m_X12_bad) (As := [.int 3]) (st := []) 14 dX12_opens_11 rfl rfl km_X12_bad ki_X12_bad kv_X12_bad ml_EncoresModel_183 (by decide) sg_123 rfl (Nat.le_of_ble_eq_true rfl) rfl rfl rfl (Nat.le_of_ble_eq_true rfl) (c_X12_bad N (d + 8) 3 m) ⟨Nat.le_refl _, Nat.le_refl _⟩ (Or.inl rfl) rfl (fun r_11 m_11 _ => ?_)
    exact ok_zret dX12_opens_14 rfl

theorem c_X12_opens (N d : Nat)   (m : Mem) : CM (d + 9) m_X12_opens SG SG [.ref 123] m (f_X12_opens N m) :=
  CM.ofOk km_X12_opens ⟨Nat.le_refl _, Nat.le_refl _⟩ (by simp [Value.category]) (Nat.le_of_ble_eq_true rfl) (ok_X12_opens N d  m)

def f_X12_unit_J30 (N : Nat)    (s1_30 : Int32) (m : Mem) : Ans :=
if s1_30 = 0 then (bd (f_X12_lay N 0 (m 123 20) m) fun _ m_50 =>
bd (f_X12_next0 N m_50) fun _ m_54 =>
some (1, m_54))
else (bd (f_X12_lay N ((m 123 18) - (40 : Int32)) (m 123 20) m) fun _ m_50 =>
bd (f_X12_next0 N m_50) fun _ m_54 =>
some (1, m_54))

def f_X12_unit (N : Nat)  (m : Mem) : Ans :=
bd (f_X12_isIn N (m 123 18) 41 50 m) fun r_8 m_8 =>
if (m_8 123 18) = (2 : Int32) then (f_X12_unit_J30 N r_8 m_8)
else (if r_8 = 0 then (bd (f_X12_bad N 1 m_8) fun r_26 m_26 =>
chk (isB r_26) (some (r_26, m_26)))
else (f_X12_unit_J30 N r_8 m_8))

set_option maxRecDepth 100000 in
set_option maxHeartbeats 4000000 in
theorem ok_X12_unit_J30 (N d : Nat)     (s1_30 : Int32) (m : Mem) : Ok none SG (d + 9) m_X12_unit 30 [some (.ref 123), some (.int s1_30)] [] SG m (f_X12_unit_J30 N s1_30 m) := by
  unfold f_X12_unit_J30
  refine ok_aload_n 31 0 dX12_unit_30 rfl rfl rfl ?_
  refine ok_iload_n 32 1 dX12_unit_31 rfl rfl rfl ?_
  refine ok_if_eq 45 35 dX12_unit_32 (by decide) rfl (fun _ => ?_) (fun _ => ?_)
  · refine ok_iconst 46 0 dX12_unit_45 rfl rfl ?_
    refine ok_aload_n 47 0 dX12_unit_46 rfl rfl rfl ?_
    refine ok_getI 50 dX12_unit_47 rfl rfl F_EncoresModel_174 sg_123 rfl (Nat.le_of_ble_eq_true rfl) rfl ?_
    refine ok_callVv (np := 2) (M' := m_X12_lay) (As := [.int 0, .int (m 123 20)]) (st := []) 53 dX12_unit_50 rfl rfl km_X12_lay ki_X12_lay kv_X12_lay ml_EncoresModel_199 (by decide) sg_123 rfl (Nat.le_of_ble_eq_true rfl) rfl rfl rfl (Nat.le_of_ble_eq_true rfl) (c_X12_lay N (d + 8) 0 (m 123 20) m) ⟨Nat.le_refl _, Nat.le_refl _⟩ (Or.inl rfl) rfl (fun _ m_50 _ => ?_)
    refine ok_aload_n 54 0 dX12_unit_53 rfl rfl rfl ?_
    refine ok_callVv (np := 0) (M' := m_X12_next0) (As := []) (st := []) 57 dX12_unit_54 rfl rfl km_X12_next0 ki_X12_next0 kv_X12_next0 ml_EncoresModel_186 (by decide) sg_123 rfl (Nat.le_of_ble_eq_true rfl) rfl rfl rfl (Nat.le_of_ble_eq_true rfl) (c_X12_next0 N (d + 0) m_50) ⟨Nat.le_refl _, Nat.le_refl _⟩ (Or.inl rfl) rfl (fun _ m_54 _ => ?_)
    refine ok_iconst 58 1 dX12_unit_57 rfl rfl ?_
    exact ok_zretc dX12_unit_58 rfl rfl
  · refine ok_aload_n 36 0 dX12_unit_35 rfl rfl rfl ?_
    refine ok_getI 39 dX12_unit_36 rfl rfl F_EncoresModel_162 sg_123 rfl (Nat.le_of_ble_eq_true rfl) rfl ?_
    refine ok_bipush 41 40 dX12_unit_39 rfl rfl ?_
    refine ok_isub 42 dX12_unit_41 rfl ?_
    refine ok_goto 46 dX12_unit_42 (by decide) ?_
    refine ok_aload_n 47 0 dX12_unit_46 rfl rfl rfl ?_
    refine ok_getI 50 dX12_unit_47 rfl rfl F_EncoresModel_174 sg_123 rfl (Nat.le_of_ble_eq_true rfl) rfl ?_
    refine ok_callVv (np := 2) (M' := m_X12_lay) (As := [.int ((m 123 18) - (40 : Int32)), .int (m 123 20)]) (st := []) 53 dX12_unit_50 rfl rfl km_X12_lay ki_X12_lay kv_X12_lay ml_EncoresModel_199 (by decide) sg_123 rfl (Nat.le_of_ble_eq_true rfl) rfl rfl rfl (Nat.le_of_ble_eq_true rfl) (c_X12_lay N (d + 8) ((m 123 18) - (40 : Int32)) (m 123 20) m) ⟨Nat.le_refl _, Nat.le_refl _⟩ (Or.inl rfl) rfl (fun _ m_50 _ => ?_)
    refine ok_aload_n 54 0 dX12_unit_53 rfl rfl rfl ?_
    refine ok_callVv (np := 0) (M' := m_X12_next0) (As := []) (st := []) 57 dX12_unit_54 rfl rfl km_X12_next0 ki_X12_next0 kv_X12_next0 ml_EncoresModel_186 (by decide) sg_123 rfl (Nat.le_of_ble_eq_true rfl) rfl rfl rfl (Nat.le_of_ble_eq_true rfl) (c_X12_next0 N (d + 0) m_50) ⟨Nat.le_refl _, Nat.le_refl _⟩ (Or.inl rfl) rfl (fun _ m_54 _ => ?_)
    refine ok_iconst 58 1 dX12_unit_57 rfl rfl ?_
    exact ok_zretc dX12_unit_58 rfl rfl

set_option maxRecDepth 100000 in
set_option maxHeartbeats 4000000 in
theorem ok_X12_unit (N d : Nat)   (m : Mem) : Ok none SG (d + 9) m_X12_unit 0 [some (.ref 123), none] [] SG m (f_X12_unit N m) := by
  unfold f_X12_unit
  refine ok_aload_n 1 0 dX12_unit_0 rfl rfl rfl ?_
  refine ok_getI 4 dX12_unit_1 rfl rfl F_EncoresModel_162 sg_123 rfl (Nat.le_of_ble_eq_true rfl) rfl ?_
  refine ok_bipush 6 41 dX12_unit_4 rfl rfl ?_
  refine ok_bipush 8 50 dX12_unit_6 rfl rfl ?_
  refine ok_callSi (np := 3) (M' := m_X12_isIn) (As := [.int (m 123 18), .int 41, .int 50]) (st := []) 11 dX12_unit_8 rfl rfl km_X12_isIn ks_X12_isIn ml_EncoresModel_56 (by decide) rfl rfl (Nat.le_of_ble_eq_true rfl) (c_X12_isIn N (d + 8) (m 123 18) 41 50 m) ⟨Nat.le_refl _, Nat.le_refl _⟩ (Or.inl rfl) rfl (fun r_8 m_8 _ => ?_)
  refine ok_istore_n 12 1 [some (.ref 123), some (.int r_8)] dX12_unit_11 rfl rfl (by decide) rfl ?_
  refine ok_aload_n 13 0 dX12_unit_12 rfl rfl rfl ?_
  refine ok_getI 16 dX12_unit_13 rfl rfl F_EncoresModel_162 sg_123 rfl (Nat.le_of_ble_eq_true rfl) rfl ?_
  refine ok_iconst 17 2 dX12_unit_16 rfl rfl ?_
  refine ok_icmp_eq 30 20 dX12_unit_17 (by decide) rfl (fun _ => ?_) (fun _ => ?_)
  · exact ok_less [some (.ref 123), some (.int r_8)] (And.intro rfl (And.intro rfl (trivial))) (ok_X12_unit_J30 N d    r_8 m_8)
  · refine ok_iload_n 21 1 dX12_unit_20 rfl rfl rfl ?_
    refine ok_if_ne 30 24 dX12_unit_21 (by decide) rfl (fun _ => ?_) (fun _ => ?_)
    · exact ok_less [some (.ref 123), some (.int r_8)] (And.intro rfl (And.intro rfl (trivial))) (ok_X12_unit_J30 N d    r_8 m_8)
    · refine ok_aload_n 25 0 dX12_unit_24 rfl rfl rfl ?_
      refine ok_iconst 26 1 dX12_unit_25 rfl rfl ?_
      refine ok_callVi (np := 1) (M' := m_X12_bad) (As := [.int 1]) (st := []) 29 dX12_unit_26 rfl rfl km_X12_bad ki_X12_bad kv_X12_bad ml_EncoresModel_183 (by decide) sg_123 rfl (Nat.le_of_ble_eq_true rfl) rfl rfl rfl (Nat.le_of_ble_eq_true rfl) (c_X12_bad N (d + 8) 1 m_8) ⟨Nat.le_refl _, Nat.le_refl _⟩ (Or.inl rfl) rfl (fun r_26 m_26 _ => ?_)
      exact ok_zret dX12_unit_29 rfl

theorem c_X12_unit (N d : Nat)   (m : Mem) : CM (d + 9) m_X12_unit SG SG [.ref 123] m (f_X12_unit N m) :=
  CM.ofOk km_X12_unit ⟨Nat.le_refl _, Nat.le_refl _⟩ (by simp [Value.category]) (Nat.le_of_ble_eq_true rfl) (ok_X12_unit N d  m)

def f_X12_product_J44 (N : Nat)    (X : Mem → Ans) (t0_44 : Int32) (m : Mem) : Ans :=
bd (f_X12_next0 N m) fun _ m_46 =>
if t0_44 = 0 then (bd (f_X12_unit N m_46) fun r_97 m_97 =>
if r_97 = 0 then (some (0, m_97))
else (bd (f_X12_lay N 25 0 m_97) fun _ m_109 =>
X m_109))
else (bnd (m_46 123 20) fun a2_57 =>
if (m_46 123 18) = (2 : Int32) then (if a2_57 = 0 then (bd (f_X12_bad N 2 m_46) fun r_78 m_78 =>
chk (isB r_78) (some (r_78, m_78)))
else (bd (f_X12_next0 N m_46) fun _ m_83 =>
bd (f_X12_lay N 26 a2_57 m_83) fun _ m_90 =>
X m_90))
else (bd (f_X12_bad N 1 m_46) fun r_68 m_68 =>
chk (isB r_68) (some (r_68, m_68))))

def f_X12_product_J29 (N : Nat)    (X : Mem → Ans)  (m : Mem) : Ans :=
if (m 123 18) = (147 : Int32) then (f_X12_product_J44 N  X 1 m)
else (f_X12_product_J44 N  X 0 m)

def f_X12_product_L9 (N : Nat)    (X : Mem → Ans)  (m : Mem) : Ans :=
if (m 123 18) = (142 : Int32) then (f_X12_product_J29 N  X m)
else (if (m 123 18) = (147 : Int32) then (f_X12_product_J29 N  X m)
else (some (1, m)))

def f_X12_product (N : Nat)  (m : Mem) : Ans :=
bd (f_X12_unit N m) fun r_1 m_1 =>
if r_1 = 0 then (some (0, m_1))
else (it0 (f_X12_product_L9 N ) N m_1)

set_option maxRecDepth 100000 in
set_option maxHeartbeats 4000000 in
theorem ok_X12_product_J44 (N d : Nat)     (X : Mem → Ans) (hX : ∀  (m : Mem), Ok none SG (d + 10) m_X12_product 9 [some (.ref 123), none, none] [] SG m (X m)) (t0_44 : Int32) (m : Mem) : Ok none SG (d + 10) m_X12_product 44 [some (.ref 123), none, none] [.int t0_44] SG m (f_X12_product_J44 N  X t0_44 m) := by
  unfold f_X12_product_J44
  refine ok_istore_n 45 1 [some (.ref 123), some (.int t0_44), none] dX12_product_44 rfl rfl (by decide) rfl ?_
  refine ok_aload_n 46 0 dX12_product_45 rfl rfl rfl ?_
  refine ok_callVv (np := 0) (M' := m_X12_next0) (As := []) (st := []) 49 dX12_product_46 rfl rfl km_X12_next0 ki_X12_next0 kv_X12_next0 ml_EncoresModel_186 (by decide) sg_123 rfl (Nat.le_of_ble_eq_true rfl) rfl rfl rfl (Nat.le_of_ble_eq_true rfl) (c_X12_next0 N (d + 1) m) ⟨Nat.le_refl _, Nat.le_refl _⟩ (Or.inl rfl) rfl (fun _ m_46 _ => ?_)
  refine ok_iload_n 50 1 dX12_product_49 rfl rfl rfl ?_
  refine ok_if_eq 96 53 dX12_product_50 (by decide) rfl (fun _ => ?_) (fun _ => ?_)
  · refine ok_aload_n 97 0 dX12_product_96 rfl rfl rfl ?_
    refine ok_callVi (np := 0) (M' := m_X12_unit) (As := []) (st := []) 100 dX12_product_97 rfl rfl km_X12_unit ki_X12_unit kv_X12_unit ml_EncoresModel_203 (by decide) sg_123 rfl (Nat.le_of_ble_eq_true rfl) rfl rfl rfl (Nat.le_of_ble_eq_true rfl) (c_X12_unit N (d + 0) m_46) ⟨Nat.le_refl _, Nat.le_refl _⟩ (Or.inl rfl) rfl (fun r_97 m_97 _ => ?_)
    refine ok_if_ne 105 103 dX12_product_100 (by decide) rfl (fun _ => ?_) (fun _ => ?_)
    · refine ok_aload_n 106 0 dX12_product_105 rfl rfl rfl ?_
      refine ok_bipush 108 25 dX12_product_106 rfl rfl ?_
      refine ok_iconst 109 0 dX12_product_108 rfl rfl ?_
      refine ok_callVv (np := 2) (M' := m_X12_lay) (As := [.int 25, .int 0]) (st := []) 112 dX12_product_109 rfl rfl km_X12_lay ki_X12_lay kv_X12_lay ml_EncoresModel_199 (by decide) sg_123 rfl (Nat.le_of_ble_eq_true rfl) rfl rfl rfl (Nat.le_of_ble_eq_true rfl) (c_X12_lay N (d + 9) 25 0 m_97) ⟨Nat.le_refl _, Nat.le_refl _⟩ (Or.inl rfl) rfl (fun _ m_109 _ => ?_)
      refine ok_goto 9 dX12_product_112 (by decide) ?_
      exact ok_less [some (.ref 123), none, none] (And.intro rfl (trivial)) (hX m_109)
    · refine ok_iconst 104 0 dX12_product_103 rfl rfl ?_
      exact ok_zretc dX12_product_104 rfl rfl
  · refine ok_aload_n 54 0 dX12_product_53 rfl rfl rfl ?_
    refine ok_getI 57 dX12_product_54 rfl rfl F_EncoresModel_174 sg_123 rfl (Nat.le_of_ble_eq_true rfl) rfl ?_
    refine ok_bndI (fun a2_57 => ?_)
    refine ok_istore_n 58 2 [some (.ref 123), some (.int t0_44), some (.int a2_57)] dX12_product_57 rfl rfl (by decide) rfl ?_
    refine ok_aload_n 59 0 dX12_product_58 rfl rfl rfl ?_
    refine ok_getI 62 dX12_product_59 rfl rfl F_EncoresModel_162 sg_123 rfl (Nat.le_of_ble_eq_true rfl) rfl ?_
    refine ok_iconst 63 2 dX12_product_62 rfl rfl ?_
    refine ok_icmp_eq 72 66 dX12_product_63 (by decide) rfl (fun _ => ?_) (fun _ => ?_)
    · refine ok_iload_n 73 2 dX12_product_72 rfl rfl rfl ?_
      refine ok_if_ne 82 76 dX12_product_73 (by decide) rfl (fun _ => ?_) (fun _ => ?_)
      · refine ok_aload_n 83 0 dX12_product_82 rfl rfl rfl ?_
        refine ok_callVv (np := 0) (M' := m_X12_next0) (As := []) (st := []) 86 dX12_product_83 rfl rfl km_X12_next0 ki_X12_next0 kv_X12_next0 ml_EncoresModel_186 (by decide) sg_123 rfl (Nat.le_of_ble_eq_true rfl) rfl rfl rfl (Nat.le_of_ble_eq_true rfl) (c_X12_next0 N (d + 1) m_46) ⟨Nat.le_refl _, Nat.le_refl _⟩ (Or.inl rfl) rfl (fun _ m_83 _ => ?_)
        refine ok_aload_n 87 0 dX12_product_86 rfl rfl rfl ?_
        refine ok_bipush 89 26 dX12_product_87 rfl rfl ?_
        refine ok_iload_n 90 2 dX12_product_89 rfl rfl rfl ?_
        refine ok_callVv (np := 2) (M' := m_X12_lay) (As := [.int 26, .int a2_57]) (st := []) 93 dX12_product_90 rfl rfl km_X12_lay ki_X12_lay kv_X12_lay ml_EncoresModel_199 (by decide) sg_123 rfl (Nat.le_of_ble_eq_true rfl) rfl rfl rfl (Nat.le_of_ble_eq_true rfl) (c_X12_lay N (d + 9) 26 a2_57 m_83) ⟨Nat.le_refl _, Nat.le_refl _⟩ (Or.inl rfl) rfl (fun _ m_90 _ => ?_)
        refine ok_goto 112 dX12_product_93 (by decide) ?_
        refine ok_goto 9 dX12_product_112 (by decide) ?_
        exact ok_less [some (.ref 123), none, none] (And.intro rfl (trivial)) (hX m_90)
      · refine ok_aload_n 77 0 dX12_product_76 rfl rfl rfl ?_
        refine ok_iconst 78 2 dX12_product_77 rfl rfl ?_
        refine ok_callVi (np := 1) (M' := m_X12_bad) (As := [.int 2]) (st := []) 81 dX12_product_78 rfl rfl km_X12_bad ki_X12_bad kv_X12_bad ml_EncoresModel_183 (by decide) sg_123 rfl (Nat.le_of_ble_eq_true rfl) rfl rfl rfl (Nat.le_of_ble_eq_true rfl) (c_X12_bad N (d + 9) 2 m_46) ⟨Nat.le_refl _, Nat.le_refl _⟩ (Or.inl rfl) rfl (fun r_78 m_78 _ => ?_)
        exact ok_zret dX12_product_81 rfl
    · refine ok_aload_n 67 0 dX12_product_66 rfl rfl rfl ?_
      refine ok_iconst 68 1 dX12_product_67 rfl rfl ?_
      refine ok_callVi (np := 1) (M' := m_X12_bad) (As := [.int 1]) (st := []) 71 dX12_product_68 rfl rfl km_X12_bad ki_X12_bad kv_X12_bad ml_EncoresModel_183 (by decide) sg_123 rfl (Nat.le_of_ble_eq_true rfl) rfl rfl rfl (Nat.le_of_ble_eq_true rfl) (c_X12_bad N (d + 9) 1 m_46) ⟨Nat.le_refl _, Nat.le_refl _⟩ (Or.inl rfl) rfl (fun r_68 m_68 _ => ?_)
      exact ok_zret dX12_product_71 rfl

set_option maxRecDepth 100000 in
set_option maxHeartbeats 4000000 in
theorem ok_X12_product_J29 (N d : Nat)     (X : Mem → Ans) (hX : ∀  (m : Mem), Ok none SG (d + 10) m_X12_product 9 [some (.ref 123), none, none] [] SG m (X m))  (m : Mem) : Ok none SG (d + 10) m_X12_product 29 [some (.ref 123), none, none] [] SG m (f_X12_product_J29 N  X m) := by
  unfold f_X12_product_J29
  refine ok_aload_n 30 0 dX12_product_29 rfl rfl rfl ?_
  refine ok_getI 33 dX12_product_30 rfl rfl F_EncoresModel_162 sg_123 rfl (Nat.le_of_ble_eq_true rfl) rfl ?_
  refine ok_sipush 36 147 dX12_product_33 rfl rfl ?_
  refine ok_icmp_ne 43 39 dX12_product_36 (by decide) rfl (fun _ => ?_) (fun _ => ?_)
  · refine ok_iconst 44 0 dX12_product_43 rfl rfl ?_
    exact ok_less [some (.ref 123), none, none] (And.intro rfl (trivial)) (ok_X12_product_J44 N d    X hX 0 m)
  · refine ok_iconst 40 1 dX12_product_39 rfl rfl ?_
    refine ok_goto 44 dX12_product_40 (by decide) ?_
    exact ok_less [some (.ref 123), none, none] (And.intro rfl (trivial)) (ok_X12_product_J44 N d    X hX 1 m)

set_option maxRecDepth 100000 in
set_option maxHeartbeats 4000000 in
theorem ok_X12_product_L9 (N d : Nat)     : ∀ (n : Nat) (m : Mem), Ok none SG (d + 10) m_X12_product 9 [some (.ref 123), none, none] [] SG m (it0 (f_X12_product_L9 N) n m) :=
  ok_it0 [some (.ref 123), none, none] (fun X hX m => by
    try unfold f_X12_product_L9
    refine ok_aload_n 10 0 dX12_product_9 rfl rfl rfl ?_
    refine ok_getI 13 dX12_product_10 rfl rfl F_EncoresModel_162 sg_123 rfl (Nat.le_of_ble_eq_true rfl) rfl ?_
    refine ok_sipush 16 142 dX12_product_13 rfl rfl ?_
    refine ok_icmp_eq 29 19 dX12_product_16 (by decide) rfl (fun _ => ?_) (fun _ => ?_)
    · exact ok_less [some (.ref 123), none, none] (And.intro rfl (trivial)) (ok_X12_product_J29 N d    X hX m)
    · refine ok_aload_n 20 0 dX12_product_19 rfl rfl rfl ?_
      refine ok_getI 23 dX12_product_20 rfl rfl F_EncoresModel_162 sg_123 rfl (Nat.le_of_ble_eq_true rfl) rfl ?_
      refine ok_sipush 26 147 dX12_product_23 rfl rfl ?_
      refine ok_icmp_ne 115 29 dX12_product_26 (by decide) rfl (fun _ => ?_) (fun _ => ?_)
      · refine ok_iconst 116 1 dX12_product_115 rfl rfl ?_
        exact ok_zretc dX12_product_116 rfl rfl
      · exact ok_less [some (.ref 123), none, none] (And.intro rfl (trivial)) (ok_X12_product_J29 N d    X hX m))

set_option maxRecDepth 100000 in
set_option maxHeartbeats 4000000 in
theorem ok_X12_product (N d : Nat)   (m : Mem) : Ok none SG (d + 10) m_X12_product 0 [some (.ref 123), none, none] [] SG m (f_X12_product N m) := by
  unfold f_X12_product
  refine ok_aload_n 1 0 dX12_product_0 rfl rfl rfl ?_
  refine ok_callVi (np := 0) (M' := m_X12_unit) (As := []) (st := []) 4 dX12_product_1 rfl rfl km_X12_unit ki_X12_unit kv_X12_unit ml_EncoresModel_203 (by decide) sg_123 rfl (Nat.le_of_ble_eq_true rfl) rfl rfl rfl (Nat.le_of_ble_eq_true rfl) (c_X12_unit N (d + 0) m) ⟨Nat.le_refl _, Nat.le_refl _⟩ (Or.inl rfl) rfl (fun r_1 m_1 _ => ?_)
  refine ok_if_ne 9 7 dX12_product_4 (by decide) rfl (fun _ => ?_) (fun _ => ?_)
  · refine ok_less [some (.ref 123), none, none] (And.intro rfl (trivial)) ?_
    exact ok_X12_product_L9 N d     N m_1
  · refine ok_iconst 8 0 dX12_product_7 rfl rfl ?_
    exact ok_zretc dX12_product_8 rfl rfl

theorem c_X12_product (N d : Nat)   (m : Mem) : CM (d + 10) m_X12_product SG SG [.ref 123] m (f_X12_product N m) :=
  CM.ofOk km_X12_product ⟨Nat.le_refl _, Nat.le_refl _⟩ (by simp [Value.category]) (Nat.le_of_ble_eq_true rfl) (ok_X12_product N d  m)

def f_X12_sumUp_J46 (N : Nat)    (X : Mem → Ans) (t0_46 : Int32) (m : Mem) : Ans :=
bd (f_X12_next0 N m) fun _ m_48 =>
bd (f_X12_product N m_48) fun r_52 m_52 =>
if r_52 = 0 then (some (0, m_52))
else (bd (f_X12_lay N t0_46 0 m_52) fun _ m_63 =>
X m_63)

def f_X12_sumUp_J29 (N : Nat)    (X : Mem → Ans)  (m : Mem) : Ans :=
if (m 123 18) = (143 : Int32) then (f_X12_sumUp_J46 N  X 23 m)
else (f_X12_sumUp_J46 N  X 24 m)

def f_X12_sumUp_L9 (N : Nat)    (X : Mem → Ans)  (m : Mem) : Ans :=
if (m 123 18) = (143 : Int32) then (f_X12_sumUp_J29 N  X m)
else (if (m 123 18) = (145 : Int32) then (f_X12_sumUp_J29 N  X m)
else (some (1, m)))

def f_X12_sumUp (N : Nat)  (m : Mem) : Ans :=
bd (f_X12_product N m) fun r_1 m_1 =>
if r_1 = 0 then (some (0, m_1))
else (it0 (f_X12_sumUp_L9 N ) N m_1)

set_option maxRecDepth 100000 in
set_option maxHeartbeats 4000000 in
theorem ok_X12_sumUp_J46 (N d : Nat)     (X : Mem → Ans) (hX : ∀  (m : Mem), Ok none SG (d + 11) m_X12_sumUp 9 [some (.ref 123), none] [] SG m (X m)) (t0_46 : Int32) (m : Mem) : Ok none SG (d + 11) m_X12_sumUp 46 [some (.ref 123), none] [.int t0_46] SG m (f_X12_sumUp_J46 N  X t0_46 m) := by
  unfold f_X12_sumUp_J46
  refine ok_istore_n 47 1 [some (.ref 123), some (.int t0_46)] dX12_sumUp_46 rfl rfl (by decide) rfl ?_
  refine ok_aload_n 48 0 dX12_sumUp_47 rfl rfl rfl ?_
  refine ok_callVv (np := 0) (M' := m_X12_next0) (As := []) (st := []) 51 dX12_sumUp_48 rfl rfl km_X12_next0 ki_X12_next0 kv_X12_next0 ml_EncoresModel_186 (by decide) sg_123 rfl (Nat.le_of_ble_eq_true rfl) rfl rfl rfl (Nat.le_of_ble_eq_true rfl) (c_X12_next0 N (d + 2) m) ⟨Nat.le_refl _, Nat.le_refl _⟩ (Or.inl rfl) rfl (fun _ m_48 _ => ?_)
  refine ok_aload_n 52 0 dX12_sumUp_51 rfl rfl rfl ?_
  refine ok_callVi (np := 0) (M' := m_X12_product) (As := []) (st := []) 55 dX12_sumUp_52 rfl rfl km_X12_product ki_X12_product kv_X12_product ml_EncoresModel_195 (by decide) sg_123 rfl (Nat.le_of_ble_eq_true rfl) rfl rfl rfl (Nat.le_of_ble_eq_true rfl) (c_X12_product N (d + 0) m_48) ⟨Nat.le_refl _, Nat.le_refl _⟩ (Or.inl rfl) rfl (fun r_52 m_52 _ => ?_)
  refine ok_if_ne 60 58 dX12_sumUp_55 (by decide) rfl (fun _ => ?_) (fun _ => ?_)
  · refine ok_aload_n 61 0 dX12_sumUp_60 rfl rfl rfl ?_
    refine ok_iload_n 62 1 dX12_sumUp_61 rfl rfl rfl ?_
    refine ok_iconst 63 0 dX12_sumUp_62 rfl rfl ?_
    refine ok_callVv (np := 2) (M' := m_X12_lay) (As := [.int t0_46, .int 0]) (st := []) 66 dX12_sumUp_63 rfl rfl km_X12_lay ki_X12_lay kv_X12_lay ml_EncoresModel_199 (by decide) sg_123 rfl (Nat.le_of_ble_eq_true rfl) rfl rfl rfl (Nat.le_of_ble_eq_true rfl) (c_X12_lay N (d + 10) t0_46 0 m_52) ⟨Nat.le_refl _, Nat.le_refl _⟩ (Or.inl rfl) rfl (fun _ m_63 _ => ?_)
    refine ok_goto 9 dX12_sumUp_66 (by decide) ?_
    exact ok_less [some (.ref 123), none] (And.intro rfl (trivial)) (hX m_63)
  · refine ok_iconst 59 0 dX12_sumUp_58 rfl rfl ?_
    exact ok_zretc dX12_sumUp_59 rfl rfl

set_option maxRecDepth 100000 in
set_option maxHeartbeats 4000000 in
theorem ok_X12_sumUp_J29 (N d : Nat)     (X : Mem → Ans) (hX : ∀  (m : Mem), Ok none SG (d + 11) m_X12_sumUp 9 [some (.ref 123), none] [] SG m (X m))  (m : Mem) : Ok none SG (d + 11) m_X12_sumUp 29 [some (.ref 123), none] [] SG m (f_X12_sumUp_J29 N  X m) := by
  unfold f_X12_sumUp_J29
  refine ok_aload_n 30 0 dX12_sumUp_29 rfl rfl rfl ?_
  refine ok_getI 33 dX12_sumUp_30 rfl rfl F_EncoresModel_162 sg_123 rfl (Nat.le_of_ble_eq_true rfl) rfl ?_
  refine ok_sipush 36 143 dX12_sumUp_33 rfl rfl ?_
  refine ok_icmp_ne 44 39 dX12_sumUp_36 (by decide) rfl (fun _ => ?_) (fun _ => ?_)
  · refine ok_bipush 46 24 dX12_sumUp_44 rfl rfl ?_
    exact ok_less [some (.ref 123), none] (And.intro rfl (trivial)) (ok_X12_sumUp_J46 N d    X hX 24 m)
  · refine ok_bipush 41 23 dX12_sumUp_39 rfl rfl ?_
    refine ok_goto 46 dX12_sumUp_41 (by decide) ?_
    exact ok_less [some (.ref 123), none] (And.intro rfl (trivial)) (ok_X12_sumUp_J46 N d    X hX 23 m)

set_option maxRecDepth 100000 in
set_option maxHeartbeats 4000000 in
theorem ok_X12_sumUp_L9 (N d : Nat)     : ∀ (n : Nat) (m : Mem), Ok none SG (d + 11) m_X12_sumUp 9 [some (.ref 123), none] [] SG m (it0 (f_X12_sumUp_L9 N) n m) :=
  ok_it0 [some (.ref 123), none] (fun X hX m => by
    try unfold f_X12_sumUp_L9
    refine ok_aload_n 10 0 dX12_sumUp_9 rfl rfl rfl ?_
    refine ok_getI 13 dX12_sumUp_10 rfl rfl F_EncoresModel_162 sg_123 rfl (Nat.le_of_ble_eq_true rfl) rfl ?_
    refine ok_sipush 16 143 dX12_sumUp_13 rfl rfl ?_
    refine ok_icmp_eq 29 19 dX12_sumUp_16 (by decide) rfl (fun _ => ?_) (fun _ => ?_)
    · exact ok_less [some (.ref 123), none] (And.intro rfl (trivial)) (ok_X12_sumUp_J29 N d    X hX m)
    · refine ok_aload_n 20 0 dX12_sumUp_19 rfl rfl rfl ?_
      refine ok_getI 23 dX12_sumUp_20 rfl rfl F_EncoresModel_162 sg_123 rfl (Nat.le_of_ble_eq_true rfl) rfl ?_
      refine ok_sipush 26 145 dX12_sumUp_23 rfl rfl ?_
      refine ok_icmp_ne 69 29 dX12_sumUp_26 (by decide) rfl (fun _ => ?_) (fun _ => ?_)
      · refine ok_iconst 70 1 dX12_sumUp_69 rfl rfl ?_
        exact ok_zretc dX12_sumUp_70 rfl rfl
      · exact ok_less [some (.ref 123), none] (And.intro rfl (trivial)) (ok_X12_sumUp_J29 N d    X hX m))

set_option maxRecDepth 100000 in
set_option maxHeartbeats 4000000 in
theorem ok_X12_sumUp (N d : Nat)   (m : Mem) : Ok none SG (d + 11) m_X12_sumUp 0 [some (.ref 123), none] [] SG m (f_X12_sumUp N m) := by
  unfold f_X12_sumUp
  refine ok_aload_n 1 0 dX12_sumUp_0 rfl rfl rfl ?_
  refine ok_callVi (np := 0) (M' := m_X12_product) (As := []) (st := []) 4 dX12_sumUp_1 rfl rfl km_X12_product ki_X12_product kv_X12_product ml_EncoresModel_195 (by decide) sg_123 rfl (Nat.le_of_ble_eq_true rfl) rfl rfl rfl (Nat.le_of_ble_eq_true rfl) (c_X12_product N (d + 0) m) ⟨Nat.le_refl _, Nat.le_refl _⟩ (Or.inl rfl) rfl (fun r_1 m_1 _ => ?_)
  refine ok_if_ne 9 7 dX12_sumUp_4 (by decide) rfl (fun _ => ?_) (fun _ => ?_)
  · refine ok_less [some (.ref 123), none] (And.intro rfl (trivial)) ?_
    exact ok_X12_sumUp_L9 N d     N m_1
  · refine ok_iconst 8 0 dX12_sumUp_7 rfl rfl ?_
    exact ok_zretc dX12_sumUp_8 rfl rfl

theorem c_X12_sumUp (N d : Nat)   (m : Mem) : CM (d + 11) m_X12_sumUp SG SG [.ref 123] m (f_X12_sumUp N m) :=
  CM.ofOk km_X12_sumUp ⟨Nat.le_refl _, Nat.le_refl _⟩ (by simp [Value.category]) (Nat.le_of_ble_eq_true rfl) (ok_X12_sumUp N d  m)

def f_X12_every_L9 (N : Nat) (ot : Mem → Ans)    (X : Mem → Ans)  (m : Mem) : Ans :=
if (m 123 18) = (5 : Int32) then (bd (f_X12_next0 N m) fun _ m_18 =>
bd (ot m_18) fun r_22 m_22 =>
if r_22 = 0 then (some (0, m_22))
else (bd (f_X12_lay N 31 0 m_22) fun _ m_34 =>
X m_34))
else (some (1, m))

def f_X12_every (N : Nat) (ot : Mem → Ans)  (m : Mem) : Ans :=
bd (ot m) fun r_1 m_1 =>
if r_1 = 0 then (some (0, m_1))
else (it0 (f_X12_every_L9 N ot ) N m_1)

set_option maxRecDepth 100000 in
set_option maxHeartbeats 4000000 in
theorem ok_X12_every_L9 (N d : Nat) (ot : Mem → Ans) (hot : ∀ (e : Nat) (m : Mem), CM (d + e + 14) m_X12_oneTest SG SG [.ref 123] m (ot m))     : ∀ (n : Nat) (m : Mem), Ok none SG (d + 15) m_X12_every 9 [some (.ref 123)] [] SG m (it0 (f_X12_every_L9 N ot) n m) :=
  ok_it0 [some (.ref 123)] (fun X hX m => by
    try unfold f_X12_every_L9
    refine ok_aload_n 10 0 dX12_every_9 rfl rfl rfl ?_
    refine ok_getI 13 dX12_every_10 rfl rfl F_EncoresModel_162 sg_123 rfl (Nat.le_of_ble_eq_true rfl) rfl ?_
    refine ok_iconst 14 5 dX12_every_13 rfl rfl ?_
    refine ok_icmp_ne 40 17 dX12_every_14 (by decide) rfl (fun _ => ?_) (fun _ => ?_)
    · refine ok_iconst 41 1 dX12_every_40 rfl rfl ?_
      exact ok_zretc dX12_every_41 rfl rfl
    · refine ok_aload_n 18 0 dX12_every_17 rfl rfl rfl ?_
      refine ok_callVv (np := 0) (M' := m_X12_next0) (As := []) (st := []) 21 dX12_every_18 rfl rfl km_X12_next0 ki_X12_next0 kv_X12_next0 ml_EncoresModel_186 (by decide) sg_123 rfl (Nat.le_of_ble_eq_true rfl) rfl rfl rfl (Nat.le_of_ble_eq_true rfl) (c_X12_next0 N (d + 6) m) ⟨Nat.le_refl _, Nat.le_refl _⟩ (Or.inl rfl) rfl (fun _ m_18 _ => ?_)
      refine ok_aload_n 22 0 dX12_every_21 rfl rfl rfl ?_
      refine ok_callVi (np := 0) (M' := m_X12_oneTest) (As := []) (st := []) 25 dX12_every_22 rfl rfl km_X12_oneTest ki_X12_oneTest kv_X12_oneTest ml_EncoresModel_209 (by decide) sg_123 rfl (Nat.le_of_ble_eq_true rfl) rfl rfl rfl (Nat.le_of_ble_eq_true rfl) (hot 0 m_18) ⟨Nat.le_refl _, Nat.le_refl _⟩ (Or.inl rfl) rfl (fun r_22 m_22 _ => ?_)
      refine ok_if_ne 30 28 dX12_every_25 (by decide) rfl (fun _ => ?_) (fun _ => ?_)
      · refine ok_aload_n 31 0 dX12_every_30 rfl rfl rfl ?_
        refine ok_bipush 33 31 dX12_every_31 rfl rfl ?_
        refine ok_iconst 34 0 dX12_every_33 rfl rfl ?_
        refine ok_callVv (np := 2) (M' := m_X12_lay) (As := [.int 31, .int 0]) (st := []) 37 dX12_every_34 rfl rfl km_X12_lay ki_X12_lay kv_X12_lay ml_EncoresModel_199 (by decide) sg_123 rfl (Nat.le_of_ble_eq_true rfl) rfl rfl rfl (Nat.le_of_ble_eq_true rfl) (c_X12_lay N (d + 14) 31 0 m_22) ⟨Nat.le_refl _, Nat.le_refl _⟩ (Or.inl rfl) rfl (fun _ m_34 _ => ?_)
        refine ok_goto 9 dX12_every_37 (by decide) ?_
        exact ok_less [some (.ref 123)] (And.intro rfl (trivial)) (hX m_34)
      · refine ok_iconst 29 0 dX12_every_28 rfl rfl ?_
        exact ok_zretc dX12_every_29 rfl rfl)

set_option maxRecDepth 100000 in
set_option maxHeartbeats 4000000 in
theorem ok_X12_every (N d : Nat) (ot : Mem → Ans) (hot : ∀ (e : Nat) (m : Mem), CM (d + e + 14) m_X12_oneTest SG SG [.ref 123] m (ot m))   (m : Mem) : Ok none SG (d + 15) m_X12_every 0 [some (.ref 123)] [] SG m (f_X12_every N ot m) := by
  unfold f_X12_every
  refine ok_aload_n 1 0 dX12_every_0 rfl rfl rfl ?_
  refine ok_callVi (np := 0) (M' := m_X12_oneTest) (As := []) (st := []) 4 dX12_every_1 rfl rfl km_X12_oneTest ki_X12_oneTest kv_X12_oneTest ml_EncoresModel_209 (by decide) sg_123 rfl (Nat.le_of_ble_eq_true rfl) rfl rfl rfl (Nat.le_of_ble_eq_true rfl) (hot 0 m) ⟨Nat.le_refl _, Nat.le_refl _⟩ (Or.inl rfl) rfl (fun r_1 m_1 _ => ?_)
  refine ok_if_ne 9 7 dX12_every_4 (by decide) rfl (fun _ => ?_) (fun _ => ?_)
  · refine ok_less [some (.ref 123)] (And.intro rfl (trivial)) ?_
    exact ok_X12_every_L9 N d ot hot    N m_1
  · refine ok_iconst 8 0 dX12_every_7 rfl rfl ?_
    exact ok_zretc dX12_every_8 rfl rfl

theorem c_X12_every (N d : Nat) (ot : Mem → Ans) (hot : ∀ (e : Nat) (m : Mem), CM (d + e + 14) m_X12_oneTest SG SG [.ref 123] m (ot m))   (m : Mem) : CM (d + 15) m_X12_every SG SG [.ref 123] m (f_X12_every N ot m) :=
  CM.ofOk km_X12_every ⟨Nat.le_refl _, Nat.le_refl _⟩ (by simp [Value.category]) (Nat.le_of_ble_eq_true rfl) (ok_X12_every N d ot hot m)

def f_X12_any_L9 (N : Nat) (ot : Mem → Ans)    (X : Mem → Ans)  (m : Mem) : Ans :=
if (m 123 18) = (4 : Int32) then (bd (f_X12_next0 N m) fun _ m_18 =>
bd (f_X12_every N ot m_18) fun r_22 m_22 =>
if r_22 = 0 then (some (0, m_22))
else (bd (f_X12_lay N 32 0 m_22) fun _ m_34 =>
X m_34))
else (some (1, m))

def f_X12_any (N : Nat) (ot : Mem → Ans)  (m : Mem) : Ans :=
bd (f_X12_every N ot m) fun r_1 m_1 =>
if r_1 = 0 then (some (0, m_1))
else (it0 (f_X12_any_L9 N ot ) N m_1)

set_option maxRecDepth 100000 in
set_option maxHeartbeats 4000000 in
theorem ok_X12_any_L9 (N d : Nat) (ot : Mem → Ans) (hot : ∀ (e : Nat) (m : Mem), CM (d + e + 14) m_X12_oneTest SG SG [.ref 123] m (ot m))     : ∀ (n : Nat) (m : Mem), Ok none SG (d + 16) m_X12_any 9 [some (.ref 123)] [] SG m (it0 (f_X12_any_L9 N ot) n m) :=
  ok_it0 [some (.ref 123)] (fun X hX m => by
    try unfold f_X12_any_L9
    refine ok_aload_n 10 0 dX12_any_9 rfl rfl rfl ?_
    refine ok_getI 13 dX12_any_10 rfl rfl F_EncoresModel_162 sg_123 rfl (Nat.le_of_ble_eq_true rfl) rfl ?_
    refine ok_iconst 14 4 dX12_any_13 rfl rfl ?_
    refine ok_icmp_ne 40 17 dX12_any_14 (by decide) rfl (fun _ => ?_) (fun _ => ?_)
    · refine ok_iconst 41 1 dX12_any_40 rfl rfl ?_
      exact ok_zretc dX12_any_41 rfl rfl
    · refine ok_aload_n 18 0 dX12_any_17 rfl rfl rfl ?_
      refine ok_callVv (np := 0) (M' := m_X12_next0) (As := []) (st := []) 21 dX12_any_18 rfl rfl km_X12_next0 ki_X12_next0 kv_X12_next0 ml_EncoresModel_186 (by decide) sg_123 rfl (Nat.le_of_ble_eq_true rfl) rfl rfl rfl (Nat.le_of_ble_eq_true rfl) (c_X12_next0 N (d + 7) m) ⟨Nat.le_refl _, Nat.le_refl _⟩ (Or.inl rfl) rfl (fun _ m_18 _ => ?_)
      refine ok_aload_n 22 0 dX12_any_21 rfl rfl rfl ?_
      refine ok_callVi (np := 0) (M' := m_X12_every) (As := []) (st := []) 25 dX12_any_22 rfl rfl km_X12_every ki_X12_every kv_X12_every ml_EncoresModel_206 (by decide) sg_123 rfl (Nat.le_of_ble_eq_true rfl) rfl rfl rfl (Nat.le_of_ble_eq_true rfl) (c_X12_every N d ot hot m_18) ⟨Nat.le_refl _, Nat.le_refl _⟩ (Or.inl rfl) rfl (fun r_22 m_22 _ => ?_)
      refine ok_if_ne 30 28 dX12_any_25 (by decide) rfl (fun _ => ?_) (fun _ => ?_)
      · refine ok_aload_n 31 0 dX12_any_30 rfl rfl rfl ?_
        refine ok_bipush 33 32 dX12_any_31 rfl rfl ?_
        refine ok_iconst 34 0 dX12_any_33 rfl rfl ?_
        refine ok_callVv (np := 2) (M' := m_X12_lay) (As := [.int 32, .int 0]) (st := []) 37 dX12_any_34 rfl rfl km_X12_lay ki_X12_lay kv_X12_lay ml_EncoresModel_199 (by decide) sg_123 rfl (Nat.le_of_ble_eq_true rfl) rfl rfl rfl (Nat.le_of_ble_eq_true rfl) (c_X12_lay N (d + 15) 32 0 m_22) ⟨Nat.le_refl _, Nat.le_refl _⟩ (Or.inl rfl) rfl (fun _ m_34 _ => ?_)
        refine ok_goto 9 dX12_any_37 (by decide) ?_
        exact ok_less [some (.ref 123)] (And.intro rfl (trivial)) (hX m_34)
      · refine ok_iconst 29 0 dX12_any_28 rfl rfl ?_
        exact ok_zretc dX12_any_29 rfl rfl)

set_option maxRecDepth 100000 in
set_option maxHeartbeats 4000000 in
theorem ok_X12_any (N d : Nat) (ot : Mem → Ans) (hot : ∀ (e : Nat) (m : Mem), CM (d + e + 14) m_X12_oneTest SG SG [.ref 123] m (ot m))   (m : Mem) : Ok none SG (d + 16) m_X12_any 0 [some (.ref 123)] [] SG m (f_X12_any N ot m) := by
  unfold f_X12_any
  refine ok_aload_n 1 0 dX12_any_0 rfl rfl rfl ?_
  refine ok_callVi (np := 0) (M' := m_X12_every) (As := []) (st := []) 4 dX12_any_1 rfl rfl km_X12_every ki_X12_every kv_X12_every ml_EncoresModel_206 (by decide) sg_123 rfl (Nat.le_of_ble_eq_true rfl) rfl rfl rfl (Nat.le_of_ble_eq_true rfl) (c_X12_every N d ot hot m) ⟨Nat.le_refl _, Nat.le_refl _⟩ (Or.inl rfl) rfl (fun r_1 m_1 _ => ?_)
  refine ok_if_ne 9 7 dX12_any_4 (by decide) rfl (fun _ => ?_) (fun _ => ?_)
  · refine ok_less [some (.ref 123)] (And.intro rfl (trivial)) ?_
    exact ok_X12_any_L9 N d ot hot    N m_1
  · refine ok_iconst 8 0 dX12_any_7 rfl rfl ?_
    exact ok_zretc dX12_any_8 rfl rfl

theorem c_X12_any (N d : Nat) (ot : Mem → Ans) (hot : ∀ (e : Nat) (m : Mem), CM (d + e + 14) m_X12_oneTest SG SG [.ref 123] m (ot m))   (m : Mem) : CM (d + 16) m_X12_any SG SG [.ref 123] m (f_X12_any N ot m) :=
  CM.ofOk km_X12_any ⟨Nat.le_refl _, Nat.le_refl _⟩ (by simp [Value.category]) (Nat.le_of_ble_eq_true rfl) (ok_X12_any N d ot hot m)

def f_X12_oneTestB_J147 (N : Nat) (ot : Mem → Ans)    (t0_147 : Int32) (m : Mem) : Ans :=
if t0_147 = (-1 : Int32) then (bd (f_X12_bad N 1 m) fun r_155 m_155 =>
chk (isB r_155) (some (r_155, m_155)))
else (bd (f_X12_next0 N m) fun _ m_160 =>
bd (f_X12_sumUp N m_160) fun r_164 m_164 =>
if r_164 = 0 then (some (0, m_164))
else (bd (f_X12_lay N t0_147 0 m_164) fun _ m_175 =>
some (1, m_175)))

def f_X12_oneTestB (N : Nat) (ot : Mem → Ans)  (m : Mem) : Ans :=
if (m 123 18) = (6 : Int32) then (bd (f_X12_opens N m) fun r_10 m_10 =>
if r_10 = 0 then (some (0, m_10))
else (bd (ot m_10) fun r_17 m_17 =>
if r_17 = 0 then (some (0, m_17))
else (bnd (mset m_17 123 24 ((m_17 123 24) - (1 : Int32))) fun m_32 =>
bd (f_X12_lay N 30 0 m_32) fun _ m_39 =>
some (1, m_39))))
else (if (m 123 18) = (140 : Int32) then (bd (f_X12_opens N m) fun r_55 m_55 =>
if r_55 = 0 then (some (0, m_55))
else (bd (f_X12_any N ot m_55) fun r_62 m_62 =>
if r_62 = 0 then (some (0, m_62))
else (bd (f_X12_need N 141 m_62) fun r_72 m_72 =>
if r_72 = 0 then (some (0, m_72))
else (bnd (mset m_72 123 24 ((m_72 123 24) - (1 : Int32))) fun m_87 =>
some (1, m_87)))))
else (bd (f_X12_sumUp N m) fun r_93 m_93 =>
if r_93 = 0 then (some (0, m_93))
else (if (m_93 123 18) = (160 : Int32) then (f_X12_oneTestB_J147 N ot 27 m_93)
else (if (m_93 123 18) = (161 : Int32) then (f_X12_oneTestB_J147 N ot 28 m_93)
else (if (m_93 123 18) = (162 : Int32) then (f_X12_oneTestB_J147 N ot 29 m_93)
else (f_X12_oneTestB_J147 N ot (-1) m_93))))))

def f_X12_oneTest (N : Nat) : Nat → Mem → Ans
  | 0 => fun _ => none
  | k + 1 => f_X12_oneTestB N (f_X12_oneTest N k)

set_option maxRecDepth 100000 in
set_option maxHeartbeats 4000000 in
theorem ok_X12_oneTestB_J147 (N d : Nat) (ot : Mem → Ans) (hot : ∀ (e : Nat) (m : Mem), CM (d + e + 14) m_X12_oneTest SG SG [.ref 123] m (ot m))     (t0_147 : Int32) (m : Mem) : Ok none SG (d + 17) m_X12_oneTest 147 [some (.ref 123), none] [.int t0_147] SG m (f_X12_oneTestB_J147 N ot t0_147 m) := by
  unfold f_X12_oneTestB_J147
  refine ok_istore_n 148 1 [some (.ref 123), some (.int t0_147)] dX12_oneTest_147 rfl rfl (by decide) rfl ?_
  refine ok_iload_n 149 1 dX12_oneTest_148 rfl rfl rfl ?_
  refine ok_iconst 150 (-1) dX12_oneTest_149 rfl rfl ?_
  refine ok_icmp_ne 159 153 dX12_oneTest_150 (by decide) rfl (fun _ => ?_) (fun _ => ?_)
  · refine ok_aload_n 160 0 dX12_oneTest_159 rfl rfl rfl ?_
    refine ok_callVv (np := 0) (M' := m_X12_next0) (As := []) (st := []) 163 dX12_oneTest_160 rfl rfl km_X12_next0 ki_X12_next0 kv_X12_next0 ml_EncoresModel_186 (by decide) sg_123 rfl (Nat.le_of_ble_eq_true rfl) rfl rfl rfl (Nat.le_of_ble_eq_true rfl) (c_X12_next0 N (d + 8) m) ⟨Nat.le_refl _, Nat.le_refl _⟩ (Or.inl rfl) rfl (fun _ m_160 _ => ?_)
    refine ok_aload_n 164 0 dX12_oneTest_163 rfl rfl rfl ?_
    refine ok_callVi (np := 0) (M' := m_X12_sumUp) (As := []) (st := []) 167 dX12_oneTest_164 rfl rfl km_X12_sumUp ki_X12_sumUp kv_X12_sumUp ml_EncoresModel_221 (by decide) sg_123 rfl (Nat.le_of_ble_eq_true rfl) rfl rfl rfl (Nat.le_of_ble_eq_true rfl) (c_X12_sumUp N (d + 5) m_160) ⟨Nat.le_refl _, Nat.le_refl _⟩ (Or.inl rfl) rfl (fun r_164 m_164 _ => ?_)
    refine ok_if_ne 172 170 dX12_oneTest_167 (by decide) rfl (fun _ => ?_) (fun _ => ?_)
    · refine ok_aload_n 173 0 dX12_oneTest_172 rfl rfl rfl ?_
      refine ok_iload_n 174 1 dX12_oneTest_173 rfl rfl rfl ?_
      refine ok_iconst 175 0 dX12_oneTest_174 rfl rfl ?_
      refine ok_callVv (np := 2) (M' := m_X12_lay) (As := [.int t0_147, .int 0]) (st := []) 178 dX12_oneTest_175 rfl rfl km_X12_lay ki_X12_lay kv_X12_lay ml_EncoresModel_199 (by decide) sg_123 rfl (Nat.le_of_ble_eq_true rfl) rfl rfl rfl (Nat.le_of_ble_eq_true rfl) (c_X12_lay N (d + 16) t0_147 0 m_164) ⟨Nat.le_refl _, Nat.le_refl _⟩ (Or.inl rfl) rfl (fun _ m_175 _ => ?_)
      refine ok_iconst 179 1 dX12_oneTest_178 rfl rfl ?_
      exact ok_zretc dX12_oneTest_179 rfl rfl
    · refine ok_iconst 171 0 dX12_oneTest_170 rfl rfl ?_
      exact ok_zretc dX12_oneTest_171 rfl rfl
  · refine ok_aload_n 154 0 dX12_oneTest_153 rfl rfl rfl ?_
    refine ok_iconst 155 1 dX12_oneTest_154 rfl rfl ?_
    refine ok_callVi (np := 1) (M' := m_X12_bad) (As := [.int 1]) (st := []) 158 dX12_oneTest_155 rfl rfl km_X12_bad ki_X12_bad kv_X12_bad ml_EncoresModel_183 (by decide) sg_123 rfl (Nat.le_of_ble_eq_true rfl) rfl rfl rfl (Nat.le_of_ble_eq_true rfl) (c_X12_bad N (d + 16) 1 m) ⟨Nat.le_refl _, Nat.le_refl _⟩ (Or.inl rfl) rfl (fun r_155 m_155 _ => ?_)
    exact ok_zret dX12_oneTest_158 rfl

set_option maxRecDepth 100000 in
set_option maxHeartbeats 4000000 in
theorem ok_X12_oneTestB (N d : Nat) (ot : Mem → Ans) (hot : ∀ (e : Nat) (m : Mem), CM (d + e + 14) m_X12_oneTest SG SG [.ref 123] m (ot m))   (m : Mem) : Ok none SG (d + 17) m_X12_oneTest 0 [some (.ref 123), none] [] SG m (f_X12_oneTestB N ot m) := by
  unfold f_X12_oneTestB
  refine ok_aload_n 1 0 dX12_oneTest_0 rfl rfl rfl ?_
  refine ok_getI 4 dX12_oneTest_1 rfl rfl F_EncoresModel_162 sg_123 rfl (Nat.le_of_ble_eq_true rfl) rfl ?_
  refine ok_bipush 6 6 dX12_oneTest_4 rfl rfl ?_
  refine ok_icmp_ne 44 9 dX12_oneTest_6 (by decide) rfl (fun _ => ?_) (fun _ => ?_)
  · refine ok_aload_n 45 0 dX12_oneTest_44 rfl rfl rfl ?_
    refine ok_getI 48 dX12_oneTest_45 rfl rfl F_EncoresModel_162 sg_123 rfl (Nat.le_of_ble_eq_true rfl) rfl ?_
    refine ok_sipush 51 140 dX12_oneTest_48 rfl rfl ?_
    refine ok_icmp_ne 92 54 dX12_oneTest_51 (by decide) rfl (fun _ => ?_) (fun _ => ?_)
    · refine ok_aload_n 93 0 dX12_oneTest_92 rfl rfl rfl ?_
      refine ok_callVi (np := 0) (M' := m_X12_sumUp) (As := []) (st := []) 96 dX12_oneTest_93 rfl rfl km_X12_sumUp ki_X12_sumUp kv_X12_sumUp ml_EncoresModel_221 (by decide) sg_123 rfl (Nat.le_of_ble_eq_true rfl) rfl rfl rfl (Nat.le_of_ble_eq_true rfl) (c_X12_sumUp N (d + 5) m) ⟨Nat.le_refl _, Nat.le_refl _⟩ (Or.inl rfl) rfl (fun r_93 m_93 _ => ?_)
      refine ok_if_ne 101 99 dX12_oneTest_96 (by decide) rfl (fun _ => ?_) (fun _ => ?_)
      · refine ok_aload_n 102 0 dX12_oneTest_101 rfl rfl rfl ?_
        refine ok_getI 105 dX12_oneTest_102 rfl rfl F_EncoresModel_162 sg_123 rfl (Nat.le_of_ble_eq_true rfl) rfl ?_
        refine ok_sipush 108 160 dX12_oneTest_105 rfl rfl ?_
        refine ok_icmp_ne 116 111 dX12_oneTest_108 (by decide) rfl (fun _ => ?_) (fun _ => ?_)
        · refine ok_aload_n 117 0 dX12_oneTest_116 rfl rfl rfl ?_
          refine ok_getI 120 dX12_oneTest_117 rfl rfl F_EncoresModel_162 sg_123 rfl (Nat.le_of_ble_eq_true rfl) rfl ?_
          refine ok_sipush 123 161 dX12_oneTest_120 rfl rfl ?_
          refine ok_icmp_ne 131 126 dX12_oneTest_123 (by decide) rfl (fun _ => ?_) (fun _ => ?_)
          · refine ok_aload_n 132 0 dX12_oneTest_131 rfl rfl rfl ?_
            refine ok_getI 135 dX12_oneTest_132 rfl rfl F_EncoresModel_162 sg_123 rfl (Nat.le_of_ble_eq_true rfl) rfl ?_
            refine ok_sipush 138 162 dX12_oneTest_135 rfl rfl ?_
            refine ok_icmp_ne 146 141 dX12_oneTest_138 (by decide) rfl (fun _ => ?_) (fun _ => ?_)
            · refine ok_iconst 147 (-1) dX12_oneTest_146 rfl rfl ?_
              exact ok_less [some (.ref 123), none] (And.intro rfl (trivial)) (ok_X12_oneTestB_J147 N d ot hot   (-1) m_93)
            · refine ok_bipush 143 29 dX12_oneTest_141 rfl rfl ?_
              refine ok_goto 147 dX12_oneTest_143 (by decide) ?_
              exact ok_less [some (.ref 123), none] (And.intro rfl (trivial)) (ok_X12_oneTestB_J147 N d ot hot   29 m_93)
          · refine ok_bipush 128 28 dX12_oneTest_126 rfl rfl ?_
            refine ok_goto 147 dX12_oneTest_128 (by decide) ?_
            exact ok_less [some (.ref 123), none] (And.intro rfl (trivial)) (ok_X12_oneTestB_J147 N d ot hot   28 m_93)
        · refine ok_bipush 113 27 dX12_oneTest_111 rfl rfl ?_
          refine ok_goto 147 dX12_oneTest_113 (by decide) ?_
          exact ok_less [some (.ref 123), none] (And.intro rfl (trivial)) (ok_X12_oneTestB_J147 N d ot hot   27 m_93)
      · refine ok_iconst 100 0 dX12_oneTest_99 rfl rfl ?_
        exact ok_zretc dX12_oneTest_100 rfl rfl
    · refine ok_aload_n 55 0 dX12_oneTest_54 rfl rfl rfl ?_
      refine ok_callVi (np := 0) (M' := m_X12_opens) (As := []) (st := []) 58 dX12_oneTest_55 rfl rfl km_X12_opens ki_X12_opens kv_X12_opens ml_EncoresModel_212 (by decide) sg_123 rfl (Nat.le_of_ble_eq_true rfl) rfl rfl rfl (Nat.le_of_ble_eq_true rfl) (c_X12_opens N (d + 7) m) ⟨Nat.le_refl _, Nat.le_refl _⟩ (Or.inl rfl) rfl (fun r_55 m_55 _ => ?_)
      refine ok_if_eq 78 61 dX12_oneTest_58 (by decide) rfl (fun _ => ?_) (fun _ => ?_)
      · refine ok_iconst 79 0 dX12_oneTest_78 rfl rfl ?_
        exact ok_zretc dX12_oneTest_79 rfl rfl
      · refine ok_aload_n 62 0 dX12_oneTest_61 rfl rfl rfl ?_
        refine ok_callVi (np := 0) (M' := m_X12_any) (As := []) (st := []) 65 dX12_oneTest_62 rfl rfl km_X12_any ki_X12_any kv_X12_any ml_EncoresModel_215 (by decide) sg_123 rfl (Nat.le_of_ble_eq_true rfl) rfl rfl rfl (Nat.le_of_ble_eq_true rfl) (c_X12_any N d ot hot m_55) ⟨Nat.le_refl _, Nat.le_refl _⟩ (Or.inl rfl) rfl (fun r_62 m_62 _ => ?_)
        refine ok_if_eq 78 68 dX12_oneTest_65 (by decide) rfl (fun _ => ?_) (fun _ => ?_)
        · refine ok_iconst 79 0 dX12_oneTest_78 rfl rfl ?_
          exact ok_zretc dX12_oneTest_79 rfl rfl
        · refine ok_aload_n 69 0 dX12_oneTest_68 rfl rfl rfl ?_
          refine ok_sipush 72 141 dX12_oneTest_69 rfl rfl ?_
          refine ok_callVi (np := 1) (M' := m_X12_need) (As := [.int 141]) (st := []) 75 dX12_oneTest_72 rfl rfl km_X12_need ki_X12_need kv_X12_need ml_EncoresModel_218 (by decide) sg_123 rfl (Nat.le_of_ble_eq_true rfl) rfl rfl rfl (Nat.le_of_ble_eq_true rfl) (c_X12_need N (d + 7) 141 m_62) ⟨Nat.le_refl _, Nat.le_refl _⟩ (Or.inl rfl) rfl (fun r_72 m_72 _ => ?_)
          refine ok_if_ne 80 78 dX12_oneTest_75 (by decide) rfl (fun _ => ?_) (fun _ => ?_)
          · refine ok_aload_n 81 0 dX12_oneTest_80 rfl rfl rfl ?_
            refine ok_dup 82 dX12_oneTest_81 rfl rfl ?_
            refine ok_getI 85 dX12_oneTest_82 rfl rfl F_EncoresModel_192 sg_123 rfl (Nat.le_of_ble_eq_true rfl) rfl ?_
            refine ok_iconst 86 1 dX12_oneTest_85 rfl rfl ?_
            refine ok_isub 87 dX12_oneTest_86 rfl ?_
            refine ok_putI 90 dX12_oneTest_87 rfl rfl F_EncoresModel_192 sg_123 rfl (Nat.le_of_ble_eq_true rfl) rfl rfl pZ_12_24 rfl rfl ?_
            refine ok_bndM (fun m_87 => ?_)
            refine ok_iconst 91 1 dX12_oneTest_90 rfl rfl ?_
            exact ok_zretc dX12_oneTest_91 rfl rfl
          · refine ok_iconst 79 0 dX12_oneTest_78 rfl rfl ?_
            exact ok_zretc dX12_oneTest_79 rfl rfl
  · refine ok_aload_n 10 0 dX12_oneTest_9 rfl rfl rfl ?_
    refine ok_callVi (np := 0) (M' := m_X12_opens) (As := []) (st := []) 13 dX12_oneTest_10 rfl rfl km_X12_opens ki_X12_opens kv_X12_opens ml_EncoresModel_212 (by decide) sg_123 rfl (Nat.le_of_ble_eq_true rfl) rfl rfl rfl (Nat.le_of_ble_eq_true rfl) (c_X12_opens N (d + 7) m) ⟨Nat.le_refl _, Nat.le_refl _⟩ (Or.inl rfl) rfl (fun r_10 m_10 _ => ?_)
    refine ok_if_eq 23 16 dX12_oneTest_13 (by decide) rfl (fun _ => ?_) (fun _ => ?_)
    · refine ok_iconst 24 0 dX12_oneTest_23 rfl rfl ?_
      exact ok_zretc dX12_oneTest_24 rfl rfl
    · refine ok_aload_n 17 0 dX12_oneTest_16 rfl rfl rfl ?_
      refine ok_callVi (np := 0) (M' := m_X12_oneTest) (As := []) (st := []) 20 dX12_oneTest_17 rfl rfl km_X12_oneTest ki_X12_oneTest kv_X12_oneTest ml_EncoresModel_209 (by decide) sg_123 rfl (Nat.le_of_ble_eq_true rfl) rfl rfl rfl (Nat.le_of_ble_eq_true rfl) (hot 2 m_10) ⟨Nat.le_refl _, Nat.le_refl _⟩ (Or.inl rfl) rfl (fun r_17 m_17 _ => ?_)
      refine ok_if_ne 25 23 dX12_oneTest_20 (by decide) rfl (fun _ => ?_) (fun _ => ?_)
      · refine ok_aload_n 26 0 dX12_oneTest_25 rfl rfl rfl ?_
        refine ok_dup 27 dX12_oneTest_26 rfl rfl ?_
        refine ok_getI 30 dX12_oneTest_27 rfl rfl F_EncoresModel_192 sg_123 rfl (Nat.le_of_ble_eq_true rfl) rfl ?_
        refine ok_iconst 31 1 dX12_oneTest_30 rfl rfl ?_
        refine ok_isub 32 dX12_oneTest_31 rfl ?_
        refine ok_putI 35 dX12_oneTest_32 rfl rfl F_EncoresModel_192 sg_123 rfl (Nat.le_of_ble_eq_true rfl) rfl rfl pZ_12_24 rfl rfl ?_
        refine ok_bndM (fun m_32 => ?_)
        refine ok_aload_n 36 0 dX12_oneTest_35 rfl rfl rfl ?_
        refine ok_bipush 38 30 dX12_oneTest_36 rfl rfl ?_
        refine ok_iconst 39 0 dX12_oneTest_38 rfl rfl ?_
        refine ok_callVv (np := 2) (M' := m_X12_lay) (As := [.int 30, .int 0]) (st := []) 42 dX12_oneTest_39 rfl rfl km_X12_lay ki_X12_lay kv_X12_lay ml_EncoresModel_199 (by decide) sg_123 rfl (Nat.le_of_ble_eq_true rfl) rfl rfl rfl (Nat.le_of_ble_eq_true rfl) (c_X12_lay N (d + 16) 30 0 m_32) ⟨Nat.le_refl _, Nat.le_refl _⟩ (Or.inl rfl) rfl (fun _ m_39 _ => ?_)
        refine ok_iconst 43 1 dX12_oneTest_42 rfl rfl ?_
        exact ok_zretc dX12_oneTest_43 rfl rfl
      · refine ok_iconst 24 0 dX12_oneTest_23 rfl rfl ?_
        exact ok_zretc dX12_oneTest_24 rfl rfl

theorem c_X12_oneTestB (N d : Nat) (ot : Mem → Ans) (hot : ∀ (e : Nat) (m : Mem), CM (d + e + 14) m_X12_oneTest SG SG [.ref 123] m (ot m))   (m : Mem) : CM (d + 17) m_X12_oneTest SG SG [.ref 123] m (f_X12_oneTestB N ot m) :=
  CM.ofOk km_X12_oneTest ⟨Nat.le_refl _, Nat.le_refl _⟩ (by simp [Value.category]) (Nat.le_of_ble_eq_true rfl) (ok_X12_oneTestB N d ot hot m)

theorem c_X12_oneTest (N : Nat) : ∀ (k e : Nat) (m : Mem), CM (e + 3 * k + 14) m_X12_oneTest SG SG [.ref 123] m (f_X12_oneTest N k m)
  | 0, _, _ => fun _ _ h => by cases h
  | k + 1, e, m => by
    have h := c_X12_oneTestB N (e + 3 * k) (f_X12_oneTest N k) (fun e' m => by
      have := c_X12_oneTest N k (e + e') m
      rwa [show e + e' + 3 * k + 14 = e + 3 * k + e' + 14 by omega] at this) m
    rwa [show e + 3 * k + 17 = e + 3 * (k + 1) + 14 by omega] at h
theorem hot10 (N d : Nat) (e : Nat) (m : Mem) : CM (d + 30 + e + 14) m_X12_oneTest SG SG [.ref 123] m (f_X12_oneTest N 10 m) := by
  have := c_X12_oneTest N 10 (d + e) m
  rwa [show d + e + 3 * 10 + 14 = d + 30 + e + 14 by omega] at this

def f_X12_aLine_J123 (N : Nat)     (m : Mem) : Ans :=
chk (inb (((4 : Int32) * (m 123 13)) + (2 : Int32)) 64) <|
bnd (mset m 128 (((4 : Int32) * (m 123 13)) + (2 : Int32)).toNatClampNeg (m 123 14)) fun m_139 =>
bd (f_X12_need N 159 m_139) fun r_144 m_144 =>
chk (isB r_144) (some (r_144, m_144))

def f_X12_aLine (N : Nat)  (m : Mem) : Ans :=
bd (f_X12_isIn N (m 123 18) 20 22 m) fun r_8 m_8 =>
if r_8 = 0 then (bd (f_X12_bad N 1 m_8) fun r_16 m_16 =>
chk (isB r_16) (some (r_16, m_16)))
else (if (m_8 123 13) = (16 : Int32) then (bd (f_X12_bad N 3 m_8) fun r_31 m_31 =>
chk (isB r_31) (some (r_31, m_31)))
else (bnd (mset m_8 123 24 0) fun m_37 =>
chk (inb (((4 : Int32) * (m_37 123 13)) + (3 : Int32)) 64) <|
bnd (mset m_37 128 (((4 : Int32) * (m_37 123 13)) + (3 : Int32)).toNatClampNeg (m_37 123 18)) fun m_56 =>
bd (f_X12_next0 N m_56) fun _ m_58 =>
chk (inb ((4 : Int32) * (m_58 123 13)) 64) <|
bnd (mset m_58 128 ((4 : Int32) * (m_58 123 13)).toNatClampNeg (m_58 123 14)) fun m_75 =>
bd (f_X12_sumUp N m_75) fun r_77 m_77 =>
if r_77 = 0 then (some (0, m_77))
else (chk (inb (((4 : Int32) * (m_77 123 13)) + (1 : Int32)) 64) <|
bnd (mset m_77 128 (((4 : Int32) * (m_77 123 13)) + (1 : Int32)).toNatClampNeg (m_77 123 14)) fun m_101 =>
if (m_101 123 18) = (3 : Int32) then (bd (f_X12_next0 N m_101) fun _ m_111 =>
bd (f_X12_any N (f_X12_oneTest N 10) m_111) fun r_115 m_115 =>
if r_115 = 0 then (some (0, m_115))
else (f_X12_aLine_J123 N m_115))
else (f_X12_aLine_J123 N m_101))))

set_option maxRecDepth 100000 in
set_option maxHeartbeats 4000000 in
theorem ok_X12_aLine_J123 (N d : Nat)      (m : Mem) : Ok none SG (d + 47) m_X12_aLine 123 [some (.ref 123)] [] SG m (f_X12_aLine_J123 N m) := by
  unfold f_X12_aLine_J123
  refine ok_aload_n 124 0 dX12_aLine_123 rfl rfl rfl ?_
  refine ok_getR 127 dX12_aLine_124 rfl rfl F_EncoresModel_22 sg_123 rfl (Nat.le_of_ble_eq_true rfl) rfl rfl ?_
  refine ok_iconst 128 4 dX12_aLine_127 rfl rfl ?_
  refine ok_aload_n 129 0 dX12_aLine_128 rfl rfl rfl ?_
  refine ok_getI 132 dX12_aLine_129 rfl rfl F_EncoresModel_224 sg_123 rfl (Nat.le_of_ble_eq_true rfl) rfl ?_
  refine ok_imul 133 dX12_aLine_132 rfl ?_
  refine ok_iconst 134 2 dX12_aLine_133 rfl rfl ?_
  refine ok_iadd 135 dX12_aLine_134 rfl ?_
  refine ok_aload_n 136 0 dX12_aLine_135 rfl rfl rfl ?_
  refine ok_getI 139 dX12_aLine_136 rfl rfl F_EncoresModel_189 sg_123 rfl (Nat.le_of_ble_eq_true rfl) rfl ?_
  refine ok_iast 140 dX12_aLine_139 rfl sg_128 ?_
  refine ok_bndM (fun m_139 => ?_)
  refine ok_aload_n 141 0 dX12_aLine_140 rfl rfl rfl ?_
  refine ok_sipush 144 159 dX12_aLine_141 rfl rfl ?_
  refine ok_callVi (np := 1) (M' := m_X12_need) (As := [.int 159]) (st := []) 147 dX12_aLine_144 rfl rfl km_X12_need ki_X12_need kv_X12_need ml_EncoresModel_218 (by decide) sg_123 rfl (Nat.le_of_ble_eq_true rfl) rfl rfl rfl (Nat.le_of_ble_eq_true rfl) (c_X12_need N (d + 37) 159 m_139) ⟨Nat.le_refl _, Nat.le_refl _⟩ (Or.inl rfl) rfl (fun r_144 m_144 _ => ?_)
  exact ok_zret dX12_aLine_147 rfl

set_option maxRecDepth 100000 in
set_option maxHeartbeats 4000000 in
theorem ok_X12_aLine (N d : Nat)   (m : Mem) : Ok none SG (d + 47) m_X12_aLine 0 [some (.ref 123)] [] SG m (f_X12_aLine N m) := by
  unfold f_X12_aLine
  refine ok_aload_n 1 0 dX12_aLine_0 rfl rfl rfl ?_
  refine ok_getI 4 dX12_aLine_1 rfl rfl F_EncoresModel_162 sg_123 rfl (Nat.le_of_ble_eq_true rfl) rfl ?_
  refine ok_bipush 6 20 dX12_aLine_4 rfl rfl ?_
  refine ok_bipush 8 22 dX12_aLine_6 rfl rfl ?_
  refine ok_callSi (np := 3) (M' := m_X12_isIn) (As := [.int (m 123 18), .int 20, .int 22]) (st := []) 11 dX12_aLine_8 rfl rfl km_X12_isIn ks_X12_isIn ml_EncoresModel_56 (by decide) rfl rfl (Nat.le_of_ble_eq_true rfl) (c_X12_isIn N (d + 46) (m 123 18) 20 22 m) ⟨Nat.le_refl _, Nat.le_refl _⟩ (Or.inl rfl) rfl (fun r_8 m_8 _ => ?_)
  refine ok_if_ne 20 14 dX12_aLine_11 (by decide) rfl (fun _ => ?_) (fun _ => ?_)
  · refine ok_aload_n 21 0 dX12_aLine_20 rfl rfl rfl ?_
    refine ok_getI 24 dX12_aLine_21 rfl rfl F_EncoresModel_224 sg_123 rfl (Nat.le_of_ble_eq_true rfl) rfl ?_
    refine ok_bipush 26 16 dX12_aLine_24 rfl rfl ?_
    refine ok_icmp_ne 35 29 dX12_aLine_26 (by decide) rfl (fun _ => ?_) (fun _ => ?_)
    · refine ok_aload_n 36 0 dX12_aLine_35 rfl rfl rfl ?_
      refine ok_iconst 37 0 dX12_aLine_36 rfl rfl ?_
      refine ok_putI 40 dX12_aLine_37 rfl rfl F_EncoresModel_192 sg_123 rfl (Nat.le_of_ble_eq_true rfl) rfl rfl pZ_12_24 rfl rfl ?_
      refine ok_bndM (fun m_37 => ?_)
      refine ok_aload_n 41 0 dX12_aLine_40 rfl rfl rfl ?_
      refine ok_getR 44 dX12_aLine_41 rfl rfl F_EncoresModel_22 sg_123 rfl (Nat.le_of_ble_eq_true rfl) rfl rfl ?_
      refine ok_iconst 45 4 dX12_aLine_44 rfl rfl ?_
      refine ok_aload_n 46 0 dX12_aLine_45 rfl rfl rfl ?_
      refine ok_getI 49 dX12_aLine_46 rfl rfl F_EncoresModel_224 sg_123 rfl (Nat.le_of_ble_eq_true rfl) rfl ?_
      refine ok_imul 50 dX12_aLine_49 rfl ?_
      refine ok_iconst 51 3 dX12_aLine_50 rfl rfl ?_
      refine ok_iadd 52 dX12_aLine_51 rfl ?_
      refine ok_aload_n 53 0 dX12_aLine_52 rfl rfl rfl ?_
      refine ok_getI 56 dX12_aLine_53 rfl rfl F_EncoresModel_162 sg_123 rfl (Nat.le_of_ble_eq_true rfl) rfl ?_
      refine ok_iast 57 dX12_aLine_56 rfl sg_128 ?_
      refine ok_bndM (fun m_56 => ?_)
      refine ok_aload_n 58 0 dX12_aLine_57 rfl rfl rfl ?_
      refine ok_callVv (np := 0) (M' := m_X12_next0) (As := []) (st := []) 61 dX12_aLine_58 rfl rfl km_X12_next0 ki_X12_next0 kv_X12_next0 ml_EncoresModel_186 (by decide) sg_123 rfl (Nat.le_of_ble_eq_true rfl) rfl rfl rfl (Nat.le_of_ble_eq_true rfl) (c_X12_next0 N (d + 38) m_56) ⟨Nat.le_refl _, Nat.le_refl _⟩ (Or.inl rfl) rfl (fun _ m_58 _ => ?_)
      refine ok_aload_n 62 0 dX12_aLine_61 rfl rfl rfl ?_
      refine ok_getR 65 dX12_aLine_62 rfl rfl F_EncoresModel_22 sg_123 rfl (Nat.le_of_ble_eq_true rfl) rfl rfl ?_
      refine ok_iconst 66 4 dX12_aLine_65 rfl rfl ?_
      refine ok_aload_n 67 0 dX12_aLine_66 rfl rfl rfl ?_
      refine ok_getI 70 dX12_aLine_67 rfl rfl F_EncoresModel_224 sg_123 rfl (Nat.le_of_ble_eq_true rfl) rfl ?_
      refine ok_imul 71 dX12_aLine_70 rfl ?_
      refine ok_aload_n 72 0 dX12_aLine_71 rfl rfl rfl ?_
      refine ok_getI 75 dX12_aLine_72 rfl rfl F_EncoresModel_189 sg_123 rfl (Nat.le_of_ble_eq_true rfl) rfl ?_
      refine ok_iast 76 dX12_aLine_75 rfl sg_128 ?_
      refine ok_bndM (fun m_75 => ?_)
      refine ok_aload_n 77 0 dX12_aLine_76 rfl rfl rfl ?_
      refine ok_callVi (np := 0) (M' := m_X12_sumUp) (As := []) (st := []) 80 dX12_aLine_77 rfl rfl km_X12_sumUp ki_X12_sumUp kv_X12_sumUp ml_EncoresModel_221 (by decide) sg_123 rfl (Nat.le_of_ble_eq_true rfl) rfl rfl rfl (Nat.le_of_ble_eq_true rfl) (c_X12_sumUp N (d + 35) m_75) ⟨Nat.le_refl _, Nat.le_refl _⟩ (Or.inl rfl) rfl (fun r_77 m_77 _ => ?_)
      refine ok_if_ne 85 83 dX12_aLine_80 (by decide) rfl (fun _ => ?_) (fun _ => ?_)
      · refine ok_aload_n 86 0 dX12_aLine_85 rfl rfl rfl ?_
        refine ok_getR 89 dX12_aLine_86 rfl rfl F_EncoresModel_22 sg_123 rfl (Nat.le_of_ble_eq_true rfl) rfl rfl ?_
        refine ok_iconst 90 4 dX12_aLine_89 rfl rfl ?_
        refine ok_aload_n 91 0 dX12_aLine_90 rfl rfl rfl ?_
        refine ok_getI 94 dX12_aLine_91 rfl rfl F_EncoresModel_224 sg_123 rfl (Nat.le_of_ble_eq_true rfl) rfl ?_
        refine ok_imul 95 dX12_aLine_94 rfl ?_
        refine ok_iconst 96 1 dX12_aLine_95 rfl rfl ?_
        refine ok_iadd 97 dX12_aLine_96 rfl ?_
        refine ok_aload_n 98 0 dX12_aLine_97 rfl rfl rfl ?_
        refine ok_getI 101 dX12_aLine_98 rfl rfl F_EncoresModel_189 sg_123 rfl (Nat.le_of_ble_eq_true rfl) rfl ?_
        refine ok_iast 102 dX12_aLine_101 rfl sg_128 ?_
        refine ok_bndM (fun m_101 => ?_)
        refine ok_aload_n 103 0 dX12_aLine_102 rfl rfl rfl ?_
        refine ok_getI 106 dX12_aLine_103 rfl rfl F_EncoresModel_162 sg_123 rfl (Nat.le_of_ble_eq_true rfl) rfl ?_
        refine ok_iconst 107 3 dX12_aLine_106 rfl rfl ?_
        refine ok_icmp_ne 123 110 dX12_aLine_107 (by decide) rfl (fun _ => ?_) (fun _ => ?_)
        · exact ok_less [some (.ref 123)] (And.intro rfl (trivial)) (ok_X12_aLine_J123 N d    m_101)
        · refine ok_aload_n 111 0 dX12_aLine_110 rfl rfl rfl ?_
          refine ok_callVv (np := 0) (M' := m_X12_next0) (As := []) (st := []) 114 dX12_aLine_111 rfl rfl km_X12_next0 ki_X12_next0 kv_X12_next0 ml_EncoresModel_186 (by decide) sg_123 rfl (Nat.le_of_ble_eq_true rfl) rfl rfl rfl (Nat.le_of_ble_eq_true rfl) (c_X12_next0 N (d + 38) m_101) ⟨Nat.le_refl _, Nat.le_refl _⟩ (Or.inl rfl) rfl (fun _ m_111 _ => ?_)
          refine ok_aload_n 115 0 dX12_aLine_114 rfl rfl rfl ?_
          refine ok_callVi (np := 0) (M' := m_X12_any) (As := []) (st := []) 118 dX12_aLine_115 rfl rfl km_X12_any ki_X12_any kv_X12_any ml_EncoresModel_215 (by decide) sg_123 rfl (Nat.le_of_ble_eq_true rfl) rfl rfl rfl (Nat.le_of_ble_eq_true rfl) (c_X12_any N (d + 0 + 30) (f_X12_oneTest N 10) (hot10 N (d + 0)) m_111) ⟨Nat.le_refl _, Nat.le_refl _⟩ (Or.inl rfl) rfl (fun r_115 m_115 _ => ?_)
          refine ok_if_ne 123 121 dX12_aLine_118 (by decide) rfl (fun _ => ?_) (fun _ => ?_)
          · exact ok_less [some (.ref 123)] (And.intro rfl (trivial)) (ok_X12_aLine_J123 N d    m_115)
          · refine ok_iconst 122 0 dX12_aLine_121 rfl rfl ?_
            exact ok_zretc dX12_aLine_122 rfl rfl
      · refine ok_iconst 84 0 dX12_aLine_83 rfl rfl ?_
        exact ok_zretc dX12_aLine_84 rfl rfl
    · refine ok_aload_n 30 0 dX12_aLine_29 rfl rfl rfl ?_
      refine ok_iconst 31 3 dX12_aLine_30 rfl rfl ?_
      refine ok_callVi (np := 1) (M' := m_X12_bad) (As := [.int 3]) (st := []) 34 dX12_aLine_31 rfl rfl km_X12_bad ki_X12_bad kv_X12_bad ml_EncoresModel_183 (by decide) sg_123 rfl (Nat.le_of_ble_eq_true rfl) rfl rfl rfl (Nat.le_of_ble_eq_true rfl) (c_X12_bad N (d + 46) 3 m_8) ⟨Nat.le_refl _, Nat.le_refl _⟩ (Or.inl rfl) rfl (fun r_31 m_31 _ => ?_)
      exact ok_zret dX12_aLine_34 rfl
  · refine ok_aload_n 15 0 dX12_aLine_14 rfl rfl rfl ?_
    refine ok_iconst 16 1 dX12_aLine_15 rfl rfl ?_
    refine ok_callVi (np := 1) (M' := m_X12_bad) (As := [.int 1]) (st := []) 19 dX12_aLine_16 rfl rfl km_X12_bad ki_X12_bad kv_X12_bad ml_EncoresModel_183 (by decide) sg_123 rfl (Nat.le_of_ble_eq_true rfl) rfl rfl rfl (Nat.le_of_ble_eq_true rfl) (c_X12_bad N (d + 46) 1 m_8) ⟨Nat.le_refl _, Nat.le_refl _⟩ (Or.inl rfl) rfl (fun r_16 m_16 _ => ?_)
    exact ok_zret dX12_aLine_19 rfl

theorem c_X12_aLine (N d : Nat)   (m : Mem) : CM (d + 47) m_X12_aLine SG SG [.ref 123] m (f_X12_aLine N m) :=
  CM.ofOk km_X12_aLine ⟨Nat.le_refl _, Nat.le_refl _⟩ (by simp [Value.category]) (Nat.le_of_ble_eq_true rfl) (ok_X12_aLine N d  m)

def f_X12_readsLaw_L12 (N : Nat)    (X : Int32 → Mem → Ans) (s1_12 : Int32) (m : Mem) : Ans :=
if s1_12 = 0 then (chk (isB s1_12) (some (s1_12, m)))
else (if (m 123 18) = 0 then (chk (isB s1_12) (some (s1_12, m)))
else (bd (f_X12_aLine N m) fun r_24 m_24 =>
if r_24 = 0 then (bnd (mset m_24 123 13 ((m_24 123 13) + (0 : Int32))) fun m_43 =>
X r_24 m_43)
else (bnd (mset m_24 123 13 ((m_24 123 13) + (1 : Int32))) fun m_43 =>
X r_24 m_43)))

def f_X12_readsLaw (N : Nat)  (m : Mem) : Ans :=
bnd (mset m 123 13 0) fun m_2 =>
bnd (mset m_2 123 14 0) fun m_7 =>
it1 (f_X12_readsLaw_L12 N ) N 1 m_7

set_option maxRecDepth 100000 in
set_option maxHeartbeats 4000000 in
theorem ok_X12_readsLaw_L12 (N d : Nat)     : ∀ (n : Nat) (s1_12 : Int32) (m : Mem), Ok none SG (d + 48) m_X12_readsLaw 12 [some (.ref 123), some (.int s1_12)] [] SG m (it1 (f_X12_readsLaw_L12 N) n s1_12 m) :=
  ok_it1 (fun s1_12 => [some (.ref 123), some (.int s1_12)]) (fun X hX s1_12 m => by
    try unfold f_X12_readsLaw_L12
    refine ok_iload_n 13 1 dX12_readsLaw_12 rfl rfl rfl ?_
    refine ok_if_eq 49 16 dX12_readsLaw_13 (by decide) rfl (fun _ => ?_) (fun _ => ?_)
    · refine ok_iload_n 50 1 dX12_readsLaw_49 rfl rfl rfl ?_
      exact ok_zret dX12_readsLaw_50 rfl
    · refine ok_aload_n 17 0 dX12_readsLaw_16 rfl rfl rfl ?_
      refine ok_getI 20 dX12_readsLaw_17 rfl rfl F_EncoresModel_162 sg_123 rfl (Nat.le_of_ble_eq_true rfl) rfl ?_
      refine ok_if_eq 49 23 dX12_readsLaw_20 (by decide) rfl (fun _ => ?_) (fun _ => ?_)
      · refine ok_iload_n 50 1 dX12_readsLaw_49 rfl rfl rfl ?_
        exact ok_zret dX12_readsLaw_50 rfl
      · refine ok_aload_n 24 0 dX12_readsLaw_23 rfl rfl rfl ?_
        refine ok_callVi (np := 0) (M' := m_X12_aLine) (As := []) (st := []) 27 dX12_readsLaw_24 rfl rfl km_X12_aLine ki_X12_aLine kv_X12_aLine ml_EncoresModel_227 (by decide) sg_123 rfl (Nat.le_of_ble_eq_true rfl) rfl rfl rfl (Nat.le_of_ble_eq_true rfl) (c_X12_aLine N (d + 0) m) ⟨Nat.le_refl _, Nat.le_refl _⟩ (Or.inl rfl) rfl (fun r_24 m_24 _ => ?_)
        refine ok_istore_n 28 1 [some (.ref 123), some (.int r_24)] dX12_readsLaw_27 rfl rfl (by decide) rfl ?_
        refine ok_aload_n 29 0 dX12_readsLaw_28 rfl rfl rfl ?_
        refine ok_dup 30 dX12_readsLaw_29 rfl rfl ?_
        refine ok_getI 33 dX12_readsLaw_30 rfl rfl F_EncoresModel_224 sg_123 rfl (Nat.le_of_ble_eq_true rfl) rfl ?_
        refine ok_iload_n 34 1 dX12_readsLaw_33 rfl rfl rfl ?_
        refine ok_if_eq 41 37 dX12_readsLaw_34 (by decide) rfl (fun _ => ?_) (fun _ => ?_)
        · refine ok_iconst 42 0 dX12_readsLaw_41 rfl rfl ?_
          refine ok_iadd 43 dX12_readsLaw_42 rfl ?_
          refine ok_putI 46 dX12_readsLaw_43 rfl rfl F_EncoresModel_224 sg_123 rfl (Nat.le_of_ble_eq_true rfl) rfl rfl pZ_12_13 rfl rfl ?_
          refine ok_bndM (fun m_43 => ?_)
          refine ok_goto 12 dX12_readsLaw_46 (by decide) ?_
          exact ok_less [some (.ref 123), some (.int r_24)] (And.intro rfl (And.intro rfl (trivial))) (hX r_24 m_43)
        · refine ok_iconst 38 1 dX12_readsLaw_37 rfl rfl ?_
          refine ok_goto 42 dX12_readsLaw_38 (by decide) ?_
          refine ok_iadd 43 dX12_readsLaw_42 rfl ?_
          refine ok_putI 46 dX12_readsLaw_43 rfl rfl F_EncoresModel_224 sg_123 rfl (Nat.le_of_ble_eq_true rfl) rfl rfl pZ_12_13 rfl rfl ?_
          refine ok_bndM (fun m_43 => ?_)
          refine ok_goto 12 dX12_readsLaw_46 (by decide) ?_
          exact ok_less [some (.ref 123), some (.int r_24)] (And.intro rfl (And.intro rfl (trivial))) (hX r_24 m_43))

set_option maxRecDepth 100000 in
set_option maxHeartbeats 4000000 in
theorem ok_X12_readsLaw (N d : Nat)   (m : Mem) : Ok none SG (d + 48) m_X12_readsLaw 0 [some (.ref 123), none] [] SG m (f_X12_readsLaw N m) := by
  unfold f_X12_readsLaw
  refine ok_aload_n 1 0 dX12_readsLaw_0 rfl rfl rfl ?_
  refine ok_iconst 2 0 dX12_readsLaw_1 rfl rfl ?_
  refine ok_putI 5 dX12_readsLaw_2 rfl rfl F_EncoresModel_224 sg_123 rfl (Nat.le_of_ble_eq_true rfl) rfl rfl pZ_12_13 rfl rfl ?_
  refine ok_bndM (fun m_2 => ?_)
  refine ok_aload_n 6 0 dX12_readsLaw_5 rfl rfl rfl ?_
  refine ok_iconst 7 0 dX12_readsLaw_6 rfl rfl ?_
  refine ok_putI 10 dX12_readsLaw_7 rfl rfl F_EncoresModel_189 sg_123 rfl (Nat.le_of_ble_eq_true rfl) rfl rfl pZ_12_14 rfl rfl ?_
  refine ok_bndM (fun m_7 => ?_)
  refine ok_iconst 11 1 dX12_readsLaw_10 rfl rfl ?_
  refine ok_istore_n 12 1 [some (.ref 123), some (.int 1)] dX12_readsLaw_11 rfl rfl (by decide) rfl ?_
  refine ok_less [some (.ref 123), some (.int 1)] (And.intro rfl (And.intro rfl (trivial))) ?_
  exact ok_X12_readsLaw_L12 N d     N 1 m_7

theorem c_X12_readsLaw (N d : Nat)   (m : Mem) : CM (d + 48) m_X12_readsLaw SG SG [.ref 123] m (f_X12_readsLaw N m) :=
  CM.ofOk km_X12_readsLaw ⟨Nat.le_refl _, Nat.le_refl _⟩ (by simp [Value.category]) (Nat.le_of_ble_eq_true rfl) (ok_X12_readsLaw N d  m)

def f_X12_number (N : Nat) (a1 : Int32) (a2 : Int32) (a3 : Int32) (m : Mem) : Ans :=
if (m 123 18) = (2 : Int32) then (bd (f_X12_isIn N (m 123 20) a2 a3 m) fun r_20 m_20 =>
if r_20 = 0 then (bd (f_X12_bad N 2 m_20) fun r_28 m_28 =>
chk (isB r_28) (some (r_28, m_28)))
else (chk (inb a1 48) <|
bnd (mset m_20 130 a1.toNatClampNeg (m_20 123 20)) fun m_41 =>
bd (f_X12_next0 N m_41) fun _ m_43 =>
some (1, m_43)))
else (bd (f_X12_bad N 1 m) fun r_10 m_10 =>
chk (isB r_10) (some (r_10, m_10)))

set_option maxRecDepth 100000 in
set_option maxHeartbeats 4000000 in
theorem ok_X12_number (N d : Nat) (a1 : Int32) (a2 : Int32) (a3 : Int32)  (m : Mem) : Ok none SG (d + 9) m_X12_number 0 [some (.ref 123), some (.int a1), some (.int a2), some (.int a3)] [] SG m (f_X12_number N a1 a2 a3 m) := by
  unfold f_X12_number
  refine ok_aload_n 1 0 dX12_number_0 rfl rfl rfl ?_
  refine ok_getI 4 dX12_number_1 rfl rfl F_EncoresModel_162 sg_123 rfl (Nat.le_of_ble_eq_true rfl) rfl ?_
  refine ok_iconst 5 2 dX12_number_4 rfl rfl ?_
  refine ok_icmp_eq 14 8 dX12_number_5 (by decide) rfl (fun _ => ?_) (fun _ => ?_)
  · refine ok_aload_n 15 0 dX12_number_14 rfl rfl rfl ?_
    refine ok_getI 18 dX12_number_15 rfl rfl F_EncoresModel_174 sg_123 rfl (Nat.le_of_ble_eq_true rfl) rfl ?_
    refine ok_iload_n 19 2 dX12_number_18 rfl rfl rfl ?_
    refine ok_iload_n 20 3 dX12_number_19 rfl rfl rfl ?_
    refine ok_callSi (np := 3) (M' := m_X12_isIn) (As := [.int (m 123 20), .int a2, .int a3]) (st := []) 23 dX12_number_20 rfl rfl km_X12_isIn ks_X12_isIn ml_EncoresModel_56 (by decide) rfl rfl (Nat.le_of_ble_eq_true rfl) (c_X12_isIn N (d + 8) (m 123 20) a2 a3 m) ⟨Nat.le_refl _, Nat.le_refl _⟩ (Or.inl rfl) rfl (fun r_20 m_20 _ => ?_)
    refine ok_if_ne 32 26 dX12_number_23 (by decide) rfl (fun _ => ?_) (fun _ => ?_)
    · refine ok_aload_n 33 0 dX12_number_32 rfl rfl rfl ?_
      refine ok_getR 36 dX12_number_33 rfl rfl F_EncoresModel_28 sg_123 rfl (Nat.le_of_ble_eq_true rfl) rfl rfl ?_
      refine ok_iload_n 37 1 dX12_number_36 rfl rfl rfl ?_
      refine ok_aload_n 38 0 dX12_number_37 rfl rfl rfl ?_
      refine ok_getI 41 dX12_number_38 rfl rfl F_EncoresModel_174 sg_123 rfl (Nat.le_of_ble_eq_true rfl) rfl ?_
      refine ok_iast 42 dX12_number_41 rfl sg_130 ?_
      refine ok_bndM (fun m_41 => ?_)
      refine ok_aload_n 43 0 dX12_number_42 rfl rfl rfl ?_
      refine ok_callVv (np := 0) (M' := m_X12_next0) (As := []) (st := []) 46 dX12_number_43 rfl rfl km_X12_next0 ki_X12_next0 kv_X12_next0 ml_EncoresModel_186 (by decide) sg_123 rfl (Nat.le_of_ble_eq_true rfl) rfl rfl rfl (Nat.le_of_ble_eq_true rfl) (c_X12_next0 N (d + 0) m_41) ⟨Nat.le_refl _, Nat.le_refl _⟩ (Or.inl rfl) rfl (fun _ m_43 _ => ?_)
      refine ok_iconst 47 1 dX12_number_46 rfl rfl ?_
      exact ok_zretc dX12_number_47 rfl rfl
    · refine ok_aload_n 27 0 dX12_number_26 rfl rfl rfl ?_
      refine ok_iconst 28 2 dX12_number_27 rfl rfl ?_
      refine ok_callVi (np := 1) (M' := m_X12_bad) (As := [.int 2]) (st := []) 31 dX12_number_28 rfl rfl km_X12_bad ki_X12_bad kv_X12_bad ml_EncoresModel_183 (by decide) sg_123 rfl (Nat.le_of_ble_eq_true rfl) rfl rfl rfl (Nat.le_of_ble_eq_true rfl) (c_X12_bad N (d + 8) 2 m_20) ⟨Nat.le_refl _, Nat.le_refl _⟩ (Or.inl rfl) rfl (fun r_28 m_28 _ => ?_)
      exact ok_zret dX12_number_31 rfl
  · refine ok_aload_n 9 0 dX12_number_8 rfl rfl rfl ?_
    refine ok_iconst 10 1 dX12_number_9 rfl rfl ?_
    refine ok_callVi (np := 1) (M' := m_X12_bad) (As := [.int 1]) (st := []) 13 dX12_number_10 rfl rfl km_X12_bad ki_X12_bad kv_X12_bad ml_EncoresModel_183 (by decide) sg_123 rfl (Nat.le_of_ble_eq_true rfl) rfl rfl rfl (Nat.le_of_ble_eq_true rfl) (c_X12_bad N (d + 8) 1 m) ⟨Nat.le_refl _, Nat.le_refl _⟩ (Or.inl rfl) rfl (fun r_10 m_10 _ => ?_)
    exact ok_zret dX12_number_13 rfl

theorem c_X12_number (N d : Nat) (a1 : Int32) (a2 : Int32) (a3 : Int32)  (m : Mem) : CM (d + 9) m_X12_number SG SG [.ref 123, .int a1, .int a2, .int a3] m (f_X12_number N a1 a2 a3 m) :=
  CM.ofOk km_X12_number ⟨Nat.le_refl _, Nat.le_refl _⟩ (by simp [Value.category]) (Nat.le_of_ble_eq_true rfl) (ok_X12_number N d a1 a2 a3 m)

def f_X12_told (N : Nat) (a1 : Int32) (a2 : Int32) (a3 : Int32) (a4 : Int32) (m : Mem) : Ans :=
bd (f_X12_need N a2 m) fun r_2 m_2 =>
if r_2 = 0 then (some (0, m_2))
else (bd (f_X12_number N a1 a3 a4 m_2) fun r_13 m_13 =>
if r_13 = 0 then (some (0, m_13))
else (some (1, m_13)))

set_option maxRecDepth 100000 in
set_option maxHeartbeats 4000000 in
theorem ok_X12_told (N d : Nat) (a1 : Int32) (a2 : Int32) (a3 : Int32) (a4 : Int32)  (m : Mem) : Ok none SG (d + 10) m_X12_told 0 [some (.ref 123), some (.int a1), some (.int a2), some (.int a3), some (.int a4)] [] SG m (f_X12_told N a1 a2 a3 a4 m) := by
  unfold f_X12_told
  refine ok_aload_n 1 0 dX12_told_0 rfl rfl rfl ?_
  refine ok_iload_n 2 2 dX12_told_1 rfl rfl rfl ?_
  refine ok_callVi (np := 1) (M' := m_X12_need) (As := [.int a2]) (st := []) 5 dX12_told_2 rfl rfl km_X12_need ki_X12_need kv_X12_need ml_EncoresModel_218 (by decide) sg_123 rfl (Nat.le_of_ble_eq_true rfl) rfl rfl rfl (Nat.le_of_ble_eq_true rfl) (c_X12_need N (d + 0) a2 m) ⟨Nat.le_refl _, Nat.le_refl _⟩ (Or.inl rfl) rfl (fun r_2 m_2 _ => ?_)
  refine ok_if_eq 23 8 dX12_told_5 (by decide) rfl (fun _ => ?_) (fun _ => ?_)
  · refine ok_iconst 24 0 dX12_told_23 rfl rfl ?_
    exact ok_zretc dX12_told_24 rfl rfl
  · refine ok_aload_n 9 0 dX12_told_8 rfl rfl rfl ?_
    refine ok_iload_n 10 1 dX12_told_9 rfl rfl rfl ?_
    refine ok_iload_n 11 3 dX12_told_10 rfl rfl rfl ?_
    refine ok_iload 13 4 dX12_told_11 rfl rfl ?_
    refine ok_callVi (np := 3) (M' := m_X12_number) (As := [.int a1, .int a3, .int a4]) (st := []) 16 dX12_told_13 rfl rfl km_X12_number ki_X12_number kv_X12_number ml_EncoresModel_230 (by decide) sg_123 rfl (Nat.le_of_ble_eq_true rfl) rfl rfl rfl (Nat.le_of_ble_eq_true rfl) (c_X12_number N (d + 0) a1 a3 a4 m_2) ⟨Nat.le_refl _, Nat.le_refl _⟩ (Or.inl rfl) rfl (fun r_13 m_13 _ => ?_)
    refine ok_if_eq 23 19 dX12_told_16 (by decide) rfl (fun _ => ?_) (fun _ => ?_)
    · refine ok_iconst 24 0 dX12_told_23 rfl rfl ?_
      exact ok_zretc dX12_told_24 rfl rfl
    · refine ok_iconst 20 1 dX12_told_19 rfl rfl ?_
      refine ok_goto 24 dX12_told_20 (by decide) ?_
      exact ok_zretc dX12_told_24 rfl rfl

theorem c_X12_told (N d : Nat) (a1 : Int32) (a2 : Int32) (a3 : Int32) (a4 : Int32)  (m : Mem) : CM (d + 10) m_X12_told SG SG [.ref 123, .int a1, .int a2, .int a3, .int a4] m (f_X12_told N a1 a2 a3 a4 m) :=
  CM.ofOk km_X12_told ⟨Nat.le_refl _, Nat.le_refl _⟩ (by simp [Value.category]) (Nat.le_of_ble_eq_true rfl) (ok_X12_told N d a1 a2 a3 a4 m)

def f_X12_aRule (N : Nat)  (m : Mem) : Ans :=
bnd ((3 : Int32) * (m 123 15)) fun a1_6 =>
bnd (m 123 18) fun a2_11 =>
chk (inb a1_6 48) <|
bnd (mset m 130 a1_6.toNatClampNeg a2_11) fun m_18 =>
chk (inb (a1_6 + (2 : Int32)) 48) <|
bnd (mset m_18 130 (a1_6 + (2 : Int32)).toNatClampNeg 0) fun m_27 =>
bd (f_X12_next0 N m_27) fun _ m_29 =>
swt (Int32.toInt a2_11 - (7)) [(bd (f_X12_number N (a1_6 + (1 : Int32)) 1 99 m_29) fun r_67 m_67 =>
if r_67 = 0 then (some (0, m_67))
else (bd (f_X12_told N (a1_6 + (2 : Int32)) 11 0 9999 m_67) fun r_83 m_83 =>
if r_83 = 0 then (some (0, m_83))
else (some (1, m_83)))),
(bd (f_X12_number N (a1_6 + (1 : Int32)) 0 20 m_29) fun r_102 m_102 =>
chk (isB r_102) (some (r_102, m_102))),
(bd (f_X12_number N (a1_6 + (1 : Int32)) 0 ((m_29 124 37) - (1 : Int32)) m_29) fun r_120 m_120 =>
chk (isB r_120) (some (r_120, m_120)))] (bd (f_X12_number N (a1_6 + (1 : Int32)) 1 9999 m_29) fun r_132 m_132 =>
chk (isB r_132) (some (r_132, m_132)))

set_option maxRecDepth 100000 in
set_option maxHeartbeats 4000000 in
theorem ok_X12_aRule (N d : Nat)   (m : Mem) : Ok none SG (d + 11) m_X12_aRule 0 [some (.ref 123), none, none] [] SG m (f_X12_aRule N m) := by
  unfold f_X12_aRule
  refine ok_iconst 1 3 dX12_aRule_0 rfl rfl ?_
  refine ok_aload_n 2 0 dX12_aRule_1 rfl rfl rfl ?_
  refine ok_getI 5 dX12_aRule_2 rfl rfl F_EncoresModel_233 sg_123 rfl (Nat.le_of_ble_eq_true rfl) rfl ?_
  refine ok_imul 6 dX12_aRule_5 rfl ?_
  refine ok_bndI (fun a1_6 => ?_)
  refine ok_istore_n 7 1 [some (.ref 123), some (.int a1_6), none] dX12_aRule_6 rfl rfl (by decide) rfl ?_
  refine ok_aload_n 8 0 dX12_aRule_7 rfl rfl rfl ?_
  refine ok_getI 11 dX12_aRule_8 rfl rfl F_EncoresModel_162 sg_123 rfl (Nat.le_of_ble_eq_true rfl) rfl ?_
  refine ok_bndI (fun a2_11 => ?_)
  refine ok_istore_n 12 2 [some (.ref 123), some (.int a1_6), some (.int a2_11)] dX12_aRule_11 rfl rfl (by decide) rfl ?_
  refine ok_aload_n 13 0 dX12_aRule_12 rfl rfl rfl ?_
  refine ok_getR 16 dX12_aRule_13 rfl rfl F_EncoresModel_28 sg_123 rfl (Nat.le_of_ble_eq_true rfl) rfl rfl ?_
  refine ok_iload_n 17 1 dX12_aRule_16 rfl rfl rfl ?_
  refine ok_iload_n 18 2 dX12_aRule_17 rfl rfl rfl ?_
  refine ok_iast 19 dX12_aRule_18 rfl sg_130 ?_
  refine ok_bndM (fun m_18 => ?_)
  refine ok_aload_n 20 0 dX12_aRule_19 rfl rfl rfl ?_
  refine ok_getR 23 dX12_aRule_20 rfl rfl F_EncoresModel_28 sg_123 rfl (Nat.le_of_ble_eq_true rfl) rfl rfl ?_
  refine ok_iload_n 24 1 dX12_aRule_23 rfl rfl rfl ?_
  refine ok_iconst 25 2 dX12_aRule_24 rfl rfl ?_
  refine ok_iadd 26 dX12_aRule_25 rfl ?_
  refine ok_iconst 27 0 dX12_aRule_26 rfl rfl ?_
  refine ok_iast 28 dX12_aRule_27 rfl sg_130 ?_
  refine ok_bndM (fun m_27 => ?_)
  refine ok_aload_n 29 0 dX12_aRule_28 rfl rfl rfl ?_
  refine ok_callVv (np := 0) (M' := m_X12_next0) (As := []) (st := []) 32 dX12_aRule_29 rfl rfl km_X12_next0 ki_X12_next0 kv_X12_next0 ml_EncoresModel_186 (by decide) sg_123 rfl (Nat.le_of_ble_eq_true rfl) rfl rfl rfl (Nat.le_of_ble_eq_true rfl) (c_X12_next0 N (d + 2) m_27) ⟨Nat.le_refl _, Nat.le_refl _⟩ (Or.inl rfl) rfl (fun _ m_29 _ => ?_)
  refine ok_iload_n 33 2 dX12_aRule_32 rfl rfl rfl ?_
  refine ok_tsw 124 [60, 95, 106] dX12_aRule_33 (by decide) (by decide) (by decide) rfl ?_ ?_
  · refine And.intro ?_ (And.intro ?_ (And.intro ?_ (trivial)))
    · refine ok_aload_n 61 0 dX12_aRule_60 rfl rfl rfl ?_
      refine ok_iload_n 62 1 dX12_aRule_61 rfl rfl rfl ?_
      refine ok_iconst 63 1 dX12_aRule_62 rfl rfl ?_
      refine ok_iadd 64 dX12_aRule_63 rfl ?_
      refine ok_iconst 65 1 dX12_aRule_64 rfl rfl ?_
      refine ok_bipush 67 99 dX12_aRule_65 rfl rfl ?_
      refine ok_callVi (np := 3) (M' := m_X12_number) (As := [.int (a1_6 + (1 : Int32)), .int 1, .int 99]) (st := []) 70 dX12_aRule_67 rfl rfl km_X12_number ki_X12_number kv_X12_number ml_EncoresModel_230 (by decide) sg_123 rfl (Nat.le_of_ble_eq_true rfl) rfl rfl rfl (Nat.le_of_ble_eq_true rfl) (c_X12_number N (d + 1) (a1_6 + (1 : Int32)) 1 99 m_29) ⟨Nat.le_refl _, Nat.le_refl _⟩ (Or.inl rfl) rfl (fun r_67 m_67 _ => ?_)
      refine ok_if_eq 93 73 dX12_aRule_70 (by decide) rfl (fun _ => ?_) (fun _ => ?_)
      · refine ok_iconst 94 0 dX12_aRule_93 rfl rfl ?_
        exact ok_zretc dX12_aRule_94 rfl rfl
      · refine ok_aload_n 74 0 dX12_aRule_73 rfl rfl rfl ?_
        refine ok_iload_n 75 1 dX12_aRule_74 rfl rfl rfl ?_
        refine ok_iconst 76 2 dX12_aRule_75 rfl rfl ?_
        refine ok_iadd 77 dX12_aRule_76 rfl ?_
        refine ok_bipush 79 11 dX12_aRule_77 rfl rfl ?_
        refine ok_iconst 80 0 dX12_aRule_79 rfl rfl ?_
        refine ok_sipush 83 9999 dX12_aRule_80 rfl rfl ?_
        refine ok_callVi (np := 4) (M' := m_X12_told) (As := [.int (a1_6 + (2 : Int32)), .int 11, .int 0, .int 9999]) (st := []) 86 dX12_aRule_83 rfl rfl km_X12_told ki_X12_told kv_X12_told ml_EncoresModel_236 (by decide) sg_123 rfl (Nat.le_of_ble_eq_true rfl) rfl rfl rfl (Nat.le_of_ble_eq_true rfl) (c_X12_told N (d + 0) (a1_6 + (2 : Int32)) 11 0 9999 m_67) ⟨Nat.le_refl _, Nat.le_refl _⟩ (Or.inl rfl) rfl (fun r_83 m_83 _ => ?_)
        refine ok_if_eq 93 89 dX12_aRule_86 (by decide) rfl (fun _ => ?_) (fun _ => ?_)
        · refine ok_iconst 94 0 dX12_aRule_93 rfl rfl ?_
          exact ok_zretc dX12_aRule_94 rfl rfl
        · refine ok_iconst 90 1 dX12_aRule_89 rfl rfl ?_
          refine ok_goto 94 dX12_aRule_90 (by decide) ?_
          exact ok_zretc dX12_aRule_94 rfl rfl
    · refine ok_aload_n 96 0 dX12_aRule_95 rfl rfl rfl ?_
      refine ok_iload_n 97 1 dX12_aRule_96 rfl rfl rfl ?_
      refine ok_iconst 98 1 dX12_aRule_97 rfl rfl ?_
      refine ok_iadd 99 dX12_aRule_98 rfl ?_
      refine ok_iconst 100 0 dX12_aRule_99 rfl rfl ?_
      refine ok_bipush 102 20 dX12_aRule_100 rfl rfl ?_
      refine ok_callVi (np := 3) (M' := m_X12_number) (As := [.int (a1_6 + (1 : Int32)), .int 0, .int 20]) (st := []) 105 dX12_aRule_102 rfl rfl km_X12_number ki_X12_number kv_X12_number ml_EncoresModel_230 (by decide) sg_123 rfl (Nat.le_of_ble_eq_true rfl) rfl rfl rfl (Nat.le_of_ble_eq_true rfl) (c_X12_number N (d + 1) (a1_6 + (1 : Int32)) 0 20 m_29) ⟨Nat.le_refl _, Nat.le_refl _⟩ (Or.inl rfl) rfl (fun r_102 m_102 _ => ?_)
      exact ok_zret dX12_aRule_105 rfl
    · refine ok_aload_n 107 0 dX12_aRule_106 rfl rfl rfl ?_
      refine ok_iload_n 108 1 dX12_aRule_107 rfl rfl rfl ?_
      refine ok_iconst 109 1 dX12_aRule_108 rfl rfl ?_
      refine ok_iadd 110 dX12_aRule_109 rfl ?_
      refine ok_iconst 111 0 dX12_aRule_110 rfl rfl ?_
      refine ok_aload_n 112 0 dX12_aRule_111 rfl rfl rfl ?_
      refine ok_getR 115 dX12_aRule_112 rfl rfl F_EncoresModel_7 sg_123 rfl (Nat.le_of_ble_eq_true rfl) rfl rfl ?_
      refine ok_bipush 117 37 dX12_aRule_115 rfl rfl ?_
      refine ok_ialdc 118 37 dX12_aRule_117 rfl sg_124 (by decide) (by decide) ?_
      refine ok_iconst 119 1 dX12_aRule_118 rfl rfl ?_
      refine ok_isub 120 dX12_aRule_119 rfl ?_
      refine ok_callVi (np := 3) (M' := m_X12_number) (As := [.int (a1_6 + (1 : Int32)), .int 0, .int ((m_29 124 37) - (1 : Int32))]) (st := []) 123 dX12_aRule_120 rfl rfl km_X12_number ki_X12_number kv_X12_number ml_EncoresModel_230 (by decide) sg_123 rfl (Nat.le_of_ble_eq_true rfl) rfl rfl rfl (Nat.le_of_ble_eq_true rfl) (c_X12_number N (d + 1) (a1_6 + (1 : Int32)) 0 ((m_29 124 37) - (1 : Int32)) m_29) ⟨Nat.le_refl _, Nat.le_refl _⟩ (Or.inl rfl) rfl (fun r_120 m_120 _ => ?_)
      exact ok_zret dX12_aRule_123 rfl
  · refine ok_aload_n 125 0 dX12_aRule_124 rfl rfl rfl ?_
    refine ok_iload_n 126 1 dX12_aRule_125 rfl rfl rfl ?_
    refine ok_iconst 127 1 dX12_aRule_126 rfl rfl ?_
    refine ok_iadd 128 dX12_aRule_127 rfl ?_
    refine ok_iconst 129 1 dX12_aRule_128 rfl rfl ?_
    refine ok_sipush 132 9999 dX12_aRule_129 rfl rfl ?_
    refine ok_callVi (np := 3) (M' := m_X12_number) (As := [.int (a1_6 + (1 : Int32)), .int 1, .int 9999]) (st := []) 135 dX12_aRule_132 rfl rfl km_X12_number ki_X12_number kv_X12_number ml_EncoresModel_230 (by decide) sg_123 rfl (Nat.le_of_ble_eq_true rfl) rfl rfl rfl (Nat.le_of_ble_eq_true rfl) (c_X12_number N (d + 1) (a1_6 + (1 : Int32)) 1 9999 m_29) ⟨Nat.le_refl _, Nat.le_refl _⟩ (Or.inl rfl) rfl (fun r_132 m_132 _ => ?_)
    exact ok_zret dX12_aRule_135 rfl

theorem c_X12_aRule (N d : Nat)   (m : Mem) : CM (d + 11) m_X12_aRule SG SG [.ref 123] m (f_X12_aRule N m) :=
  CM.ofOk km_X12_aRule ⟨Nat.le_refl _, Nat.le_refl _⟩ (by simp [Value.category]) (Nat.le_of_ble_eq_true rfl) (ok_X12_aRule N d  m)

def f_X12_aPiece (N : Nat)  (m : Mem) : Ans :=
bd (f_X12_told N ((2 : Int32) * (m 123 15)) 12 0 9999 m) fun r_13 m_13 =>
if r_13 = 0 then (some (0, m_13))
else (bd (f_X12_told N (((2 : Int32) * (m_13 123 15)) + (1 : Int32)) 13 0 ((m_13 124 38) - (1 : Int32)) m_13) fun r_40 m_40 =>
if r_40 = 0 then (some (0, m_40))
else (some (1, m_40)))

set_option maxRecDepth 100000 in
set_option maxHeartbeats 4000000 in
theorem ok_X12_aPiece (N d : Nat)   (m : Mem) : Ok none SG (d + 11) m_X12_aPiece 0 [some (.ref 123)] [] SG m (f_X12_aPiece N m) := by
  unfold f_X12_aPiece
  refine ok_aload_n 1 0 dX12_aPiece_0 rfl rfl rfl ?_
  refine ok_iconst 2 2 dX12_aPiece_1 rfl rfl ?_
  refine ok_aload_n 3 0 dX12_aPiece_2 rfl rfl rfl ?_
  refine ok_getI 6 dX12_aPiece_3 rfl rfl F_EncoresModel_233 sg_123 rfl (Nat.le_of_ble_eq_true rfl) rfl ?_
  refine ok_imul 7 dX12_aPiece_6 rfl ?_
  refine ok_bipush 9 12 dX12_aPiece_7 rfl rfl ?_
  refine ok_iconst 10 0 dX12_aPiece_9 rfl rfl ?_
  refine ok_sipush 13 9999 dX12_aPiece_10 rfl rfl ?_
  refine ok_callVi (np := 4) (M' := m_X12_told) (As := [.int ((2 : Int32) * (m 123 15)), .int 12, .int 0, .int 9999]) (st := []) 16 dX12_aPiece_13 rfl rfl km_X12_told ki_X12_told kv_X12_told ml_EncoresModel_236 (by decide) sg_123 rfl (Nat.le_of_ble_eq_true rfl) rfl rfl rfl (Nat.le_of_ble_eq_true rfl) (c_X12_told N (d + 0) ((2 : Int32) * (m 123 15)) 12 0 9999 m) ⟨Nat.le_refl _, Nat.le_refl _⟩ (Or.inl rfl) rfl (fun r_13 m_13 _ => ?_)
  refine ok_if_eq 50 19 dX12_aPiece_16 (by decide) rfl (fun _ => ?_) (fun _ => ?_)
  · refine ok_iconst 51 0 dX12_aPiece_50 rfl rfl ?_
    exact ok_zretc dX12_aPiece_51 rfl rfl
  · refine ok_aload_n 20 0 dX12_aPiece_19 rfl rfl rfl ?_
    refine ok_iconst 21 2 dX12_aPiece_20 rfl rfl ?_
    refine ok_aload_n 22 0 dX12_aPiece_21 rfl rfl rfl ?_
    refine ok_getI 25 dX12_aPiece_22 rfl rfl F_EncoresModel_233 sg_123 rfl (Nat.le_of_ble_eq_true rfl) rfl ?_
    refine ok_imul 26 dX12_aPiece_25 rfl ?_
    refine ok_iconst 27 1 dX12_aPiece_26 rfl rfl ?_
    refine ok_iadd 28 dX12_aPiece_27 rfl ?_
    refine ok_bipush 30 13 dX12_aPiece_28 rfl rfl ?_
    refine ok_iconst 31 0 dX12_aPiece_30 rfl rfl ?_
    refine ok_aload_n 32 0 dX12_aPiece_31 rfl rfl rfl ?_
    refine ok_getR 35 dX12_aPiece_32 rfl rfl F_EncoresModel_7 sg_123 rfl (Nat.le_of_ble_eq_true rfl) rfl rfl ?_
    refine ok_bipush 37 38 dX12_aPiece_35 rfl rfl ?_
    refine ok_ialdc 38 38 dX12_aPiece_37 rfl sg_124 (by decide) (by decide) ?_
    refine ok_iconst 39 1 dX12_aPiece_38 rfl rfl ?_
    refine ok_isub 40 dX12_aPiece_39 rfl ?_
    refine ok_callVi (np := 4) (M' := m_X12_told) (As := [.int (((2 : Int32) * (m_13 123 15)) + (1 : Int32)), .int 13, .int 0, .int ((m_13 124 38) - (1 : Int32))]) (st := []) 43 dX12_aPiece_40 rfl rfl km_X12_told ki_X12_told kv_X12_told ml_EncoresModel_236 (by decide) sg_123 rfl (Nat.le_of_ble_eq_true rfl) rfl rfl rfl (Nat.le_of_ble_eq_true rfl) (c_X12_told N (d + 0) (((2 : Int32) * (m_13 123 15)) + (1 : Int32)) 13 0 ((m_13 124 38) - (1 : Int32)) m_13) ⟨Nat.le_refl _, Nat.le_refl _⟩ (Or.inl rfl) rfl (fun r_40 m_40 _ => ?_)
    refine ok_if_eq 50 46 dX12_aPiece_43 (by decide) rfl (fun _ => ?_) (fun _ => ?_)
    · refine ok_iconst 51 0 dX12_aPiece_50 rfl rfl ?_
      exact ok_zretc dX12_aPiece_51 rfl rfl
    · refine ok_iconst 47 1 dX12_aPiece_46 rfl rfl ?_
      refine ok_goto 51 dX12_aPiece_47 (by decide) ?_
      exact ok_zretc dX12_aPiece_51 rfl rfl

theorem c_X12_aPiece (N d : Nat)   (m : Mem) : CM (d + 11) m_X12_aPiece SG SG [.ref 123] m (f_X12_aPiece N m) :=
  CM.ofOk km_X12_aPiece ⟨Nat.le_refl _, Nat.le_refl _⟩ (by simp [Value.category]) (Nat.le_of_ble_eq_true rfl) (ok_X12_aPiece N d  m)

def f_X12_aSeat_J65 (N : Nat)    (s1_65 : Int32) (m : Mem) : Ans :=
bd (f_X12_number N (s1_65 + (1 : Int32)) 0 ((m 124 37) - (1 : Int32)) m) fun r_79 m_79 =>
chk (isB r_79) (some (r_79, m_79))

def f_X12_aSeat (N : Nat)  (m : Mem) : Ans :=
bnd ((2 : Int32) * (m 123 15)) fun a1_6 =>
bd (f_X12_told N a1_6 14 0 ((m 124 37) - (1 : Int32)) m) fun r_21 m_21 =>
if r_21 = 0 then (some (0, m_21))
else (bd (f_X12_need N 15 m_21) fun r_30 m_30 =>
if r_30 = 0 then (some (0, m_30))
else (if (m_30 123 18) = (2 : Int32) then (chk (inb a1_6 48) <|
if (m_30 123 20) = (m_30 130 a1_6.toNatClampNeg) then (bd (f_X12_bad N 2 m_30) fun r_61 m_61 =>
chk (isB r_61) (some (r_61, m_61)))
else (f_X12_aSeat_J65 N a1_6 m_30))
else (f_X12_aSeat_J65 N a1_6 m_30)))

set_option maxRecDepth 100000 in
set_option maxHeartbeats 4000000 in
theorem ok_X12_aSeat_J65 (N d : Nat)     (s1_65 : Int32) (m : Mem) : Ok none SG (d + 11) m_X12_aSeat 65 [some (.ref 123), some (.int s1_65)] [] SG m (f_X12_aSeat_J65 N s1_65 m) := by
  unfold f_X12_aSeat_J65
  refine ok_aload_n 66 0 dX12_aSeat_65 rfl rfl rfl ?_
  refine ok_iload_n 67 1 dX12_aSeat_66 rfl rfl rfl ?_
  refine ok_iconst 68 1 dX12_aSeat_67 rfl rfl ?_
  refine ok_iadd 69 dX12_aSeat_68 rfl ?_
  refine ok_iconst 70 0 dX12_aSeat_69 rfl rfl ?_
  refine ok_aload_n 71 0 dX12_aSeat_70 rfl rfl rfl ?_
  refine ok_getR 74 dX12_aSeat_71 rfl rfl F_EncoresModel_7 sg_123 rfl (Nat.le_of_ble_eq_true rfl) rfl rfl ?_
  refine ok_bipush 76 37 dX12_aSeat_74 rfl rfl ?_
  refine ok_ialdc 77 37 dX12_aSeat_76 rfl sg_124 (by decide) (by decide) ?_
  refine ok_iconst 78 1 dX12_aSeat_77 rfl rfl ?_
  refine ok_isub 79 dX12_aSeat_78 rfl ?_
  refine ok_callVi (np := 3) (M' := m_X12_number) (As := [.int (s1_65 + (1 : Int32)), .int 0, .int ((m 124 37) - (1 : Int32))]) (st := []) 82 dX12_aSeat_79 rfl rfl km_X12_number ki_X12_number kv_X12_number ml_EncoresModel_230 (by decide) sg_123 rfl (Nat.le_of_ble_eq_true rfl) rfl rfl rfl (Nat.le_of_ble_eq_true rfl) (c_X12_number N (d + 1) (s1_65 + (1 : Int32)) 0 ((m 124 37) - (1 : Int32)) m) ⟨Nat.le_refl _, Nat.le_refl _⟩ (Or.inl rfl) rfl (fun r_79 m_79 _ => ?_)
  exact ok_zret dX12_aSeat_82 rfl

set_option maxRecDepth 100000 in
set_option maxHeartbeats 4000000 in
theorem ok_X12_aSeat (N d : Nat)   (m : Mem) : Ok none SG (d + 11) m_X12_aSeat 0 [some (.ref 123), none] [] SG m (f_X12_aSeat N m) := by
  unfold f_X12_aSeat
  refine ok_iconst 1 2 dX12_aSeat_0 rfl rfl ?_
  refine ok_aload_n 2 0 dX12_aSeat_1 rfl rfl rfl ?_
  refine ok_getI 5 dX12_aSeat_2 rfl rfl F_EncoresModel_233 sg_123 rfl (Nat.le_of_ble_eq_true rfl) rfl ?_
  refine ok_imul 6 dX12_aSeat_5 rfl ?_
  refine ok_bndI (fun a1_6 => ?_)
  refine ok_istore_n 7 1 [some (.ref 123), some (.int a1_6)] dX12_aSeat_6 rfl rfl (by decide) rfl ?_
  refine ok_aload_n 8 0 dX12_aSeat_7 rfl rfl rfl ?_
  refine ok_iload_n 9 1 dX12_aSeat_8 rfl rfl rfl ?_
  refine ok_bipush 11 14 dX12_aSeat_9 rfl rfl ?_
  refine ok_iconst 12 0 dX12_aSeat_11 rfl rfl ?_
  refine ok_aload_n 13 0 dX12_aSeat_12 rfl rfl rfl ?_
  refine ok_getR 16 dX12_aSeat_13 rfl rfl F_EncoresModel_7 sg_123 rfl (Nat.le_of_ble_eq_true rfl) rfl rfl ?_
  refine ok_bipush 18 37 dX12_aSeat_16 rfl rfl ?_
  refine ok_ialdc 19 37 dX12_aSeat_18 rfl sg_124 (by decide) (by decide) ?_
  refine ok_iconst 20 1 dX12_aSeat_19 rfl rfl ?_
  refine ok_isub 21 dX12_aSeat_20 rfl ?_
  refine ok_callVi (np := 4) (M' := m_X12_told) (As := [.int a1_6, .int 14, .int 0, .int ((m 124 37) - (1 : Int32))]) (st := []) 24 dX12_aSeat_21 rfl rfl km_X12_told ki_X12_told kv_X12_told ml_EncoresModel_236 (by decide) sg_123 rfl (Nat.le_of_ble_eq_true rfl) rfl rfl rfl (Nat.le_of_ble_eq_true rfl) (c_X12_told N (d + 0) a1_6 14 0 ((m 124 37) - (1 : Int32)) m) ⟨Nat.le_refl _, Nat.le_refl _⟩ (Or.inl rfl) rfl (fun r_21 m_21 _ => ?_)
  refine ok_if_eq 36 27 dX12_aSeat_24 (by decide) rfl (fun _ => ?_) (fun _ => ?_)
  · refine ok_iconst 37 0 dX12_aSeat_36 rfl rfl ?_
    exact ok_zretc dX12_aSeat_37 rfl rfl
  · refine ok_aload_n 28 0 dX12_aSeat_27 rfl rfl rfl ?_
    refine ok_bipush 30 15 dX12_aSeat_28 rfl rfl ?_
    refine ok_callVi (np := 1) (M' := m_X12_need) (As := [.int 15]) (st := []) 33 dX12_aSeat_30 rfl rfl km_X12_need ki_X12_need kv_X12_need ml_EncoresModel_218 (by decide) sg_123 rfl (Nat.le_of_ble_eq_true rfl) rfl rfl rfl (Nat.le_of_ble_eq_true rfl) (c_X12_need N (d + 1) 15 m_21) ⟨Nat.le_refl _, Nat.le_refl _⟩ (Or.inl rfl) rfl (fun r_30 m_30 _ => ?_)
    refine ok_if_ne 38 36 dX12_aSeat_33 (by decide) rfl (fun _ => ?_) (fun _ => ?_)
    · refine ok_aload_n 39 0 dX12_aSeat_38 rfl rfl rfl ?_
      refine ok_getI 42 dX12_aSeat_39 rfl rfl F_EncoresModel_162 sg_123 rfl (Nat.le_of_ble_eq_true rfl) rfl ?_
      refine ok_iconst 43 2 dX12_aSeat_42 rfl rfl ?_
      refine ok_icmp_ne 65 46 dX12_aSeat_43 (by decide) rfl (fun _ => ?_) (fun _ => ?_)
      · exact ok_less [some (.ref 123), some (.int a1_6)] (And.intro rfl (And.intro rfl (trivial))) (ok_X12_aSeat_J65 N d    a1_6 m_30)
      · refine ok_aload_n 47 0 dX12_aSeat_46 rfl rfl rfl ?_
        refine ok_getI 50 dX12_aSeat_47 rfl rfl F_EncoresModel_174 sg_123 rfl (Nat.le_of_ble_eq_true rfl) rfl ?_
        refine ok_aload_n 51 0 dX12_aSeat_50 rfl rfl rfl ?_
        refine ok_getR 54 dX12_aSeat_51 rfl rfl F_EncoresModel_28 sg_123 rfl (Nat.le_of_ble_eq_true rfl) rfl rfl ?_
        refine ok_iload_n 55 1 dX12_aSeat_54 rfl rfl rfl ?_
        refine ok_iald 56 dX12_aSeat_55 rfl sg_130 ?_
        refine ok_icmp_ne 65 59 dX12_aSeat_56 (by decide) rfl (fun _ => ?_) (fun _ => ?_)
        · exact ok_less [some (.ref 123), some (.int a1_6)] (And.intro rfl (And.intro rfl (trivial))) (ok_X12_aSeat_J65 N d    a1_6 m_30)
        · refine ok_aload_n 60 0 dX12_aSeat_59 rfl rfl rfl ?_
          refine ok_iconst 61 2 dX12_aSeat_60 rfl rfl ?_
          refine ok_callVi (np := 1) (M' := m_X12_bad) (As := [.int 2]) (st := []) 64 dX12_aSeat_61 rfl rfl km_X12_bad ki_X12_bad kv_X12_bad ml_EncoresModel_183 (by decide) sg_123 rfl (Nat.le_of_ble_eq_true rfl) rfl rfl rfl (Nat.le_of_ble_eq_true rfl) (c_X12_bad N (d + 10) 2 m_30) ⟨Nat.le_refl _, Nat.le_refl _⟩ (Or.inl rfl) rfl (fun r_61 m_61 _ => ?_)
          exact ok_zret dX12_aSeat_64 rfl
    · refine ok_iconst 37 0 dX12_aSeat_36 rfl rfl ?_
      exact ok_zretc dX12_aSeat_37 rfl rfl

theorem c_X12_aSeat (N d : Nat)   (m : Mem) : CM (d + 11) m_X12_aSeat SG SG [.ref 123] m (f_X12_aSeat N m) :=
  CM.ofOk km_X12_aSeat ⟨Nat.le_refl _, Nat.le_refl _⟩ (by simp [Value.category]) (Nat.le_of_ble_eq_true rfl) (ok_X12_aSeat N d  m)

def f_X12_aRow (N : Nat)  (m : Mem) : Ans :=
if (m 123 12) = (1 : Int32) then (bd (f_X12_aRule N m) fun r_9 m_9 =>
if r_9 = 0 then (some (0, m_9))
else (bd (f_X12_need N 159 m_9) fun r_47 m_47 =>
if r_47 = 0 then (some (0, m_47))
else (some (1, m_47))))
else (if (m 123 12) = (2 : Int32) then (bd (f_X12_aPiece N m) fun r_27 m_27 =>
if r_27 = 0 then (some (0, m_27))
else (bd (f_X12_need N 159 m_27) fun r_47 m_47 =>
if r_47 = 0 then (some (0, m_47))
else (some (1, m_47))))
else (bd (f_X12_aSeat N m) fun r_37 m_37 =>
if r_37 = 0 then (some (0, m_37))
else (bd (f_X12_need N 159 m_37) fun r_47 m_47 =>
if r_47 = 0 then (some (0, m_47))
else (some (1, m_47)))))

set_option maxRecDepth 100000 in
set_option maxHeartbeats 4000000 in
theorem ok_X12_aRow (N d : Nat)   (m : Mem) : Ok none SG (d + 12) m_X12_aRow 0 [some (.ref 123)] [] SG m (f_X12_aRow N m) := by
  unfold f_X12_aRow
  refine ok_aload_n 1 0 dX12_aRow_0 rfl rfl rfl ?_
  refine ok_getI 4 dX12_aRow_1 rfl rfl F_EncoresModel_146 sg_123 rfl (Nat.le_of_ble_eq_true rfl) rfl ?_
  refine ok_iconst 5 1 dX12_aRow_4 rfl rfl ?_
  refine ok_icmp_ne 18 8 dX12_aRow_5 (by decide) rfl (fun _ => ?_) (fun _ => ?_)
  · refine ok_aload_n 19 0 dX12_aRow_18 rfl rfl rfl ?_
    refine ok_getI 22 dX12_aRow_19 rfl rfl F_EncoresModel_146 sg_123 rfl (Nat.le_of_ble_eq_true rfl) rfl ?_
    refine ok_iconst 23 2 dX12_aRow_22 rfl rfl ?_
    refine ok_icmp_ne 36 26 dX12_aRow_23 (by decide) rfl (fun _ => ?_) (fun _ => ?_)
    · refine ok_aload_n 37 0 dX12_aRow_36 rfl rfl rfl ?_
      refine ok_callVi (np := 0) (M' := m_X12_aSeat) (As := []) (st := []) 40 dX12_aRow_37 rfl rfl km_X12_aSeat ki_X12_aSeat kv_X12_aSeat ml_EncoresModel_246 (by decide) sg_123 rfl (Nat.le_of_ble_eq_true rfl) rfl rfl rfl (Nat.le_of_ble_eq_true rfl) (c_X12_aSeat N (d + 0) m) ⟨Nat.le_refl _, Nat.le_refl _⟩ (Or.inl rfl) rfl (fun r_37 m_37 _ => ?_)
      refine ok_if_eq 57 43 dX12_aRow_40 (by decide) rfl (fun _ => ?_) (fun _ => ?_)
      · refine ok_iconst 58 0 dX12_aRow_57 rfl rfl ?_
        exact ok_zretc dX12_aRow_58 rfl rfl
      · refine ok_aload_n 44 0 dX12_aRow_43 rfl rfl rfl ?_
        refine ok_sipush 47 159 dX12_aRow_44 rfl rfl ?_
        refine ok_callVi (np := 1) (M' := m_X12_need) (As := [.int 159]) (st := []) 50 dX12_aRow_47 rfl rfl km_X12_need ki_X12_need kv_X12_need ml_EncoresModel_218 (by decide) sg_123 rfl (Nat.le_of_ble_eq_true rfl) rfl rfl rfl (Nat.le_of_ble_eq_true rfl) (c_X12_need N (d + 2) 159 m_37) ⟨Nat.le_refl _, Nat.le_refl _⟩ (Or.inl rfl) rfl (fun r_47 m_47 _ => ?_)
        refine ok_if_eq 57 53 dX12_aRow_50 (by decide) rfl (fun _ => ?_) (fun _ => ?_)
        · refine ok_iconst 58 0 dX12_aRow_57 rfl rfl ?_
          exact ok_zretc dX12_aRow_58 rfl rfl
        · refine ok_iconst 54 1 dX12_aRow_53 rfl rfl ?_
          refine ok_goto 58 dX12_aRow_54 (by decide) ?_
          exact ok_zretc dX12_aRow_58 rfl rfl
    · refine ok_aload_n 27 0 dX12_aRow_26 rfl rfl rfl ?_
      refine ok_callVi (np := 0) (M' := m_X12_aPiece) (As := []) (st := []) 30 dX12_aRow_27 rfl rfl km_X12_aPiece ki_X12_aPiece kv_X12_aPiece ml_EncoresModel_243 (by decide) sg_123 rfl (Nat.le_of_ble_eq_true rfl) rfl rfl rfl (Nat.le_of_ble_eq_true rfl) (c_X12_aPiece N (d + 0) m) ⟨Nat.le_refl _, Nat.le_refl _⟩ (Or.inl rfl) rfl (fun r_27 m_27 _ => ?_)
      refine ok_if_eq 57 33 dX12_aRow_30 (by decide) rfl (fun _ => ?_) (fun _ => ?_)
      · refine ok_iconst 58 0 dX12_aRow_57 rfl rfl ?_
        exact ok_zretc dX12_aRow_58 rfl rfl
      · refine ok_goto 43 dX12_aRow_33 (by decide) ?_
        refine ok_aload_n 44 0 dX12_aRow_43 rfl rfl rfl ?_
        refine ok_sipush 47 159 dX12_aRow_44 rfl rfl ?_
        refine ok_callVi (np := 1) (M' := m_X12_need) (As := [.int 159]) (st := []) 50 dX12_aRow_47 rfl rfl km_X12_need ki_X12_need kv_X12_need ml_EncoresModel_218 (by decide) sg_123 rfl (Nat.le_of_ble_eq_true rfl) rfl rfl rfl (Nat.le_of_ble_eq_true rfl) (c_X12_need N (d + 2) 159 m_27) ⟨Nat.le_refl _, Nat.le_refl _⟩ (Or.inl rfl) rfl (fun r_47 m_47 _ => ?_)
        refine ok_if_eq 57 53 dX12_aRow_50 (by decide) rfl (fun _ => ?_) (fun _ => ?_)
        · refine ok_iconst 58 0 dX12_aRow_57 rfl rfl ?_
          exact ok_zretc dX12_aRow_58 rfl rfl
        · refine ok_iconst 54 1 dX12_aRow_53 rfl rfl ?_
          refine ok_goto 58 dX12_aRow_54 (by decide) ?_
          exact ok_zretc dX12_aRow_58 rfl rfl
  · refine ok_aload_n 9 0 dX12_aRow_8 rfl rfl rfl ?_
    refine ok_callVi (np := 0) (M' := m_X12_aRule) (As := []) (st := []) 12 dX12_aRow_9 rfl rfl km_X12_aRule ki_X12_aRule kv_X12_aRule ml_EncoresModel_240 (by decide) sg_123 rfl (Nat.le_of_ble_eq_true rfl) rfl rfl rfl (Nat.le_of_ble_eq_true rfl) (c_X12_aRule N (d + 0) m) ⟨Nat.le_refl _, Nat.le_refl _⟩ (Or.inl rfl) rfl (fun r_9 m_9 _ => ?_)
    refine ok_if_eq 57 15 dX12_aRow_12 (by decide) rfl (fun _ => ?_) (fun _ => ?_)
    · refine ok_iconst 58 0 dX12_aRow_57 rfl rfl ?_
      exact ok_zretc dX12_aRow_58 rfl rfl
    · refine ok_goto 43 dX12_aRow_15 (by decide) ?_
      refine ok_aload_n 44 0 dX12_aRow_43 rfl rfl rfl ?_
      refine ok_sipush 47 159 dX12_aRow_44 rfl rfl ?_
      refine ok_callVi (np := 1) (M' := m_X12_need) (As := [.int 159]) (st := []) 50 dX12_aRow_47 rfl rfl km_X12_need ki_X12_need kv_X12_need ml_EncoresModel_218 (by decide) sg_123 rfl (Nat.le_of_ble_eq_true rfl) rfl rfl rfl (Nat.le_of_ble_eq_true rfl) (c_X12_need N (d + 2) 159 m_9) ⟨Nat.le_refl _, Nat.le_refl _⟩ (Or.inl rfl) rfl (fun r_47 m_47 _ => ?_)
      refine ok_if_eq 57 53 dX12_aRow_50 (by decide) rfl (fun _ => ?_) (fun _ => ?_)
      · refine ok_iconst 58 0 dX12_aRow_57 rfl rfl ?_
        exact ok_zretc dX12_aRow_58 rfl rfl
      · refine ok_iconst 54 1 dX12_aRow_53 rfl rfl ?_
        refine ok_goto 58 dX12_aRow_54 (by decide) ?_
        exact ok_zretc dX12_aRow_58 rfl rfl

theorem c_X12_aRow (N d : Nat)   (m : Mem) : CM (d + 12) m_X12_aRow SG SG [.ref 123] m (f_X12_aRow N m) :=
  CM.ofOk km_X12_aRow ⟨Nat.le_refl _, Nat.le_refl _⟩ (by simp [Value.category]) (Nat.le_of_ble_eq_true rfl) (ok_X12_aRow N d  m)

def f_X12_begins (N : Nat)  (m : Mem) : Ans :=
if (m 123 12) = (1 : Int32) then (bd (f_X12_isIn N (m 123 18) 7 10 m) fun r_16 m_16 =>
chk (isB r_16) (some (r_16, m_16)))
else (if (m 123 12) = (2 : Int32) then (if (m 123 18) = (12 : Int32) then (some (1, m))
else (some (0, m)))
else (if (m 123 18) = (14 : Int32) then (some (1, m))
else (some (0, m))))

set_option maxRecDepth 100000 in
set_option maxHeartbeats 4000000 in
theorem ok_X12_begins (N d : Nat)   (m : Mem) : Ok none SG (d + 1) m_X12_begins 0 [some (.ref 123)] [] SG m (f_X12_begins N m) := by
  unfold f_X12_begins
  refine ok_aload_n 1 0 dX12_begins_0 rfl rfl rfl ?_
  refine ok_getI 4 dX12_begins_1 rfl rfl F_EncoresModel_146 sg_123 rfl (Nat.le_of_ble_eq_true rfl) rfl ?_
  refine ok_iconst 5 1 dX12_begins_4 rfl rfl ?_
  refine ok_icmp_ne 22 8 dX12_begins_5 (by decide) rfl (fun _ => ?_) (fun _ => ?_)
  · refine ok_aload_n 23 0 dX12_begins_22 rfl rfl rfl ?_
    refine ok_getI 26 dX12_begins_23 rfl rfl F_EncoresModel_162 sg_123 rfl (Nat.le_of_ble_eq_true rfl) rfl ?_
    refine ok_aload_n 27 0 dX12_begins_26 rfl rfl rfl ?_
    refine ok_getI 30 dX12_begins_27 rfl rfl F_EncoresModel_146 sg_123 rfl (Nat.le_of_ble_eq_true rfl) rfl ?_
    refine ok_iconst 31 2 dX12_begins_30 rfl rfl ?_
    refine ok_icmp_ne 39 34 dX12_begins_31 (by decide) rfl (fun _ => ?_) (fun _ => ?_)
    · refine ok_bipush 41 14 dX12_begins_39 rfl rfl ?_
      refine ok_icmp_ne 48 44 dX12_begins_41 (by decide) rfl (fun _ => ?_) (fun _ => ?_)
      · refine ok_iconst 49 0 dX12_begins_48 rfl rfl ?_
        exact ok_zretc dX12_begins_49 rfl rfl
      · refine ok_iconst 45 1 dX12_begins_44 rfl rfl ?_
        refine ok_goto 49 dX12_begins_45 (by decide) ?_
        exact ok_zretc dX12_begins_49 rfl rfl
    · refine ok_bipush 36 12 dX12_begins_34 rfl rfl ?_
      refine ok_goto 41 dX12_begins_36 (by decide) ?_
      refine ok_icmp_ne 48 44 dX12_begins_41 (by decide) rfl (fun _ => ?_) (fun _ => ?_)
      · refine ok_iconst 49 0 dX12_begins_48 rfl rfl ?_
        exact ok_zretc dX12_begins_49 rfl rfl
      · refine ok_iconst 45 1 dX12_begins_44 rfl rfl ?_
        refine ok_goto 49 dX12_begins_45 (by decide) ?_
        exact ok_zretc dX12_begins_49 rfl rfl
  · refine ok_aload_n 9 0 dX12_begins_8 rfl rfl rfl ?_
    refine ok_getI 12 dX12_begins_9 rfl rfl F_EncoresModel_162 sg_123 rfl (Nat.le_of_ble_eq_true rfl) rfl ?_
    refine ok_bipush 14 7 dX12_begins_12 rfl rfl ?_
    refine ok_bipush 16 10 dX12_begins_14 rfl rfl ?_
    refine ok_callSi (np := 3) (M' := m_X12_isIn) (As := [.int (m 123 18), .int 7, .int 10]) (st := []) 19 dX12_begins_16 rfl rfl km_X12_isIn ks_X12_isIn ml_EncoresModel_56 (by decide) rfl rfl (Nat.le_of_ble_eq_true rfl) (c_X12_isIn N (d + 0) (m 123 18) 7 10 m) ⟨Nat.le_refl _, Nat.le_refl _⟩ (Or.inl rfl) rfl (fun r_16 m_16 _ => ?_)
    refine ok_goto 49 dX12_begins_19 (by decide) ?_
    exact ok_zret dX12_begins_49 rfl

theorem c_X12_begins (N d : Nat)   (m : Mem) : CM (d + 1) m_X12_begins SG SG [.ref 123] m (f_X12_begins N m) :=
  CM.ofOk km_X12_begins ⟨Nat.le_refl _, Nat.le_refl _⟩ (by simp [Value.category]) (Nat.le_of_ble_eq_true rfl) (ok_X12_begins N d  m)

def f_X12_readsRows_L7 (N : Nat)    (X : Int32 → Mem → Ans) (s1_7 : Int32) (m : Mem) : Ans :=
if s1_7 = 0 then (chk (isB s1_7) (some (s1_7, m)))
else (if (m 123 18) = 0 then (chk (isB s1_7) (some (s1_7, m)))
else (bd (f_X12_begins N m) fun r_19 m_19 =>
if r_19 = 0 then (bd (f_X12_bad N 1 m_19) fun r_27 m_27 =>
chk (isB r_27) (some (r_27, m_27)))
else (if (m_19 123 15) = (16 : Int32) then (bd (f_X12_bad N 3 m_19) fun r_42 m_42 =>
chk (isB r_42) (some (r_42, m_42)))
else (bd (f_X12_aRow N m_19) fun r_47 m_47 =>
if r_47 = 0 then (bnd (mset m_47 123 15 ((m_47 123 15) + (0 : Int32))) fun m_66 =>
X r_47 m_66)
else (bnd (mset m_47 123 15 ((m_47 123 15) + (1 : Int32))) fun m_66 =>
X r_47 m_66)))))

def f_X12_readsRows (N : Nat)  (m : Mem) : Ans :=
bnd (mset m 123 15 0) fun m_2 =>
it1 (f_X12_readsRows_L7 N ) N 1 m_2

set_option maxRecDepth 100000 in
set_option maxHeartbeats 4000000 in
theorem ok_X12_readsRows_L7 (N d : Nat)     : ∀ (n : Nat) (s1_7 : Int32) (m : Mem), Ok none SG (d + 13) m_X12_readsRows 7 [some (.ref 123), some (.int s1_7)] [] SG m (it1 (f_X12_readsRows_L7 N) n s1_7 m) :=
  ok_it1 (fun s1_7 => [some (.ref 123), some (.int s1_7)]) (fun X hX s1_7 m => by
    try unfold f_X12_readsRows_L7
    refine ok_iload_n 8 1 dX12_readsRows_7 rfl rfl rfl ?_
    refine ok_if_eq 72 11 dX12_readsRows_8 (by decide) rfl (fun _ => ?_) (fun _ => ?_)
    · refine ok_iload_n 73 1 dX12_readsRows_72 rfl rfl rfl ?_
      exact ok_zret dX12_readsRows_73 rfl
    · refine ok_aload_n 12 0 dX12_readsRows_11 rfl rfl rfl ?_
      refine ok_getI 15 dX12_readsRows_12 rfl rfl F_EncoresModel_162 sg_123 rfl (Nat.le_of_ble_eq_true rfl) rfl ?_
      refine ok_if_eq 72 18 dX12_readsRows_15 (by decide) rfl (fun _ => ?_) (fun _ => ?_)
      · refine ok_iload_n 73 1 dX12_readsRows_72 rfl rfl rfl ?_
        exact ok_zret dX12_readsRows_73 rfl
      · refine ok_aload_n 19 0 dX12_readsRows_18 rfl rfl rfl ?_
        refine ok_callVi (np := 0) (M' := m_X12_begins) (As := []) (st := []) 22 dX12_readsRows_19 rfl rfl km_X12_begins ki_X12_begins kv_X12_begins ml_EncoresModel_249 (by decide) sg_123 rfl (Nat.le_of_ble_eq_true rfl) rfl rfl rfl (Nat.le_of_ble_eq_true rfl) (c_X12_begins N (d + 11) m) ⟨Nat.le_refl _, Nat.le_refl _⟩ (Or.inl rfl) rfl (fun r_19 m_19 _ => ?_)
        refine ok_if_ne 31 25 dX12_readsRows_22 (by decide) rfl (fun _ => ?_) (fun _ => ?_)
        · refine ok_aload_n 32 0 dX12_readsRows_31 rfl rfl rfl ?_
          refine ok_getI 35 dX12_readsRows_32 rfl rfl F_EncoresModel_233 sg_123 rfl (Nat.le_of_ble_eq_true rfl) rfl ?_
          refine ok_bipush 37 16 dX12_readsRows_35 rfl rfl ?_
          refine ok_icmp_ne 46 40 dX12_readsRows_37 (by decide) rfl (fun _ => ?_) (fun _ => ?_)
          · refine ok_aload_n 47 0 dX12_readsRows_46 rfl rfl rfl ?_
            refine ok_callVi (np := 0) (M' := m_X12_aRow) (As := []) (st := []) 50 dX12_readsRows_47 rfl rfl km_X12_aRow ki_X12_aRow kv_X12_aRow ml_EncoresModel_252 (by decide) sg_123 rfl (Nat.le_of_ble_eq_true rfl) rfl rfl rfl (Nat.le_of_ble_eq_true rfl) (c_X12_aRow N (d + 0) m_19) ⟨Nat.le_refl _, Nat.le_refl _⟩ (Or.inl rfl) rfl (fun r_47 m_47 _ => ?_)
            refine ok_istore_n 51 1 [some (.ref 123), some (.int r_47)] dX12_readsRows_50 rfl rfl (by decide) rfl ?_
            refine ok_aload_n 52 0 dX12_readsRows_51 rfl rfl rfl ?_
            refine ok_dup 53 dX12_readsRows_52 rfl rfl ?_
            refine ok_getI 56 dX12_readsRows_53 rfl rfl F_EncoresModel_233 sg_123 rfl (Nat.le_of_ble_eq_true rfl) rfl ?_
            refine ok_iload_n 57 1 dX12_readsRows_56 rfl rfl rfl ?_
            refine ok_if_eq 64 60 dX12_readsRows_57 (by decide) rfl (fun _ => ?_) (fun _ => ?_)
            · refine ok_iconst 65 0 dX12_readsRows_64 rfl rfl ?_
              refine ok_iadd 66 dX12_readsRows_65 rfl ?_
              refine ok_putI 69 dX12_readsRows_66 rfl rfl F_EncoresModel_233 sg_123 rfl (Nat.le_of_ble_eq_true rfl) rfl rfl pZ_12_15 rfl rfl ?_
              refine ok_bndM (fun m_66 => ?_)
              refine ok_goto 7 dX12_readsRows_69 (by decide) ?_
              exact ok_less [some (.ref 123), some (.int r_47)] (And.intro rfl (And.intro rfl (trivial))) (hX r_47 m_66)
            · refine ok_iconst 61 1 dX12_readsRows_60 rfl rfl ?_
              refine ok_goto 65 dX12_readsRows_61 (by decide) ?_
              refine ok_iadd 66 dX12_readsRows_65 rfl ?_
              refine ok_putI 69 dX12_readsRows_66 rfl rfl F_EncoresModel_233 sg_123 rfl (Nat.le_of_ble_eq_true rfl) rfl rfl pZ_12_15 rfl rfl ?_
              refine ok_bndM (fun m_66 => ?_)
              refine ok_goto 7 dX12_readsRows_69 (by decide) ?_
              exact ok_less [some (.ref 123), some (.int r_47)] (And.intro rfl (And.intro rfl (trivial))) (hX r_47 m_66)
          · refine ok_aload_n 41 0 dX12_readsRows_40 rfl rfl rfl ?_
            refine ok_iconst 42 3 dX12_readsRows_41 rfl rfl ?_
            refine ok_callVi (np := 1) (M' := m_X12_bad) (As := [.int 3]) (st := []) 45 dX12_readsRows_42 rfl rfl km_X12_bad ki_X12_bad kv_X12_bad ml_EncoresModel_183 (by decide) sg_123 rfl (Nat.le_of_ble_eq_true rfl) rfl rfl rfl (Nat.le_of_ble_eq_true rfl) (c_X12_bad N (d + 12) 3 m_19) ⟨Nat.le_refl _, Nat.le_refl _⟩ (Or.inl rfl) rfl (fun r_42 m_42 _ => ?_)
            exact ok_zret dX12_readsRows_45 rfl
        · refine ok_aload_n 26 0 dX12_readsRows_25 rfl rfl rfl ?_
          refine ok_iconst 27 1 dX12_readsRows_26 rfl rfl ?_
          refine ok_callVi (np := 1) (M' := m_X12_bad) (As := [.int 1]) (st := []) 30 dX12_readsRows_27 rfl rfl km_X12_bad ki_X12_bad kv_X12_bad ml_EncoresModel_183 (by decide) sg_123 rfl (Nat.le_of_ble_eq_true rfl) rfl rfl rfl (Nat.le_of_ble_eq_true rfl) (c_X12_bad N (d + 12) 1 m_19) ⟨Nat.le_refl _, Nat.le_refl _⟩ (Or.inl rfl) rfl (fun r_27 m_27 _ => ?_)
          exact ok_zret dX12_readsRows_30 rfl)

set_option maxRecDepth 100000 in
set_option maxHeartbeats 4000000 in
theorem ok_X12_readsRows (N d : Nat)   (m : Mem) : Ok none SG (d + 13) m_X12_readsRows 0 [some (.ref 123), none] [] SG m (f_X12_readsRows N m) := by
  unfold f_X12_readsRows
  refine ok_aload_n 1 0 dX12_readsRows_0 rfl rfl rfl ?_
  refine ok_iconst 2 0 dX12_readsRows_1 rfl rfl ?_
  refine ok_putI 5 dX12_readsRows_2 rfl rfl F_EncoresModel_233 sg_123 rfl (Nat.le_of_ble_eq_true rfl) rfl rfl pZ_12_15 rfl rfl ?_
  refine ok_bndM (fun m_2 => ?_)
  refine ok_iconst 6 1 dX12_readsRows_5 rfl rfl ?_
  refine ok_istore_n 7 1 [some (.ref 123), some (.int 1)] dX12_readsRows_6 rfl rfl (by decide) rfl ?_
  refine ok_less [some (.ref 123), some (.int 1)] (And.intro rfl (And.intro rfl (trivial))) ?_
  exact ok_X12_readsRows_L7 N d     N 1 m_2

theorem c_X12_readsRows (N d : Nat)   (m : Mem) : CM (d + 13) m_X12_readsRows SG SG [.ref 123] m (f_X12_readsRows N m) :=
  CM.ofOk km_X12_readsRows ⟨Nat.le_refl _, Nat.le_refl _⟩ (by simp [Value.category]) (Nat.le_of_ble_eq_true rfl) (ok_X12_readsRows N d  m)

def f_X12_putsLaw_L13 (N : Nat)   (K105 : Mem → Ans) (X : Int32 → Mem → Ans) (s1_13 : Int32) (m : Mem) : Ans :=
if (m 123 13) ≤ s1_13 then (K105 m)
else (chk (inb ((4 : Int32) * s1_13) 64) <|
chk (inb ((823 : Int32) + s1_13) 1707) <|
bnd (mset m 124 ((823 : Int32) + s1_13).toNatClampNeg (m 128 ((4 : Int32) * s1_13).toNatClampNeg)) fun m_38 =>
chk (inb (((4 : Int32) * s1_13) + (1 : Int32)) 64) <|
chk (inb ((839 : Int32) + s1_13) 1707) <|
bnd (mset m_38 124 ((839 : Int32) + s1_13).toNatClampNeg (m_38 128 (((4 : Int32) * s1_13) + (1 : Int32)).toNatClampNeg)) fun m_58 =>
chk (inb (((4 : Int32) * s1_13) + (2 : Int32)) 64) <|
chk (inb ((855 : Int32) + s1_13) 1707) <|
bnd (mset m_58 124 ((855 : Int32) + s1_13).toNatClampNeg (m_58 128 (((4 : Int32) * s1_13) + (2 : Int32)).toNatClampNeg)) fun m_78 =>
chk (inb (((4 : Int32) * s1_13) + (3 : Int32)) 64) <|
chk (inb ((871 : Int32) + s1_13) 1707) <|
bnd (mset m_78 124 ((871 : Int32) + s1_13).toNatClampNeg (m_78 128 (((4 : Int32) * s1_13) + (3 : Int32)).toNatClampNeg)) fun m_98 =>
X (s1_13 + 1) m_98)

def f_X12_putsLaw_L107 (N : Nat)    (X : Int32 → Mem → Ans) (s1_107 : Int32) (m : Mem) : Ans :=
if ((2 : Int32) * (m 123 14)) ≤ s1_107 then (some (m 123 13, m))
else (chk (inb s1_107 820) <|
chk (inb ((887 : Int32) + s1_107) 1707) <|
bnd (mset m 124 ((887 : Int32) + s1_107).toNatClampNeg (m 129 s1_107.toNatClampNeg)) fun m_132 =>
X (s1_107 + 1) m_132)

def f_X12_putsLaw (N : Nat)  (m : Mem) : Ans :=
bnd (mset m 124 40 (m 123 13)) fun m_10 =>
it1 (f_X12_putsLaw_L13 N (fun mk105 => it1 (f_X12_putsLaw_L107 N ) N 0 mk105)) N 0 m_10

set_option maxRecDepth 100000 in
set_option maxHeartbeats 4000000 in
theorem ok_X12_putsLaw_L13 (N d : Nat)    (K105 : Mem → Ans) (hK105 : ∀  (m : Mem), Ok none SG (d + 0) m_X12_putsLaw 105 [some (.ref 123), none] [] SG m (K105 m)) : ∀ (n : Nat) (s1_13 : Int32) (m : Mem), Ok none SG (d + 0) m_X12_putsLaw 13 [some (.ref 123), some (.int s1_13)] [] SG m (it1 (f_X12_putsLaw_L13 N K105) n s1_13 m) :=
  ok_it1 (fun s1_13 => [some (.ref 123), some (.int s1_13)]) (fun X hX s1_13 m => by
    try unfold f_X12_putsLaw_L13
    refine ok_iload_n 14 1 dX12_putsLaw_13 rfl rfl rfl ?_
    refine ok_aload_n 15 0 dX12_putsLaw_14 rfl rfl rfl ?_
    refine ok_getI 18 dX12_putsLaw_15 rfl rfl F_EncoresModel_224 sg_123 rfl (Nat.le_of_ble_eq_true rfl) rfl ?_
    refine ok_icmp_ge 105 21 dX12_putsLaw_18 (by decide) rfl (fun _ => ?_) (fun _ => ?_)
    · exact ok_less [some (.ref 123), none] (And.intro rfl (trivial)) (hK105 m)
    · refine ok_aload_n 22 0 dX12_putsLaw_21 rfl rfl rfl ?_
      refine ok_getR 25 dX12_putsLaw_22 rfl rfl F_EncoresModel_7 sg_123 rfl (Nat.le_of_ble_eq_true rfl) rfl rfl ?_
      refine ok_sipush 28 823 dX12_putsLaw_25 rfl rfl ?_
      refine ok_iload_n 29 1 dX12_putsLaw_28 rfl rfl rfl ?_
      refine ok_iadd 30 dX12_putsLaw_29 rfl ?_
      refine ok_aload_n 31 0 dX12_putsLaw_30 rfl rfl rfl ?_
      refine ok_getR 34 dX12_putsLaw_31 rfl rfl F_EncoresModel_22 sg_123 rfl (Nat.le_of_ble_eq_true rfl) rfl rfl ?_
      refine ok_iconst 35 4 dX12_putsLaw_34 rfl rfl ?_
      refine ok_iload_n 36 1 dX12_putsLaw_35 rfl rfl rfl ?_
      refine ok_imul 37 dX12_putsLaw_36 rfl ?_
      refine ok_iald 38 dX12_putsLaw_37 rfl sg_128 ?_
      refine ok_iast 39 dX12_putsLaw_38 rfl sg_124 ?_
      refine ok_bndM (fun m_38 => ?_)
      refine ok_aload_n 40 0 dX12_putsLaw_39 rfl rfl rfl ?_
      refine ok_getR 43 dX12_putsLaw_40 rfl rfl F_EncoresModel_7 sg_123 rfl (Nat.le_of_ble_eq_true rfl) rfl rfl ?_
      refine ok_sipush 46 839 dX12_putsLaw_43 rfl rfl ?_
      refine ok_iload_n 47 1 dX12_putsLaw_46 rfl rfl rfl ?_
      refine ok_iadd 48 dX12_putsLaw_47 rfl ?_
      refine ok_aload_n 49 0 dX12_putsLaw_48 rfl rfl rfl ?_
      refine ok_getR 52 dX12_putsLaw_49 rfl rfl F_EncoresModel_22 sg_123 rfl (Nat.le_of_ble_eq_true rfl) rfl rfl ?_
      refine ok_iconst 53 4 dX12_putsLaw_52 rfl rfl ?_
      refine ok_iload_n 54 1 dX12_putsLaw_53 rfl rfl rfl ?_
      refine ok_imul 55 dX12_putsLaw_54 rfl ?_
      refine ok_iconst 56 1 dX12_putsLaw_55 rfl rfl ?_
      refine ok_iadd 57 dX12_putsLaw_56 rfl ?_
      refine ok_iald 58 dX12_putsLaw_57 rfl sg_128 ?_
      refine ok_iast 59 dX12_putsLaw_58 rfl sg_124 ?_
      refine ok_bndM (fun m_58 => ?_)
      refine ok_aload_n 60 0 dX12_putsLaw_59 rfl rfl rfl ?_
      refine ok_getR 63 dX12_putsLaw_60 rfl rfl F_EncoresModel_7 sg_123 rfl (Nat.le_of_ble_eq_true rfl) rfl rfl ?_
      refine ok_sipush 66 855 dX12_putsLaw_63 rfl rfl ?_
      refine ok_iload_n 67 1 dX12_putsLaw_66 rfl rfl rfl ?_
      refine ok_iadd 68 dX12_putsLaw_67 rfl ?_
      refine ok_aload_n 69 0 dX12_putsLaw_68 rfl rfl rfl ?_
      refine ok_getR 72 dX12_putsLaw_69 rfl rfl F_EncoresModel_22 sg_123 rfl (Nat.le_of_ble_eq_true rfl) rfl rfl ?_
      refine ok_iconst 73 4 dX12_putsLaw_72 rfl rfl ?_
      refine ok_iload_n 74 1 dX12_putsLaw_73 rfl rfl rfl ?_
      refine ok_imul 75 dX12_putsLaw_74 rfl ?_
      refine ok_iconst 76 2 dX12_putsLaw_75 rfl rfl ?_
      refine ok_iadd 77 dX12_putsLaw_76 rfl ?_
      refine ok_iald 78 dX12_putsLaw_77 rfl sg_128 ?_
      refine ok_iast 79 dX12_putsLaw_78 rfl sg_124 ?_
      refine ok_bndM (fun m_78 => ?_)
      refine ok_aload_n 80 0 dX12_putsLaw_79 rfl rfl rfl ?_
      refine ok_getR 83 dX12_putsLaw_80 rfl rfl F_EncoresModel_7 sg_123 rfl (Nat.le_of_ble_eq_true rfl) rfl rfl ?_
      refine ok_sipush 86 871 dX12_putsLaw_83 rfl rfl ?_
      refine ok_iload_n 87 1 dX12_putsLaw_86 rfl rfl rfl ?_
      refine ok_iadd 88 dX12_putsLaw_87 rfl ?_
      refine ok_aload_n 89 0 dX12_putsLaw_88 rfl rfl rfl ?_
      refine ok_getR 92 dX12_putsLaw_89 rfl rfl F_EncoresModel_22 sg_123 rfl (Nat.le_of_ble_eq_true rfl) rfl rfl ?_
      refine ok_iconst 93 4 dX12_putsLaw_92 rfl rfl ?_
      refine ok_iload_n 94 1 dX12_putsLaw_93 rfl rfl rfl ?_
      refine ok_imul 95 dX12_putsLaw_94 rfl ?_
      refine ok_iconst 96 3 dX12_putsLaw_95 rfl rfl ?_
      refine ok_iadd 97 dX12_putsLaw_96 rfl ?_
      refine ok_iald 98 dX12_putsLaw_97 rfl sg_128 ?_
      refine ok_iast 99 dX12_putsLaw_98 rfl sg_124 ?_
      refine ok_bndM (fun m_98 => ?_)
      refine ok_iinc 102 1 1 [some (.ref 123), some (.int (s1_13 + 1))] dX12_putsLaw_99 rfl rfl rfl (by decide) rfl ?_
      refine ok_goto 13 dX12_putsLaw_102 (by decide) ?_
      exact ok_less [some (.ref 123), some (.int (s1_13 + 1))] (And.intro rfl (And.intro rfl (trivial))) (hX (s1_13 + 1) m_98))

set_option maxRecDepth 100000 in
set_option maxHeartbeats 4000000 in
theorem ok_X12_putsLaw_L107 (N d : Nat)     : ∀ (n : Nat) (s1_107 : Int32) (m : Mem), Ok none SG (d + 0) m_X12_putsLaw 107 [some (.ref 123), some (.int s1_107)] [] SG m (it1 (f_X12_putsLaw_L107 N) n s1_107 m) :=
  ok_it1 (fun s1_107 => [some (.ref 123), some (.int s1_107)]) (fun X hX s1_107 m => by
    try unfold f_X12_putsLaw_L107
    refine ok_iload_n 108 1 dX12_putsLaw_107 rfl rfl rfl ?_
    refine ok_iconst 109 2 dX12_putsLaw_108 rfl rfl ?_
    refine ok_aload_n 110 0 dX12_putsLaw_109 rfl rfl rfl ?_
    refine ok_getI 113 dX12_putsLaw_110 rfl rfl F_EncoresModel_189 sg_123 rfl (Nat.le_of_ble_eq_true rfl) rfl ?_
    refine ok_imul 114 dX12_putsLaw_113 rfl ?_
    refine ok_icmp_ge 139 117 dX12_putsLaw_114 (by decide) rfl (fun _ => ?_) (fun _ => ?_)
    · refine ok_aload_n 140 0 dX12_putsLaw_139 rfl rfl rfl ?_
      refine ok_getI 143 dX12_putsLaw_140 rfl rfl F_EncoresModel_224 sg_123 rfl (Nat.le_of_ble_eq_true rfl) rfl ?_
      exact ok_iret dX12_putsLaw_143 rfl
    · refine ok_aload_n 118 0 dX12_putsLaw_117 rfl rfl rfl ?_
      refine ok_getR 121 dX12_putsLaw_118 rfl rfl F_EncoresModel_7 sg_123 rfl (Nat.le_of_ble_eq_true rfl) rfl rfl ?_
      refine ok_sipush 124 887 dX12_putsLaw_121 rfl rfl ?_
      refine ok_iload_n 125 1 dX12_putsLaw_124 rfl rfl rfl ?_
      refine ok_iadd 126 dX12_putsLaw_125 rfl ?_
      refine ok_aload_n 127 0 dX12_putsLaw_126 rfl rfl rfl ?_
      refine ok_getR 130 dX12_putsLaw_127 rfl rfl F_EncoresModel_25 sg_123 rfl (Nat.le_of_ble_eq_true rfl) rfl rfl ?_
      refine ok_iload_n 131 1 dX12_putsLaw_130 rfl rfl rfl ?_
      refine ok_iald 132 dX12_putsLaw_131 rfl sg_129 ?_
      refine ok_iast 133 dX12_putsLaw_132 rfl sg_124 ?_
      refine ok_bndM (fun m_132 => ?_)
      refine ok_iinc 136 1 1 [some (.ref 123), some (.int (s1_107 + 1))] dX12_putsLaw_133 rfl rfl rfl (by decide) rfl ?_
      refine ok_goto 107 dX12_putsLaw_136 (by decide) ?_
      exact ok_less [some (.ref 123), some (.int (s1_107 + 1))] (And.intro rfl (And.intro rfl (trivial))) (hX (s1_107 + 1) m_132))

set_option maxRecDepth 100000 in
set_option maxHeartbeats 4000000 in
theorem ok_X12_putsLaw (N d : Nat)   (m : Mem) : Ok none SG (d + 0) m_X12_putsLaw 0 [some (.ref 123), none] [] SG m (f_X12_putsLaw N m) := by
  unfold f_X12_putsLaw
  refine ok_aload_n 1 0 dX12_putsLaw_0 rfl rfl rfl ?_
  refine ok_getR 4 dX12_putsLaw_1 rfl rfl F_EncoresModel_7 sg_123 rfl (Nat.le_of_ble_eq_true rfl) rfl rfl ?_
  refine ok_bipush 6 40 dX12_putsLaw_4 rfl rfl ?_
  refine ok_aload_n 7 0 dX12_putsLaw_6 rfl rfl rfl ?_
  refine ok_getI 10 dX12_putsLaw_7 rfl rfl F_EncoresModel_224 sg_123 rfl (Nat.le_of_ble_eq_true rfl) rfl ?_
  refine ok_iastc 11 40 dX12_putsLaw_10 rfl sg_124 (by decide) (by decide) ?_
  refine ok_bndM (fun m_10 => ?_)
  refine ok_iconst 12 0 dX12_putsLaw_11 rfl rfl ?_
  refine ok_istore_n 13 1 [some (.ref 123), some (.int 0)] dX12_putsLaw_12 rfl rfl (by decide) rfl ?_
  refine ok_less [some (.ref 123), some (.int 0)] (And.intro rfl (And.intro rfl (trivial))) ?_
  exact ok_X12_putsLaw_L13 N d   _ (fun mk105 => by
      refine ok_iconst 106 0 dX12_putsLaw_105 rfl rfl ?_
      refine ok_istore_n 107 1 [some (.ref 123), some (.int 0)] dX12_putsLaw_106 rfl rfl (by decide) rfl ?_
      refine ok_less [some (.ref 123), some (.int 0)] (And.intro rfl (And.intro rfl (trivial))) ?_
      exact ok_X12_putsLaw_L107 N d     N 0 mk105) N 0 m_10

theorem c_X12_putsLaw (N d : Nat)   (m : Mem) : CM (d + 0) m_X12_putsLaw SG SG [.ref 123] m (f_X12_putsLaw N m) :=
  CM.ofOk km_X12_putsLaw ⟨Nat.le_refl _, Nat.le_refl _⟩ (by simp [Value.category]) (Nat.le_of_ble_eq_true rfl) (ok_X12_putsLaw N d  m)

def f_X12_puts_L13 (N : Nat) (a1 : Int32) (a2 : Int32) (a3 : Int32)   (X : Int32 → Mem → Ans) (s4_13 : Int32) (m : Mem) : Ans :=
if (a3 * (m 123 15)) ≤ s4_13 then (some (m 123 15, m))
else (chk (inb s4_13 48) <|
chk (inb (a2 + s4_13) 1707) <|
bnd (mset m 124 (a2 + s4_13).toNatClampNeg (m 130 s4_13.toNatClampNeg)) fun m_39 =>
X (s4_13 + 1) m_39)

def f_X12_puts (N : Nat) (a1 : Int32) (a2 : Int32) (a3 : Int32) (m : Mem) : Ans :=
chk (inb a1 1707) <|
bnd (mset m 124 a1.toNatClampNeg (m 123 15)) fun m_9 =>
it1 (f_X12_puts_L13 N a1 a2 a3 ) N 0 m_9

set_option maxRecDepth 100000 in
set_option maxHeartbeats 4000000 in
theorem ok_X12_puts_L13 (N d : Nat) (a1 : Int32) (a2 : Int32) (a3 : Int32)    : ∀ (n : Nat) (s4_13 : Int32) (m : Mem), Ok none SG (d + 0) m_X12_puts 13 [some (.ref 123), none, some (.int a2), some (.int a3), some (.int s4_13)] [] SG m (it1 (f_X12_puts_L13 N a1 a2 a3) n s4_13 m) :=
  ok_it1 (fun s4_13 => [some (.ref 123), none, some (.int a2), some (.int a3), some (.int s4_13)]) (fun X hX s4_13 m => by
    try unfold f_X12_puts_L13
    refine ok_iload 15 4 dX12_puts_13 rfl rfl ?_
    refine ok_iload_n 16 3 dX12_puts_15 rfl rfl rfl ?_
    refine ok_aload_n 17 0 dX12_puts_16 rfl rfl rfl ?_
    refine ok_getI 20 dX12_puts_17 rfl rfl F_EncoresModel_233 sg_123 rfl (Nat.le_of_ble_eq_true rfl) rfl ?_
    refine ok_imul 21 dX12_puts_20 rfl ?_
    refine ok_icmp_ge 46 24 dX12_puts_21 (by decide) rfl (fun _ => ?_) (fun _ => ?_)
    · refine ok_aload_n 47 0 dX12_puts_46 rfl rfl rfl ?_
      refine ok_getI 50 dX12_puts_47 rfl rfl F_EncoresModel_233 sg_123 rfl (Nat.le_of_ble_eq_true rfl) rfl ?_
      exact ok_iret dX12_puts_50 rfl
    · refine ok_aload_n 25 0 dX12_puts_24 rfl rfl rfl ?_
      refine ok_getR 28 dX12_puts_25 rfl rfl F_EncoresModel_7 sg_123 rfl (Nat.le_of_ble_eq_true rfl) rfl rfl ?_
      refine ok_iload_n 29 2 dX12_puts_28 rfl rfl rfl ?_
      refine ok_iload 31 4 dX12_puts_29 rfl rfl ?_
      refine ok_iadd 32 dX12_puts_31 rfl ?_
      refine ok_aload_n 33 0 dX12_puts_32 rfl rfl rfl ?_
      refine ok_getR 36 dX12_puts_33 rfl rfl F_EncoresModel_28 sg_123 rfl (Nat.le_of_ble_eq_true rfl) rfl rfl ?_
      refine ok_iload 38 4 dX12_puts_36 rfl rfl ?_
      refine ok_iald 39 dX12_puts_38 rfl sg_130 ?_
      refine ok_iast 40 dX12_puts_39 rfl sg_124 ?_
      refine ok_bndM (fun m_39 => ?_)
      refine ok_iinc 43 4 1 [some (.ref 123), none, some (.int a2), some (.int a3), some (.int (s4_13 + 1))] dX12_puts_40 rfl rfl rfl (by decide) rfl ?_
      refine ok_goto 13 dX12_puts_43 (by decide) ?_
      exact ok_less [some (.ref 123), none, some (.int a2), some (.int a3), some (.int (s4_13 + 1))] (And.intro rfl (And.intro rfl (And.intro rfl (And.intro rfl (trivial))))) (hX (s4_13 + 1) m_39))

set_option maxRecDepth 100000 in
set_option maxHeartbeats 4000000 in
theorem ok_X12_puts (N d : Nat) (a1 : Int32) (a2 : Int32) (a3 : Int32)  (m : Mem) : Ok none SG (d + 0) m_X12_puts 0 [some (.ref 123), some (.int a1), some (.int a2), some (.int a3), none] [] SG m (f_X12_puts N a1 a2 a3 m) := by
  unfold f_X12_puts
  refine ok_aload_n 1 0 dX12_puts_0 rfl rfl rfl ?_
  refine ok_getR 4 dX12_puts_1 rfl rfl F_EncoresModel_7 sg_123 rfl (Nat.le_of_ble_eq_true rfl) rfl rfl ?_
  refine ok_iload_n 5 1 dX12_puts_4 rfl rfl rfl ?_
  refine ok_aload_n 6 0 dX12_puts_5 rfl rfl rfl ?_
  refine ok_getI 9 dX12_puts_6 rfl rfl F_EncoresModel_233 sg_123 rfl (Nat.le_of_ble_eq_true rfl) rfl ?_
  refine ok_iast 10 dX12_puts_9 rfl sg_124 ?_
  refine ok_bndM (fun m_9 => ?_)
  refine ok_iconst 11 0 dX12_puts_10 rfl rfl ?_
  refine ok_istore 13 4 [some (.ref 123), some (.int a1), some (.int a2), some (.int a3), some (.int 0)] dX12_puts_11 rfl (by decide) rfl ?_
  refine ok_less [some (.ref 123), none, some (.int a2), some (.int a3), some (.int 0)] (And.intro rfl (And.intro rfl (And.intro rfl (And.intro rfl (trivial))))) ?_
  exact ok_X12_puts_L13 N d a1 a2 a3    N 0 m_9

theorem c_X12_puts (N d : Nat) (a1 : Int32) (a2 : Int32) (a3 : Int32)  (m : Mem) : CM (d + 0) m_X12_puts SG SG [.ref 123, .int a1, .int a2, .int a3] m (f_X12_puts N a1 a2 a3 m) :=
  CM.ofOk km_X12_puts ⟨Nat.le_refl _, Nat.le_refl _⟩ (by simp [Value.category]) (Nat.le_of_ble_eq_true rfl) (ok_X12_puts N d a1 a2 a3 m)

def f_X12_putsGallery_L13 (N : Nat)   (K36 : Mem → Ans) (X : Int32 → Mem → Ans) (s1_13 : Int32) (m : Mem) : Ans :=
if (12 : Int32) ≤ s1_13 then (K36 m)
else (chk (inb ((185 : Int32) + s1_13) 1707) <|
bnd (mset m 124 ((185 : Int32) + s1_13).toNatClampNeg 0) fun m_29 =>
X (s1_13 + 1) m_29)

def f_X12_putsGallery_L38 (N : Nat)    (X : Int32 → Mem → Ans) (s1_38 : Int32) (m : Mem) : Ans :=
if (m 123 15) ≤ s1_38 then (some (m 123 15, m))
else (chk (inb ((2 : Int32) * s1_38) 48) <|
chk (inb ((185 : Int32) + (m 130 ((2 : Int32) * s1_38).toNatClampNeg)) 1707) <|
chk (inb (((2 : Int32) * s1_38) + (1 : Int32)) 48) <|
chk (inb ((185 : Int32) + (m 130 ((2 : Int32) * s1_38).toNatClampNeg)) 1707) <|
bnd (mset m 124 ((185 : Int32) + (m 130 ((2 : Int32) * s1_38).toNatClampNeg)).toNatClampNeg ((m 124 ((185 : Int32) + (m 130 ((2 : Int32) * s1_38).toNatClampNeg)).toNatClampNeg) ||| ((1 : Int32) <<< ((m 130 (((2 : Int32) * s1_38) + (1 : Int32)).toNatClampNeg) &&& 31)))) fun m_77 =>
chk (inb (((2 : Int32) * s1_38) + (1 : Int32)) 48) <|
chk (inb ((185 : Int32) + (m_77 130 (((2 : Int32) * s1_38) + (1 : Int32)).toNatClampNeg)) 1707) <|
chk (inb ((2 : Int32) * s1_38) 48) <|
chk (inb ((185 : Int32) + (m_77 130 (((2 : Int32) * s1_38) + (1 : Int32)).toNatClampNeg)) 1707) <|
bnd (mset m_77 124 ((185 : Int32) + (m_77 130 (((2 : Int32) * s1_38) + (1 : Int32)).toNatClampNeg)).toNatClampNeg ((m_77 124 ((185 : Int32) + (m_77 130 (((2 : Int32) * s1_38) + (1 : Int32)).toNatClampNeg)).toNatClampNeg) ||| ((1 : Int32) <<< ((m_77 130 ((2 : Int32) * s1_38).toNatClampNeg) &&& 31)))) fun m_109 =>
X (s1_38 + 1) m_109)

def f_X12_putsGallery (N : Nat)  (m : Mem) : Ans :=
bnd (mset m 124 43 (m 123 15)) fun m_10 =>
it1 (f_X12_putsGallery_L13 N (fun mk36 => it1 (f_X12_putsGallery_L38 N ) N 0 mk36)) N 0 m_10

set_option maxRecDepth 100000 in
set_option maxHeartbeats 4000000 in
theorem ok_X12_putsGallery_L13 (N d : Nat)    (K36 : Mem → Ans) (hK36 : ∀  (m : Mem), Ok none SG (d + 0) m_X12_putsGallery 36 [some (.ref 123), none] [] SG m (K36 m)) : ∀ (n : Nat) (s1_13 : Int32) (m : Mem), Ok none SG (d + 0) m_X12_putsGallery 13 [some (.ref 123), some (.int s1_13)] [] SG m (it1 (f_X12_putsGallery_L13 N K36) n s1_13 m) :=
  ok_it1 (fun s1_13 => [some (.ref 123), some (.int s1_13)]) (fun X hX s1_13 m => by
    try unfold f_X12_putsGallery_L13
    refine ok_iload_n 14 1 dX12_putsGallery_13 rfl rfl rfl ?_
    refine ok_bipush 16 12 dX12_putsGallery_14 rfl rfl ?_
    refine ok_icmp_ge 36 19 dX12_putsGallery_16 (by decide) rfl (fun _ => ?_) (fun _ => ?_)
    · exact ok_less [some (.ref 123), none] (And.intro rfl (trivial)) (hK36 m)
    · refine ok_aload_n 20 0 dX12_putsGallery_19 rfl rfl rfl ?_
      refine ok_getR 23 dX12_putsGallery_20 rfl rfl F_EncoresModel_7 sg_123 rfl (Nat.le_of_ble_eq_true rfl) rfl rfl ?_
      refine ok_sipush 26 185 dX12_putsGallery_23 rfl rfl ?_
      refine ok_iload_n 27 1 dX12_putsGallery_26 rfl rfl rfl ?_
      refine ok_iadd 28 dX12_putsGallery_27 rfl ?_
      refine ok_iconst 29 0 dX12_putsGallery_28 rfl rfl ?_
      refine ok_iast 30 dX12_putsGallery_29 rfl sg_124 ?_
      refine ok_bndM (fun m_29 => ?_)
      refine ok_iinc 33 1 1 [some (.ref 123), some (.int (s1_13 + 1))] dX12_putsGallery_30 rfl rfl rfl (by decide) rfl ?_
      refine ok_goto 13 dX12_putsGallery_33 (by decide) ?_
      exact ok_less [some (.ref 123), some (.int (s1_13 + 1))] (And.intro rfl (And.intro rfl (trivial))) (hX (s1_13 + 1) m_29))

set_option maxRecDepth 100000 in
set_option maxHeartbeats 4000000 in
theorem ok_X12_putsGallery_L38 (N d : Nat)     : ∀ (n : Nat) (s1_38 : Int32) (m : Mem), Ok none SG (d + 0) m_X12_putsGallery 38 [some (.ref 123), some (.int s1_38)] [] SG m (it1 (f_X12_putsGallery_L38 N) n s1_38 m) :=
  ok_it1 (fun s1_38 => [some (.ref 123), some (.int s1_38)]) (fun X hX s1_38 m => by
    try unfold f_X12_putsGallery_L38
    refine ok_iload_n 39 1 dX12_putsGallery_38 rfl rfl rfl ?_
    refine ok_aload_n 40 0 dX12_putsGallery_39 rfl rfl rfl ?_
    refine ok_getI 43 dX12_putsGallery_40 rfl rfl F_EncoresModel_233 sg_123 rfl (Nat.le_of_ble_eq_true rfl) rfl ?_
    refine ok_icmp_ge 116 46 dX12_putsGallery_43 (by decide) rfl (fun _ => ?_) (fun _ => ?_)
    · refine ok_aload_n 117 0 dX12_putsGallery_116 rfl rfl rfl ?_
      refine ok_getI 120 dX12_putsGallery_117 rfl rfl F_EncoresModel_233 sg_123 rfl (Nat.le_of_ble_eq_true rfl) rfl ?_
      exact ok_iret dX12_putsGallery_120 rfl
    · refine ok_aload_n 47 0 dX12_putsGallery_46 rfl rfl rfl ?_
      refine ok_getR 50 dX12_putsGallery_47 rfl rfl F_EncoresModel_7 sg_123 rfl (Nat.le_of_ble_eq_true rfl) rfl rfl ?_
      refine ok_sipush 53 185 dX12_putsGallery_50 rfl rfl ?_
      refine ok_aload_n 54 0 dX12_putsGallery_53 rfl rfl rfl ?_
      refine ok_getR 57 dX12_putsGallery_54 rfl rfl F_EncoresModel_28 sg_123 rfl (Nat.le_of_ble_eq_true rfl) rfl rfl ?_
      refine ok_iconst 58 2 dX12_putsGallery_57 rfl rfl ?_
      refine ok_iload_n 59 1 dX12_putsGallery_58 rfl rfl rfl ?_
      refine ok_imul 60 dX12_putsGallery_59 rfl ?_
      refine ok_iald 61 dX12_putsGallery_60 rfl sg_130 ?_
      refine ok_iadd 62 dX12_putsGallery_61 rfl ?_
      refine ok_dup2 63 dX12_putsGallery_62 rfl rfl rfl ?_
      refine ok_iald 64 dX12_putsGallery_63 rfl sg_124 ?_
      refine ok_iconst 65 1 dX12_putsGallery_64 rfl rfl ?_
      refine ok_aload_n 66 0 dX12_putsGallery_65 rfl rfl rfl ?_
      refine ok_getR 69 dX12_putsGallery_66 rfl rfl F_EncoresModel_28 sg_123 rfl (Nat.le_of_ble_eq_true rfl) rfl rfl ?_
      refine ok_iconst 70 2 dX12_putsGallery_69 rfl rfl ?_
      refine ok_iload_n 71 1 dX12_putsGallery_70 rfl rfl rfl ?_
      refine ok_imul 72 dX12_putsGallery_71 rfl ?_
      refine ok_iconst 73 1 dX12_putsGallery_72 rfl rfl ?_
      refine ok_iadd 74 dX12_putsGallery_73 rfl ?_
      refine ok_iald 75 dX12_putsGallery_74 rfl sg_130 ?_
      refine ok_ishl 76 dX12_putsGallery_75 rfl ?_
      refine ok_ior 77 dX12_putsGallery_76 rfl ?_
      refine ok_iast 78 dX12_putsGallery_77 rfl sg_124 ?_
      refine ok_bndM (fun m_77 => ?_)
      refine ok_aload_n 79 0 dX12_putsGallery_78 rfl rfl rfl ?_
      refine ok_getR 82 dX12_putsGallery_79 rfl rfl F_EncoresModel_7 sg_123 rfl (Nat.le_of_ble_eq_true rfl) rfl rfl ?_
      refine ok_sipush 85 185 dX12_putsGallery_82 rfl rfl ?_
      refine ok_aload_n 86 0 dX12_putsGallery_85 rfl rfl rfl ?_
      refine ok_getR 89 dX12_putsGallery_86 rfl rfl F_EncoresModel_28 sg_123 rfl (Nat.le_of_ble_eq_true rfl) rfl rfl ?_
      refine ok_iconst 90 2 dX12_putsGallery_89 rfl rfl ?_
      refine ok_iload_n 91 1 dX12_putsGallery_90 rfl rfl rfl ?_
      refine ok_imul 92 dX12_putsGallery_91 rfl ?_
      refine ok_iconst 93 1 dX12_putsGallery_92 rfl rfl ?_
      refine ok_iadd 94 dX12_putsGallery_93 rfl ?_
      refine ok_iald 95 dX12_putsGallery_94 rfl sg_130 ?_
      refine ok_iadd 96 dX12_putsGallery_95 rfl ?_
      refine ok_dup2 97 dX12_putsGallery_96 rfl rfl rfl ?_
      refine ok_iald 98 dX12_putsGallery_97 rfl sg_124 ?_
      refine ok_iconst 99 1 dX12_putsGallery_98 rfl rfl ?_
      refine ok_aload_n 100 0 dX12_putsGallery_99 rfl rfl rfl ?_
      refine ok_getR 103 dX12_putsGallery_100 rfl rfl F_EncoresModel_28 sg_123 rfl (Nat.le_of_ble_eq_true rfl) rfl rfl ?_
      refine ok_iconst 104 2 dX12_putsGallery_103 rfl rfl ?_
      refine ok_iload_n 105 1 dX12_putsGallery_104 rfl rfl rfl ?_
      refine ok_imul 106 dX12_putsGallery_105 rfl ?_
      refine ok_iald 107 dX12_putsGallery_106 rfl sg_130 ?_
      refine ok_ishl 108 dX12_putsGallery_107 rfl ?_
      refine ok_ior 109 dX12_putsGallery_108 rfl ?_
      refine ok_iast 110 dX12_putsGallery_109 rfl sg_124 ?_
      refine ok_bndM (fun m_109 => ?_)
      refine ok_iinc 113 1 1 [some (.ref 123), some (.int (s1_38 + 1))] dX12_putsGallery_110 rfl rfl rfl (by decide) rfl ?_
      refine ok_goto 38 dX12_putsGallery_113 (by decide) ?_
      exact ok_less [some (.ref 123), some (.int (s1_38 + 1))] (And.intro rfl (And.intro rfl (trivial))) (hX (s1_38 + 1) m_109))

set_option maxRecDepth 100000 in
set_option maxHeartbeats 4000000 in
theorem ok_X12_putsGallery (N d : Nat)   (m : Mem) : Ok none SG (d + 0) m_X12_putsGallery 0 [some (.ref 123), none] [] SG m (f_X12_putsGallery N m) := by
  unfold f_X12_putsGallery
  refine ok_aload_n 1 0 dX12_putsGallery_0 rfl rfl rfl ?_
  refine ok_getR 4 dX12_putsGallery_1 rfl rfl F_EncoresModel_7 sg_123 rfl (Nat.le_of_ble_eq_true rfl) rfl rfl ?_
  refine ok_bipush 6 43 dX12_putsGallery_4 rfl rfl ?_
  refine ok_aload_n 7 0 dX12_putsGallery_6 rfl rfl rfl ?_
  refine ok_getI 10 dX12_putsGallery_7 rfl rfl F_EncoresModel_233 sg_123 rfl (Nat.le_of_ble_eq_true rfl) rfl ?_
  refine ok_iastc 11 43 dX12_putsGallery_10 rfl sg_124 (by decide) (by decide) ?_
  refine ok_bndM (fun m_10 => ?_)
  refine ok_iconst 12 0 dX12_putsGallery_11 rfl rfl ?_
  refine ok_istore_n 13 1 [some (.ref 123), some (.int 0)] dX12_putsGallery_12 rfl rfl (by decide) rfl ?_
  refine ok_less [some (.ref 123), some (.int 0)] (And.intro rfl (And.intro rfl (trivial))) ?_
  exact ok_X12_putsGallery_L13 N d   _ (fun mk36 => by
      refine ok_iconst 37 0 dX12_putsGallery_36 rfl rfl ?_
      refine ok_istore_n 38 1 [some (.ref 123), some (.int 0)] dX12_putsGallery_37 rfl rfl (by decide) rfl ?_
      refine ok_less [some (.ref 123), some (.int 0)] (And.intro rfl (And.intro rfl (trivial))) ?_
      exact ok_X12_putsGallery_L38 N d     N 0 mk36) N 0 m_10

theorem c_X12_putsGallery (N d : Nat)   (m : Mem) : CM (d + 0) m_X12_putsGallery SG SG [.ref 123] m (f_X12_putsGallery N m) :=
  CM.ofOk km_X12_putsGallery ⟨Nat.le_refl _, Nat.le_refl _⟩ (by simp [Value.category]) (Nat.le_of_ble_eq_true rfl) (ok_X12_putsGallery N d  m)

def f_X12_putsText (N : Nat) (a1 : Int32) (m : Mem) : Ans :=
if a1 = 0 then (bd (f_X12_putsLaw N m) fun r_5 m_5 =>
some (r_5, m_5))
else (bd (f_X12_forgets N m) fun _ m_10 =>
if a1 = (1 : Int32) then (bd (f_X12_puts N 41 105 3 m_10) fun r_24 m_24 =>
some (r_24, m_24))
else (if a1 = (2 : Int32) then (bd (f_X12_puts N 42 153 2 m_10) fun r_42 m_42 =>
some (r_42, m_42))
else (bd (f_X12_putsGallery N m_10) fun r_49 m_49 =>
some (r_49, m_49))))

set_option maxRecDepth 100000 in
set_option maxHeartbeats 4000000 in
theorem ok_X12_putsText (N d : Nat) (a1 : Int32)  (m : Mem) : Ok none SG (d + 1) m_X12_putsText 0 [some (.ref 123), some (.int a1)] [] SG m (f_X12_putsText N a1 m) := by
  unfold f_X12_putsText
  refine ok_iload_n 1 1 dX12_putsText_0 rfl rfl rfl ?_
  refine ok_if_ne 9 4 dX12_putsText_1 (by decide) rfl (fun _ => ?_) (fun _ => ?_)
  · refine ok_aload_n 10 0 dX12_putsText_9 rfl rfl rfl ?_
    refine ok_callVv (np := 0) (M' := m_X12_forgets) (As := []) (st := []) 13 dX12_putsText_10 rfl rfl km_X12_forgets ki_X12_forgets kv_X12_forgets ml_EncoresModel_63 (by decide) sg_123 rfl (Nat.le_of_ble_eq_true rfl) rfl rfl rfl (Nat.le_of_ble_eq_true rfl) (c_X12_forgets N (d + 0) m) ⟨Nat.le_refl _, Nat.le_refl _⟩ (Or.inl rfl) rfl (fun _ m_10 _ => ?_)
    refine ok_iload_n 14 1 dX12_putsText_13 rfl rfl rfl ?_
    refine ok_iconst 15 1 dX12_putsText_14 rfl rfl ?_
    refine ok_icmp_ne 30 18 dX12_putsText_15 (by decide) rfl (fun _ => ?_) (fun _ => ?_)
    · refine ok_iload_n 31 1 dX12_putsText_30 rfl rfl rfl ?_
      refine ok_iconst 32 2 dX12_putsText_31 rfl rfl ?_
      refine ok_icmp_ne 48 35 dX12_putsText_32 (by decide) rfl (fun _ => ?_) (fun _ => ?_)
      · refine ok_aload_n 49 0 dX12_putsText_48 rfl rfl rfl ?_
        refine ok_callVi (np := 0) (M' := m_X12_putsGallery) (As := []) (st := []) 52 dX12_putsText_49 rfl rfl km_X12_putsGallery ki_X12_putsGallery kv_X12_putsGallery ml_EncoresModel_262 (by decide) sg_123 rfl (Nat.le_of_ble_eq_true rfl) rfl rfl rfl (Nat.le_of_ble_eq_true rfl) (c_X12_putsGallery N (d + 0) m_10) ⟨Nat.le_refl _, Nat.le_refl _⟩ (Or.inl rfl) rfl (fun r_49 m_49 _ => ?_)
        exact ok_iret dX12_putsText_52 rfl
      · refine ok_aload_n 36 0 dX12_putsText_35 rfl rfl rfl ?_
        refine ok_bipush 38 42 dX12_putsText_36 rfl rfl ?_
        refine ok_sipush 41 153 dX12_putsText_38 rfl rfl ?_
        refine ok_iconst 42 2 dX12_putsText_41 rfl rfl ?_
        refine ok_callVi (np := 3) (M' := m_X12_puts) (As := [.int 42, .int 153, .int 2]) (st := []) 45 dX12_putsText_42 rfl rfl km_X12_puts ki_X12_puts kv_X12_puts ml_EncoresModel_258 (by decide) sg_123 rfl (Nat.le_of_ble_eq_true rfl) rfl rfl rfl (Nat.le_of_ble_eq_true rfl) (c_X12_puts N (d + 0) 42 153 2 m_10) ⟨Nat.le_refl _, Nat.le_refl _⟩ (Or.inl rfl) rfl (fun r_42 m_42 _ => ?_)
        refine ok_goto 52 dX12_putsText_45 (by decide) ?_
        exact ok_iret dX12_putsText_52 rfl
    · refine ok_aload_n 19 0 dX12_putsText_18 rfl rfl rfl ?_
      refine ok_bipush 21 41 dX12_putsText_19 rfl rfl ?_
      refine ok_bipush 23 105 dX12_putsText_21 rfl rfl ?_
      refine ok_iconst 24 3 dX12_putsText_23 rfl rfl ?_
      refine ok_callVi (np := 3) (M' := m_X12_puts) (As := [.int 41, .int 105, .int 3]) (st := []) 27 dX12_putsText_24 rfl rfl km_X12_puts ki_X12_puts kv_X12_puts ml_EncoresModel_258 (by decide) sg_123 rfl (Nat.le_of_ble_eq_true rfl) rfl rfl rfl (Nat.le_of_ble_eq_true rfl) (c_X12_puts N (d + 0) 41 105 3 m_10) ⟨Nat.le_refl _, Nat.le_refl _⟩ (Or.inl rfl) rfl (fun r_24 m_24 _ => ?_)
      refine ok_goto 52 dX12_putsText_27 (by decide) ?_
      exact ok_iret dX12_putsText_52 rfl
  · refine ok_aload_n 5 0 dX12_putsText_4 rfl rfl rfl ?_
    refine ok_callVi (np := 0) (M' := m_X12_putsLaw) (As := []) (st := []) 8 dX12_putsText_5 rfl rfl km_X12_putsLaw ki_X12_putsLaw kv_X12_putsLaw ml_EncoresModel_255 (by decide) sg_123 rfl (Nat.le_of_ble_eq_true rfl) rfl rfl rfl (Nat.le_of_ble_eq_true rfl) (c_X12_putsLaw N (d + 0) m) ⟨Nat.le_refl _, Nat.le_refl _⟩ (Or.inl rfl) rfl (fun r_5 m_5 _ => ?_)
    exact ok_iret dX12_putsText_8 rfl

theorem c_X12_putsText (N d : Nat) (a1 : Int32)  (m : Mem) : CM (d + 1) m_X12_putsText SG SG [.ref 123, .int a1] m (f_X12_putsText N a1 m) :=
  CM.ofOk km_X12_putsText ⟨Nat.le_refl _, Nat.le_refl _⟩ (by simp [Value.category]) (Nat.le_of_ble_eq_true rfl) (ok_X12_putsText N d a1 m)

def f_X12_text_J60 (N : Nat) (a1 : Int32)   (t0_60 : Int32) (m : Mem) : Ans :=
bnd (mset m 123 16 0) fun m_63 =>
if t0_60 = 0 then (bnd (mset m_63 123 23 (m_63 123 21)) fun m_81 =>
bnd (mset m_81 123 25 (m_81 123 22)) fun m_89 =>
some ((-1), m_89))
else (bd (f_X12_putsText N a1 m_63) fun r_72 m_72 =>
some (r_72, m_72))

def f_X12_text (N : Nat) (a1 : Int32) (m : Mem) : Ans :=
bnd (mset m 123 23 0) fun m_2 =>
bnd (mset m_2 123 25 (-1)) fun m_7 =>
bd (f_X12_isIn N a1 0 3 m_7) fun r_13 m_13 =>
if r_13 = 0 then (bnd (mset m_13 123 16 0) fun m_21 =>
some ((-1), m_21))
else (bnd (mset m_13 123 21 0) fun m_28 =>
bnd (mset m_28 123 17 0) fun m_33 =>
bnd (mset m_33 123 12 a1) fun m_38 =>
bd (f_X12_next0 N m_38) fun _ m_42 =>
if a1 = 0 then (bd (f_X12_readsLaw N m_42) fun r_50 m_50 =>
f_X12_text_J60 N a1 r_50 m_50)
else (bd (f_X12_readsRows N m_42) fun r_57 m_57 =>
f_X12_text_J60 N a1 r_57 m_57))

set_option maxRecDepth 100000 in
set_option maxHeartbeats 4000000 in
theorem ok_X12_text_J60 (N d : Nat) (a1 : Int32)    (t0_60 : Int32) (m : Mem) : Ok none SG (d + 49) m_X12_text 60 [some (.ref 123), some (.int a1), none] [.int t0_60] SG m (f_X12_text_J60 N a1 t0_60 m) := by
  unfold f_X12_text_J60
  refine ok_istore_n 61 2 [some (.ref 123), some (.int a1), some (.int t0_60)] dX12_text_60 rfl rfl (by decide) rfl ?_
  refine ok_aload_n 62 0 dX12_text_61 rfl rfl rfl ?_
  refine ok_iconst 63 0 dX12_text_62 rfl rfl ?_
  refine ok_putI 66 dX12_text_63 rfl rfl F_EncoresModel_78 sg_123 rfl (Nat.le_of_ble_eq_true rfl) rfl rfl pZ_12_16 rfl rfl ?_
  refine ok_bndM (fun m_63 => ?_)
  refine ok_iload_n 67 2 dX12_text_66 rfl rfl rfl ?_
  refine ok_if_eq 76 70 dX12_text_67 (by decide) rfl (fun _ => ?_) (fun _ => ?_)
  · refine ok_aload_n 77 0 dX12_text_76 rfl rfl rfl ?_
    refine ok_aload_n 78 0 dX12_text_77 rfl rfl rfl ?_
    refine ok_getI 81 dX12_text_78 rfl rfl F_EncoresModel_177 sg_123 rfl (Nat.le_of_ble_eq_true rfl) rfl ?_
    refine ok_putI 84 dX12_text_81 rfl rfl F_EncoresModel_265 sg_123 rfl (Nat.le_of_ble_eq_true rfl) rfl rfl pZ_12_23 rfl rfl ?_
    refine ok_bndM (fun m_81 => ?_)
    refine ok_aload_n 85 0 dX12_text_84 rfl rfl rfl ?_
    refine ok_aload_n 86 0 dX12_text_85 rfl rfl rfl ?_
    refine ok_getI 89 dX12_text_86 rfl rfl F_EncoresModel_180 sg_123 rfl (Nat.le_of_ble_eq_true rfl) rfl ?_
    refine ok_putI 92 dX12_text_89 rfl rfl F_EncoresModel_40 sg_123 rfl (Nat.le_of_ble_eq_true rfl) rfl rfl pZ_12_25 rfl rfl ?_
    refine ok_bndM (fun m_89 => ?_)
    refine ok_iconst 93 (-1) dX12_text_92 rfl rfl ?_
    exact ok_iret dX12_text_93 rfl
  · refine ok_aload_n 71 0 dX12_text_70 rfl rfl rfl ?_
    refine ok_iload_n 72 1 dX12_text_71 rfl rfl rfl ?_
    refine ok_callVi (np := 1) (M' := m_X12_putsText) (As := [.int a1]) (st := []) 75 dX12_text_72 rfl rfl km_X12_putsText ki_X12_putsText kv_X12_putsText ml_EncoresModel_274 (by decide) sg_123 rfl (Nat.le_of_ble_eq_true rfl) rfl rfl rfl (Nat.le_of_ble_eq_true rfl) (c_X12_putsText N (d + 47) a1 m_63) ⟨Nat.le_refl _, Nat.le_refl _⟩ (Or.inl rfl) rfl (fun r_72 m_72 _ => ?_)
    exact ok_iret dX12_text_75 rfl

set_option maxRecDepth 100000 in
set_option maxHeartbeats 4000000 in
theorem ok_X12_text (N d : Nat) (a1 : Int32)  (m : Mem) : Ok none SG (d + 49) m_X12_text 0 [some (.ref 123), some (.int a1), none] [] SG m (f_X12_text N a1 m) := by
  unfold f_X12_text
  refine ok_aload_n 1 0 dX12_text_0 rfl rfl rfl ?_
  refine ok_iconst 2 0 dX12_text_1 rfl rfl ?_
  refine ok_putI 5 dX12_text_2 rfl rfl F_EncoresModel_265 sg_123 rfl (Nat.le_of_ble_eq_true rfl) rfl rfl pZ_12_23 rfl rfl ?_
  refine ok_bndM (fun m_2 => ?_)
  refine ok_aload_n 6 0 dX12_text_5 rfl rfl rfl ?_
  refine ok_iconst 7 (-1) dX12_text_6 rfl rfl ?_
  refine ok_putI 10 dX12_text_7 rfl rfl F_EncoresModel_40 sg_123 rfl (Nat.le_of_ble_eq_true rfl) rfl rfl pZ_12_25 rfl rfl ?_
  refine ok_bndM (fun m_7 => ?_)
  refine ok_iload_n 11 1 dX12_text_10 rfl rfl rfl ?_
  refine ok_iconst 12 0 dX12_text_11 rfl rfl ?_
  refine ok_iconst 13 3 dX12_text_12 rfl rfl ?_
  refine ok_callSi (np := 3) (M' := m_X12_isIn) (As := [.int a1, .int 0, .int 3]) (st := []) 16 dX12_text_13 rfl rfl km_X12_isIn ks_X12_isIn ml_EncoresModel_56 (by decide) rfl rfl (Nat.le_of_ble_eq_true rfl) (c_X12_isIn N (d + 48) a1 0 3 m_7) ⟨Nat.le_refl _, Nat.le_refl _⟩ (Or.inl rfl) rfl (fun r_13 m_13 _ => ?_)
  refine ok_if_ne 26 19 dX12_text_16 (by decide) rfl (fun _ => ?_) (fun _ => ?_)
  · refine ok_aload_n 27 0 dX12_text_26 rfl rfl rfl ?_
    refine ok_iconst 28 0 dX12_text_27 rfl rfl ?_
    refine ok_putI 31 dX12_text_28 rfl rfl F_EncoresModel_177 sg_123 rfl (Nat.le_of_ble_eq_true rfl) rfl rfl pZ_12_21 rfl rfl ?_
    refine ok_bndM (fun m_28 => ?_)
    refine ok_aload_n 32 0 dX12_text_31 rfl rfl rfl ?_
    refine ok_iconst 33 0 dX12_text_32 rfl rfl ?_
    refine ok_putI 36 dX12_text_33 rfl rfl F_EncoresModel_81 sg_123 rfl (Nat.le_of_ble_eq_true rfl) rfl rfl pZ_12_17 rfl rfl ?_
    refine ok_bndM (fun m_33 => ?_)
    refine ok_aload_n 37 0 dX12_text_36 rfl rfl rfl ?_
    refine ok_iload_n 38 1 dX12_text_37 rfl rfl rfl ?_
    refine ok_putI 41 dX12_text_38 rfl rfl F_EncoresModel_146 sg_123 rfl (Nat.le_of_ble_eq_true rfl) rfl rfl pZ_12_12 rfl rfl ?_
    refine ok_bndM (fun m_38 => ?_)
    refine ok_aload_n 42 0 dX12_text_41 rfl rfl rfl ?_
    refine ok_callVv (np := 0) (M' := m_X12_next0) (As := []) (st := []) 45 dX12_text_42 rfl rfl km_X12_next0 ki_X12_next0 kv_X12_next0 ml_EncoresModel_186 (by decide) sg_123 rfl (Nat.le_of_ble_eq_true rfl) rfl rfl rfl (Nat.le_of_ble_eq_true rfl) (c_X12_next0 N (d + 40) m_38) ⟨Nat.le_refl _, Nat.le_refl _⟩ (Or.inl rfl) rfl (fun _ m_42 _ => ?_)
    refine ok_iload_n 46 1 dX12_text_45 rfl rfl rfl ?_
    refine ok_if_ne 56 49 dX12_text_46 (by decide) rfl (fun _ => ?_) (fun _ => ?_)
    · refine ok_aload_n 57 0 dX12_text_56 rfl rfl rfl ?_
      refine ok_callVi (np := 0) (M' := m_X12_readsRows) (As := []) (st := []) 60 dX12_text_57 rfl rfl km_X12_readsRows ki_X12_readsRows kv_X12_readsRows ml_EncoresModel_271 (by decide) sg_123 rfl (Nat.le_of_ble_eq_true rfl) rfl rfl rfl (Nat.le_of_ble_eq_true rfl) (c_X12_readsRows N (d + 35) m_42) ⟨Nat.le_refl _, Nat.le_refl _⟩ (Or.inl rfl) rfl (fun r_57 m_57 _ => ?_)
      exact ok_less [some (.ref 123), some (.int a1), none] (And.intro rfl (And.intro rfl (trivial))) (ok_X12_text_J60 N d a1   r_57 m_57)
    · refine ok_aload_n 50 0 dX12_text_49 rfl rfl rfl ?_
      refine ok_callVi (np := 0) (M' := m_X12_readsLaw) (As := []) (st := []) 53 dX12_text_50 rfl rfl km_X12_readsLaw ki_X12_readsLaw kv_X12_readsLaw ml_EncoresModel_268 (by decide) sg_123 rfl (Nat.le_of_ble_eq_true rfl) rfl rfl rfl (Nat.le_of_ble_eq_true rfl) (c_X12_readsLaw N (d + 0) m_42) ⟨Nat.le_refl _, Nat.le_refl _⟩ (Or.inl rfl) rfl (fun r_50 m_50 _ => ?_)
      refine ok_goto 60 dX12_text_53 (by decide) ?_
      exact ok_less [some (.ref 123), some (.int a1), none] (And.intro rfl (And.intro rfl (trivial))) (ok_X12_text_J60 N d a1   r_50 m_50)
  · refine ok_aload_n 20 0 dX12_text_19 rfl rfl rfl ?_
    refine ok_iconst 21 0 dX12_text_20 rfl rfl ?_
    refine ok_putI 24 dX12_text_21 rfl rfl F_EncoresModel_78 sg_123 rfl (Nat.le_of_ble_eq_true rfl) rfl rfl pZ_12_16 rfl rfl ?_
    refine ok_bndM (fun m_21 => ?_)
    refine ok_iconst 25 (-1) dX12_text_24 rfl rfl ?_
    exact ok_iret dX12_text_25 rfl

theorem c_X12_text (N d : Nat) (a1 : Int32)  (m : Mem) : CM (d + 49) m_X12_text SG SG [.ref 123, .int a1] m (f_X12_text N a1 m) :=
  CM.ofOk km_X12_text ⟨Nat.le_refl _, Nat.le_refl _⟩ (by simp [Value.category]) (Nat.le_of_ble_eq_true rfl) (ok_X12_text N d a1 m)

def f_X12_fault (N : Nat) (a1 : Int32) (m : Mem) : Ans :=
if a1 = 0 then (some (m 123 23, m))
else (if a1 = (1 : Int32) then (some (m 123 25, m))
else (some ((-1), m)))

set_option maxRecDepth 100000 in
set_option maxHeartbeats 4000000 in
theorem ok_X12_fault (N d : Nat) (a1 : Int32)  (m : Mem) : Ok none SG (d + 0) m_X12_fault 0 [some (.ref 123), some (.int a1)] [] SG m (f_X12_fault N a1 m) := by
  unfold f_X12_fault
  refine ok_iload_n 1 1 dX12_fault_0 rfl rfl rfl ?_
  refine ok_if_ne 11 4 dX12_fault_1 (by decide) rfl (fun _ => ?_) (fun _ => ?_)
  · refine ok_iload_n 12 1 dX12_fault_11 rfl rfl rfl ?_
    refine ok_iconst 13 1 dX12_fault_12 rfl rfl ?_
    refine ok_icmp_ne 23 16 dX12_fault_13 (by decide) rfl (fun _ => ?_) (fun _ => ?_)
    · refine ok_iconst 24 (-1) dX12_fault_23 rfl rfl ?_
      exact ok_iret dX12_fault_24 rfl
    · refine ok_aload_n 17 0 dX12_fault_16 rfl rfl rfl ?_
      refine ok_getI 20 dX12_fault_17 rfl rfl F_EncoresModel_40 sg_123 rfl (Nat.le_of_ble_eq_true rfl) rfl ?_
      refine ok_goto 24 dX12_fault_20 (by decide) ?_
      exact ok_iret dX12_fault_24 rfl
  · refine ok_aload_n 5 0 dX12_fault_4 rfl rfl rfl ?_
    refine ok_getI 8 dX12_fault_5 rfl rfl F_EncoresModel_265 sg_123 rfl (Nat.le_of_ble_eq_true rfl) rfl ?_
    refine ok_goto 24 dX12_fault_8 (by decide) ?_
    exact ok_iret dX12_fault_24 rfl

theorem c_X12_fault (N d : Nat) (a1 : Int32)  (m : Mem) : CM (d + 0) m_X12_fault SG SG [.ref 123, .int a1] m (f_X12_fault N a1 m) :=
  CM.ofOk km_X12_fault ⟨Nat.le_refl _, Nat.le_refl _⟩ (by simp [Value.category]) (Nat.le_of_ble_eq_true rfl) (ok_X12_fault N d a1 m)

def f_X12_both (N : Nat) (a0 : Int32) (a1 : Int32) (a2 : Int32) (m : Mem) : Ans :=
swt (Int32.toInt a0 - (23)) [(some ((a1 + a2), m)),
(some ((a1 - a2), m)),
(some ((a1 * a2), m)),
(some ((a1 ||| a2), m)),
(if a2 ≤ a1 then (some (0, m))
else (some (1, m))),
(if a1 = a2 then (some (1, m))
else (some (0, m))),
(if a1 ≤ a2 then (some (0, m))
else (some (1, m))),
(some ((a1 ||| a2), m)),
(some ((a1 &&& a2), m))] (some ((a1 ||| a2), m))

set_option maxRecDepth 100000 in
set_option maxHeartbeats 4000000 in
theorem ok_X12_both (N d : Nat) (a0 : Int32) (a1 : Int32) (a2 : Int32)  (m : Mem) : Ok none SG (d + 0) m_X12_both 0 [some (.int a0), some (.int a1), some (.int a2)] [] SG m (f_X12_both N a0 a1 a2 m) := by
  unfold f_X12_both
  refine ok_iload_n 1 0 dX12_both_0 rfl rfl rfl ?_
  refine ok_tsw 101 [52, 56, 60, 101, 64, 75, 86, 101, 97] dX12_both_1 (by decide) (by decide) (by decide) rfl ?_ ?_
  · refine And.intro ?_ (And.intro ?_ (And.intro ?_ (And.intro ?_ (And.intro ?_ (And.intro ?_ (And.intro ?_ (And.intro ?_ (And.intro ?_ (trivial)))))))))
    · refine ok_iload_n 53 1 dX12_both_52 rfl rfl rfl ?_
      refine ok_iload_n 54 2 dX12_both_53 rfl rfl rfl ?_
      refine ok_iadd 55 dX12_both_54 rfl ?_
      exact ok_iret dX12_both_55 rfl
    · refine ok_iload_n 57 1 dX12_both_56 rfl rfl rfl ?_
      refine ok_iload_n 58 2 dX12_both_57 rfl rfl rfl ?_
      refine ok_isub 59 dX12_both_58 rfl ?_
      exact ok_iret dX12_both_59 rfl
    · refine ok_iload_n 61 1 dX12_both_60 rfl rfl rfl ?_
      refine ok_iload_n 62 2 dX12_both_61 rfl rfl rfl ?_
      refine ok_imul 63 dX12_both_62 rfl ?_
      exact ok_iret dX12_both_63 rfl
    · refine ok_iload_n 102 1 dX12_both_101 rfl rfl rfl ?_
      refine ok_iload_n 103 2 dX12_both_102 rfl rfl rfl ?_
      refine ok_ior 104 dX12_both_103 rfl ?_
      exact ok_iret dX12_both_104 rfl
    · refine ok_iload_n 65 1 dX12_both_64 rfl rfl rfl ?_
      refine ok_iload_n 66 2 dX12_both_65 rfl rfl rfl ?_
      refine ok_icmp_ge 73 69 dX12_both_66 (by decide) rfl (fun _ => ?_) (fun _ => ?_)
      · refine ok_iconst 74 0 dX12_both_73 rfl rfl ?_
        exact ok_iret dX12_both_74 rfl
      · refine ok_iconst 70 1 dX12_both_69 rfl rfl ?_
        refine ok_goto 74 dX12_both_70 (by decide) ?_
        exact ok_iret dX12_both_74 rfl
    · refine ok_iload_n 76 1 dX12_both_75 rfl rfl rfl ?_
      refine ok_iload_n 77 2 dX12_both_76 rfl rfl rfl ?_
      refine ok_icmp_ne 84 80 dX12_both_77 (by decide) rfl (fun _ => ?_) (fun _ => ?_)
      · refine ok_iconst 85 0 dX12_both_84 rfl rfl ?_
        exact ok_iret dX12_both_85 rfl
      · refine ok_iconst 81 1 dX12_both_80 rfl rfl ?_
        refine ok_goto 85 dX12_both_81 (by decide) ?_
        exact ok_iret dX12_both_85 rfl
    · refine ok_iload_n 87 1 dX12_both_86 rfl rfl rfl ?_
      refine ok_iload_n 88 2 dX12_both_87 rfl rfl rfl ?_
      refine ok_icmp_le 95 91 dX12_both_88 (by decide) rfl (fun _ => ?_) (fun _ => ?_)
      · refine ok_iconst 96 0 dX12_both_95 rfl rfl ?_
        exact ok_iret dX12_both_96 rfl
      · refine ok_iconst 92 1 dX12_both_91 rfl rfl ?_
        refine ok_goto 96 dX12_both_92 (by decide) ?_
        exact ok_iret dX12_both_96 rfl
    · refine ok_iload_n 102 1 dX12_both_101 rfl rfl rfl ?_
      refine ok_iload_n 103 2 dX12_both_102 rfl rfl rfl ?_
      refine ok_ior 104 dX12_both_103 rfl ?_
      exact ok_iret dX12_both_104 rfl
    · refine ok_iload_n 98 1 dX12_both_97 rfl rfl rfl ?_
      refine ok_iload_n 99 2 dX12_both_98 rfl rfl rfl ?_
      refine ok_iand 100 dX12_both_99 rfl ?_
      exact ok_iret dX12_both_100 rfl
  · refine ok_iload_n 102 1 dX12_both_101 rfl rfl rfl ?_
    refine ok_iload_n 103 2 dX12_both_102 rfl rfl rfl ?_
    refine ok_ior 104 dX12_both_103 rfl ?_
    exact ok_iret dX12_both_104 rfl

theorem c_X12_both (N d : Nat) (a0 : Int32) (a1 : Int32) (a2 : Int32)  (m : Mem) : CM (d + 0) m_X12_both SG SG [.int a0, .int a1, .int a2] m (f_X12_both N a0 a1 a2 m) :=
  CM.ofOk km_X12_both ⟨Nat.le_refl _, Nat.le_refl _⟩ (by simp [Value.category]) (Nat.le_of_ble_eq_true rfl) (ok_X12_both N d a0 a1 a2 m)

def f_X12_comesTo_L6 (N : Nat) (a1 : Int32) (a2 : Int32) (a3 : Int32)   (X : Int32 → Int32 → Mem → Ans) (s4_6 : Int32) (s5_6 : Int32) (m : Mem) : Ans :=
if a3 ≤ s5_6 then (some (m 132 0, m))
else (chk (inb (((887 : Int32) + ((820 : Int32) * a1)) + ((2 : Int32) * s5_6)) 1707) <|
bnd (m 124 (((887 : Int32) + ((820 : Int32) * a1)) + ((2 : Int32) * s5_6)).toNatClampNeg) fun a6_31 =>
chk (inb ((((887 : Int32) + ((820 : Int32) * a1)) + ((2 : Int32) * s5_6)) + (1 : Int32)) 1707) <|
bnd (m 124 ((((887 : Int32) + ((820 : Int32) * a1)) + ((2 : Int32) * s5_6)) + (1 : Int32)).toNatClampNeg) fun a7_54 =>
if (23 : Int32) ≤ a6_31 then (if a6_31 = (26 : Int32) then (chk (inb (s4_6 - (1 : Int32)) 420) <|
chk (decide (a7_54 ≠ 0)) <|
chk (inb (s4_6 - (1 : Int32)) 420) <|
bnd (mset m 132 (s4_6 - (1 : Int32)).toNatClampNeg ((m 132 (s4_6 - (1 : Int32)).toNatClampNeg) / a7_54)) fun m_113 =>
X s4_6 (s5_6 + 1) m_113)
else (if a6_31 = (30 : Int32) then (chk (inb (s4_6 - (1 : Int32)) 420) <|
chk (inb (s4_6 - (1 : Int32)) 420) <|
bnd (mset m 132 (s4_6 - (1 : Int32)).toNatClampNeg ((1 : Int32) - (m 132 (s4_6 - (1 : Int32)).toNatClampNeg))) fun m_143 =>
X s4_6 (s5_6 + 1) m_143)
else (chk (inb ((s4_6 + (-1)) - (1 : Int32)) 420) <|
chk (inb (s4_6 + (-1)) 420) <|
bd (f_X12_both N a6_31 (m 132 ((s4_6 + (-1)) - (1 : Int32)).toNatClampNeg) (m 132 (s4_6 + (-1)).toNatClampNeg) m) fun r_176 m_176 =>
chk (inb ((s4_6 + (-1)) - (1 : Int32)) 420) <|
bnd (mset m_176 132 ((s4_6 + (-1)) - (1 : Int32)).toNatClampNeg r_176) fun m_179 =>
X (s4_6 + (-1)) (s5_6 + 1) m_179)))
else (if a6_31 = 0 then (chk (inb s4_6 420) <|
bnd (mset m 132 s4_6.toNatClampNeg a7_54) fun m_86 =>
X (s4_6 + 1) (s5_6 + 1) m_86)
else (chk (inb a6_31 11) <|
chk (inb s4_6 420) <|
bnd (mset m 132 s4_6.toNatClampNeg (m 133 a6_31.toNatClampNeg)) fun m_86 =>
X (s4_6 + 1) (s5_6 + 1) m_86)))

def f_X12_comesTo (N : Nat) (a1 : Int32) (a2 : Int32) (a3 : Int32) (m : Mem) : Ans :=
it2 (f_X12_comesTo_L6 N a1 a2 a3 ) N 0 a2 m

set_option maxRecDepth 100000 in
set_option maxHeartbeats 4000000 in
theorem ok_X12_comesTo_L6 (N d : Nat) (a1 : Int32) (a2 : Int32) (a3 : Int32)    : ∀ (n : Nat) (s4_6 : Int32) (s5_6 : Int32) (m : Mem), Ok none SG (d + 1) m_X12_comesTo 6 [some (.ref 123), some (.int a1), none, some (.int a3), some (.int s4_6), some (.int s5_6), none, none] [] SG m (it2 (f_X12_comesTo_L6 N a1 a2 a3) n s4_6 s5_6 m) :=
  ok_it2 (fun s4_6 s5_6 => [some (.ref 123), some (.int a1), none, some (.int a3), some (.int s4_6), some (.int s5_6), none, none]) (fun X hX s4_6 s5_6 m => by
    try unfold f_X12_comesTo_L6
    refine ok_iload 8 5 dX12_comesTo_6 rfl rfl ?_
    refine ok_iload_n 9 3 dX12_comesTo_8 rfl rfl rfl ?_
    refine ok_icmp_ge 186 12 dX12_comesTo_9 (by decide) rfl (fun _ => ?_) (fun _ => ?_)
    · refine ok_aload_n 187 0 dX12_comesTo_186 rfl rfl rfl ?_
      refine ok_getR 190 dX12_comesTo_187 rfl rfl F_EncoresModel_34 sg_123 rfl (Nat.le_of_ble_eq_true rfl) rfl rfl ?_
      refine ok_iconst 191 0 dX12_comesTo_190 rfl rfl ?_
      refine ok_ialdc 192 0 dX12_comesTo_191 rfl sg_132 (by decide) (by decide) ?_
      exact ok_iret dX12_comesTo_192 rfl
    · refine ok_aload_n 13 0 dX12_comesTo_12 rfl rfl rfl ?_
      refine ok_getR 16 dX12_comesTo_13 rfl rfl F_EncoresModel_7 sg_123 rfl (Nat.le_of_ble_eq_true rfl) rfl rfl ?_
      refine ok_sipush 19 887 dX12_comesTo_16 rfl rfl ?_
      refine ok_sipush 22 820 dX12_comesTo_19 rfl rfl ?_
      refine ok_iload_n 23 1 dX12_comesTo_22 rfl rfl rfl ?_
      refine ok_imul 24 dX12_comesTo_23 rfl ?_
      refine ok_iadd 25 dX12_comesTo_24 rfl ?_
      refine ok_iconst 26 2 dX12_comesTo_25 rfl rfl ?_
      refine ok_iload 28 5 dX12_comesTo_26 rfl rfl ?_
      refine ok_imul 29 dX12_comesTo_28 rfl ?_
      refine ok_iadd 30 dX12_comesTo_29 rfl ?_
      refine ok_iald 31 dX12_comesTo_30 rfl sg_124 ?_
      refine ok_bndI (fun a6_31 => ?_)
      refine ok_istore 33 6 [some (.ref 123), some (.int a1), none, some (.int a3), some (.int s4_6), some (.int s5_6), some (.int a6_31), none] dX12_comesTo_31 rfl (by decide) rfl ?_
      refine ok_aload_n 34 0 dX12_comesTo_33 rfl rfl rfl ?_
      refine ok_getR 37 dX12_comesTo_34 rfl rfl F_EncoresModel_7 sg_123 rfl (Nat.le_of_ble_eq_true rfl) rfl rfl ?_
      refine ok_sipush 40 887 dX12_comesTo_37 rfl rfl ?_
      refine ok_sipush 43 820 dX12_comesTo_40 rfl rfl ?_
      refine ok_iload_n 44 1 dX12_comesTo_43 rfl rfl rfl ?_
      refine ok_imul 45 dX12_comesTo_44 rfl ?_
      refine ok_iadd 46 dX12_comesTo_45 rfl ?_
      refine ok_iconst 47 2 dX12_comesTo_46 rfl rfl ?_
      refine ok_iload 49 5 dX12_comesTo_47 rfl rfl ?_
      refine ok_imul 50 dX12_comesTo_49 rfl ?_
      refine ok_iadd 51 dX12_comesTo_50 rfl ?_
      refine ok_iconst 52 1 dX12_comesTo_51 rfl rfl ?_
      refine ok_iadd 53 dX12_comesTo_52 rfl ?_
      refine ok_iald 54 dX12_comesTo_53 rfl sg_124 ?_
      refine ok_bndI (fun a7_54 => ?_)
      refine ok_istore 56 7 [some (.ref 123), some (.int a1), none, some (.int a3), some (.int s4_6), some (.int s5_6), some (.int a6_31), some (.int a7_54)] dX12_comesTo_54 rfl (by decide) rfl ?_
      refine ok_iload 58 6 dX12_comesTo_56 rfl rfl ?_
      refine ok_bipush 60 23 dX12_comesTo_58 rfl rfl ?_
      refine ok_icmp_ge 93 63 dX12_comesTo_60 (by decide) rfl (fun _ => ?_) (fun _ => ?_)
      · refine ok_iload 95 6 dX12_comesTo_93 rfl rfl ?_
        refine ok_bipush 97 26 dX12_comesTo_95 rfl rfl ?_
        refine ok_icmp_ne 117 100 dX12_comesTo_97 (by decide) rfl (fun _ => ?_) (fun _ => ?_)
        · refine ok_iload 119 6 dX12_comesTo_117 rfl rfl ?_
          refine ok_bipush 121 30 dX12_comesTo_119 rfl rfl ?_
          refine ok_icmp_ne 147 124 dX12_comesTo_121 (by decide) rfl (fun _ => ?_) (fun _ => ?_)
          · refine ok_iinc 150 4 (-1) [some (.ref 123), some (.int a1), none, some (.int a3), some (.int (s4_6 + (-1))), some (.int s5_6), some (.int a6_31), some (.int a7_54)] dX12_comesTo_147 rfl rfl rfl (by decide) rfl ?_
            refine ok_aload_n 151 0 dX12_comesTo_150 rfl rfl rfl ?_
            refine ok_getR 154 dX12_comesTo_151 rfl rfl F_EncoresModel_34 sg_123 rfl (Nat.le_of_ble_eq_true rfl) rfl rfl ?_
            refine ok_iload 156 4 dX12_comesTo_154 rfl rfl ?_
            refine ok_iconst 157 1 dX12_comesTo_156 rfl rfl ?_
            refine ok_isub 158 dX12_comesTo_157 rfl ?_
            refine ok_iload 160 6 dX12_comesTo_158 rfl rfl ?_
            refine ok_aload_n 161 0 dX12_comesTo_160 rfl rfl rfl ?_
            refine ok_getR 164 dX12_comesTo_161 rfl rfl F_EncoresModel_34 sg_123 rfl (Nat.le_of_ble_eq_true rfl) rfl rfl ?_
            refine ok_iload 166 4 dX12_comesTo_164 rfl rfl ?_
            refine ok_iconst 167 1 dX12_comesTo_166 rfl rfl ?_
            refine ok_isub 168 dX12_comesTo_167 rfl ?_
            refine ok_iald 169 dX12_comesTo_168 rfl sg_132 ?_
            refine ok_aload_n 170 0 dX12_comesTo_169 rfl rfl rfl ?_
            refine ok_getR 173 dX12_comesTo_170 rfl rfl F_EncoresModel_34 sg_123 rfl (Nat.le_of_ble_eq_true rfl) rfl rfl ?_
            refine ok_iload 175 4 dX12_comesTo_173 rfl rfl ?_
            refine ok_iald 176 dX12_comesTo_175 rfl sg_132 ?_
            refine ok_callSi (np := 3) (M' := m_X12_both) (As := [.int a6_31, .int (m 132 ((s4_6 + (-1)) - (1 : Int32)).toNatClampNeg), .int (m 132 (s4_6 + (-1)).toNatClampNeg)]) (st := [.int ((s4_6 + (-1)) - (1 : Int32)), .ref 132]) 179 dX12_comesTo_176 rfl rfl km_X12_both ks_X12_both ml_EncoresModel_277 (by decide) rfl rfl (Nat.le_of_ble_eq_true rfl) (c_X12_both N (d + 0) a6_31 (m 132 ((s4_6 + (-1)) - (1 : Int32)).toNatClampNeg) (m 132 (s4_6 + (-1)).toNatClampNeg) m) ⟨Nat.le_refl _, Nat.le_refl _⟩ (Or.inl rfl) rfl (fun r_176 m_176 _ => ?_)
            refine ok_iast 180 dX12_comesTo_179 rfl sg_132 ?_
            refine ok_bndM (fun m_179 => ?_)
            refine ok_iinc 183 5 1 [some (.ref 123), some (.int a1), none, some (.int a3), some (.int (s4_6 + (-1))), some (.int (s5_6 + 1)), some (.int a6_31), some (.int a7_54)] dX12_comesTo_180 rfl rfl rfl (by decide) rfl ?_
            refine ok_goto 6 dX12_comesTo_183 (by decide) ?_
            exact ok_less [some (.ref 123), some (.int a1), none, some (.int a3), some (.int (s4_6 + (-1))), some (.int (s5_6 + 1)), none, none] (And.intro rfl (And.intro rfl (And.intro rfl (And.intro rfl (And.intro rfl (trivial)))))) (hX (s4_6 + (-1)) (s5_6 + 1) m_179)
          · refine ok_aload_n 125 0 dX12_comesTo_124 rfl rfl rfl ?_
            refine ok_getR 128 dX12_comesTo_125 rfl rfl F_EncoresModel_34 sg_123 rfl (Nat.le_of_ble_eq_true rfl) rfl rfl ?_
            refine ok_iload 130 4 dX12_comesTo_128 rfl rfl ?_
            refine ok_iconst 131 1 dX12_comesTo_130 rfl rfl ?_
            refine ok_isub 132 dX12_comesTo_131 rfl ?_
            refine ok_iconst 133 1 dX12_comesTo_132 rfl rfl ?_
            refine ok_aload_n 134 0 dX12_comesTo_133 rfl rfl rfl ?_
            refine ok_getR 137 dX12_comesTo_134 rfl rfl F_EncoresModel_34 sg_123 rfl (Nat.le_of_ble_eq_true rfl) rfl rfl ?_
            refine ok_iload 139 4 dX12_comesTo_137 rfl rfl ?_
            refine ok_iconst 140 1 dX12_comesTo_139 rfl rfl ?_
            refine ok_isub 141 dX12_comesTo_140 rfl ?_
            refine ok_iald 142 dX12_comesTo_141 rfl sg_132 ?_
            refine ok_isub 143 dX12_comesTo_142 rfl ?_
            refine ok_iast 144 dX12_comesTo_143 rfl sg_132 ?_
            refine ok_bndM (fun m_143 => ?_)
            refine ok_goto 180 dX12_comesTo_144 (by decide) ?_
            refine ok_iinc 183 5 1 [some (.ref 123), some (.int a1), none, some (.int a3), some (.int s4_6), some (.int (s5_6 + 1)), some (.int a6_31), some (.int a7_54)] dX12_comesTo_180 rfl rfl rfl (by decide) rfl ?_
            refine ok_goto 6 dX12_comesTo_183 (by decide) ?_
            exact ok_less [some (.ref 123), some (.int a1), none, some (.int a3), some (.int s4_6), some (.int (s5_6 + 1)), none, none] (And.intro rfl (And.intro rfl (And.intro rfl (And.intro rfl (And.intro rfl (trivial)))))) (hX s4_6 (s5_6 + 1) m_143)
        · refine ok_aload_n 101 0 dX12_comesTo_100 rfl rfl rfl ?_
          refine ok_getR 104 dX12_comesTo_101 rfl rfl F_EncoresModel_34 sg_123 rfl (Nat.le_of_ble_eq_true rfl) rfl rfl ?_
          refine ok_iload 106 4 dX12_comesTo_104 rfl rfl ?_
          refine ok_iconst 107 1 dX12_comesTo_106 rfl rfl ?_
          refine ok_isub 108 dX12_comesTo_107 rfl ?_
          refine ok_dup2 109 dX12_comesTo_108 rfl rfl rfl ?_
          refine ok_iald 110 dX12_comesTo_109 rfl sg_132 ?_
          refine ok_iload 112 7 dX12_comesTo_110 rfl rfl ?_
          refine ok_idiv 113 dX12_comesTo_112 rfl ?_
          refine ok_iast 114 dX12_comesTo_113 rfl sg_132 ?_
          refine ok_bndM (fun m_113 => ?_)
          refine ok_goto 180 dX12_comesTo_114 (by decide) ?_
          refine ok_iinc 183 5 1 [some (.ref 123), some (.int a1), none, some (.int a3), some (.int s4_6), some (.int (s5_6 + 1)), some (.int a6_31), some (.int a7_54)] dX12_comesTo_180 rfl rfl rfl (by decide) rfl ?_
          refine ok_goto 6 dX12_comesTo_183 (by decide) ?_
          exact ok_less [some (.ref 123), some (.int a1), none, some (.int a3), some (.int s4_6), some (.int (s5_6 + 1)), none, none] (And.intro rfl (And.intro rfl (And.intro rfl (And.intro rfl (And.intro rfl (trivial)))))) (hX s4_6 (s5_6 + 1) m_113)
      · refine ok_aload_n 64 0 dX12_comesTo_63 rfl rfl rfl ?_
        refine ok_getR 67 dX12_comesTo_64 rfl rfl F_EncoresModel_34 sg_123 rfl (Nat.le_of_ble_eq_true rfl) rfl rfl ?_
        refine ok_iload 69 4 dX12_comesTo_67 rfl rfl ?_
        refine ok_iload 71 6 dX12_comesTo_69 rfl rfl ?_
        refine ok_if_ne 79 74 dX12_comesTo_71 (by decide) rfl (fun _ => ?_) (fun _ => ?_)
        · refine ok_aload_n 80 0 dX12_comesTo_79 rfl rfl rfl ?_
          refine ok_getR 83 dX12_comesTo_80 rfl rfl F_EncoresModel_37 sg_123 rfl (Nat.le_of_ble_eq_true rfl) rfl rfl ?_
          refine ok_iload 85 6 dX12_comesTo_83 rfl rfl ?_
          refine ok_iald 86 dX12_comesTo_85 rfl sg_133 ?_
          refine ok_iast 87 dX12_comesTo_86 rfl sg_132 ?_
          refine ok_bndM (fun m_86 => ?_)
          refine ok_iinc 90 4 1 [some (.ref 123), some (.int a1), none, some (.int a3), some (.int (s4_6 + 1)), some (.int s5_6), some (.int a6_31), some (.int a7_54)] dX12_comesTo_87 rfl rfl rfl (by decide) rfl ?_
          refine ok_goto 180 dX12_comesTo_90 (by decide) ?_
          refine ok_iinc 183 5 1 [some (.ref 123), some (.int a1), none, some (.int a3), some (.int (s4_6 + 1)), some (.int (s5_6 + 1)), some (.int a6_31), some (.int a7_54)] dX12_comesTo_180 rfl rfl rfl (by decide) rfl ?_
          refine ok_goto 6 dX12_comesTo_183 (by decide) ?_
          exact ok_less [some (.ref 123), some (.int a1), none, some (.int a3), some (.int (s4_6 + 1)), some (.int (s5_6 + 1)), none, none] (And.intro rfl (And.intro rfl (And.intro rfl (And.intro rfl (And.intro rfl (trivial)))))) (hX (s4_6 + 1) (s5_6 + 1) m_86)
        · refine ok_iload 76 7 dX12_comesTo_74 rfl rfl ?_
          refine ok_goto 86 dX12_comesTo_76 (by decide) ?_
          refine ok_iast 87 dX12_comesTo_86 rfl sg_132 ?_
          refine ok_bndM (fun m_86 => ?_)
          refine ok_iinc 90 4 1 [some (.ref 123), some (.int a1), none, some (.int a3), some (.int (s4_6 + 1)), some (.int s5_6), some (.int a6_31), some (.int a7_54)] dX12_comesTo_87 rfl rfl rfl (by decide) rfl ?_
          refine ok_goto 180 dX12_comesTo_90 (by decide) ?_
          refine ok_iinc 183 5 1 [some (.ref 123), some (.int a1), none, some (.int a3), some (.int (s4_6 + 1)), some (.int (s5_6 + 1)), some (.int a6_31), some (.int a7_54)] dX12_comesTo_180 rfl rfl rfl (by decide) rfl ?_
          refine ok_goto 6 dX12_comesTo_183 (by decide) ?_
          exact ok_less [some (.ref 123), some (.int a1), none, some (.int a3), some (.int (s4_6 + 1)), some (.int (s5_6 + 1)), none, none] (And.intro rfl (And.intro rfl (And.intro rfl (And.intro rfl (And.intro rfl (trivial)))))) (hX (s4_6 + 1) (s5_6 + 1) m_86))

set_option maxRecDepth 100000 in
set_option maxHeartbeats 4000000 in
theorem ok_X12_comesTo (N d : Nat) (a1 : Int32) (a2 : Int32) (a3 : Int32)  (m : Mem) : Ok none SG (d + 1) m_X12_comesTo 0 [some (.ref 123), some (.int a1), some (.int a2), some (.int a3), none, none, none, none] [] SG m (f_X12_comesTo N a1 a2 a3 m) := by
  unfold f_X12_comesTo
  refine ok_iconst 1 0 dX12_comesTo_0 rfl rfl ?_
  refine ok_istore 3 4 [some (.ref 123), some (.int a1), some (.int a2), some (.int a3), some (.int 0), none, none, none] dX12_comesTo_1 rfl (by decide) rfl ?_
  refine ok_iload_n 4 2 dX12_comesTo_3 rfl rfl rfl ?_
  refine ok_istore 6 5 [some (.ref 123), some (.int a1), some (.int a2), some (.int a3), some (.int 0), some (.int a2), none, none] dX12_comesTo_4 rfl (by decide) rfl ?_
  refine ok_less [some (.ref 123), some (.int a1), none, some (.int a3), some (.int 0), some (.int a2), none, none] (And.intro rfl (And.intro rfl (And.intro rfl (And.intro rfl (And.intro rfl (trivial)))))) ?_
  exact ok_X12_comesTo_L6 N d a1 a2 a3    N 0 a2 m

theorem c_X12_comesTo (N d : Nat) (a1 : Int32) (a2 : Int32) (a3 : Int32)  (m : Mem) : CM (d + 1) m_X12_comesTo SG SG [.ref 123, .int a1, .int a2, .int a3] m (f_X12_comesTo N a1 a2 a3 m) :=
  CM.ofOk km_X12_comesTo ⟨Nat.le_refl _, Nat.le_refl _⟩ (by simp [Value.category]) (Nat.le_of_ble_eq_true rfl) (ok_X12_comesTo N d a1 a2 a3 m)

