
set_option maxRecDepth 100000 in
set_option maxHeartbeats 4000000 in
theorem m_portNow {G : bpG} {C : bpC} {M : bpM} {hl : Int64} {k p w : Nat} (hI : Inv M k) (hp : p < np M) (hw : w < 10) : Ct G yX5_portNow cX5_portNow 4 (some .int) rmX5_portNow [.ref (G.1 11 0), .int (nI p), .int (nI w)] C M hl (qI C M hl (ofV M p w)) := by
  have hn6 := hI.2.2.1.1.2.1
  have hp6 : p < 6 := by omega
  have hp1 := hI.2.2.1.2 p hp
  refine ct_of [some (.ref (G.1 11 0)), some (.int (nI p)), some (.int (nI w)), none] (by decide +kernel) rfl rfl (Nat.le_of_ble_eq_true rfl) ?_
  intro κ X Z
  refine r_aload_n X dX5_portNow_0 rfl ?_
  refine r_gam 6 X wfl_X5_23 dX5_portNow_1 (by decide) rfl ?_
  refine r_iload_n X dX5_portNow_4 rfl ?_
  refine r_iaM _ X rfl (by assumption) dX5_portNow_5 (by decide) rfl rfl rfl ?_
  refine r_ifle 13 X dX5_portNow_6 (by decide) (fun c6 => ?_) (fun c6 => ?_)
  · show Rn G κ 13 _ _ _ _ _
    refine r_iconst (0) X dX5_portNow_13 (by decide) ?_
    refine r_istore_3 X dX5_portNow_14 rfl ?_
    refine r_iload_n X dX5_portNow_15 rfl ?_
    rcases (show w = 0 ∨ w = 1 ∨ w = 2 ∨ w = 3 ∨ w = 4 ∨ w = 5 ∨ w = 6 ∨ w = 7 ∨ w = 8 ∨ w = 9 by omega) with rfl | rfl | rfl | rfl | rfl | rfl | rfl | rfl | rfl | rfl
    · refine r_tblIn (off := 52) 68 X dX5_portNow_16 (by decide) (by decide) (by decide) (by decide) ?_
      refine r_aload_n X dX5_portNow_68 rfl ?_
      refine r_gam 3 X wfl_X5_13 dX5_portNow_69 (by decide) rfl ?_
      refine r_iload_n X dX5_portNow_72 rfl ?_
      refine r_iaM _ X rfl (by assumption) dX5_portNow_73 (by decide) rfl rfl rfl ?_
      refine r_iret X Z dX5_portNow_74 ?_
      refine ⟨rfl, rfl, rfl, ret_i ?_⟩
      rfl
    · refine r_tblIn (off := 59) 75 X dX5_portNow_16 (by decide) (by decide) (by decide) (by decide) ?_
      refine r_aload_n X dX5_portNow_75 rfl ?_
      refine r_gam 4 X wfl_X5_16 dX5_portNow_76 (by decide) rfl ?_
      refine r_iload_n X dX5_portNow_79 rfl ?_
      refine r_iaM _ X rfl (by assumption) dX5_portNow_80 (by decide) rfl rfl rfl ?_
      refine r_iret X Z dX5_portNow_81 ?_
      refine ⟨rfl, rfl, rfl, ret_i ?_⟩
      rfl
    · refine r_tblIn (off := 66) 82 X dX5_portNow_16 (by decide) (by decide) (by decide) (by decide) ?_
      refine r_aload_n X dX5_portNow_82 rfl ?_
      refine r_gam 5 X wfl_X5_19 dX5_portNow_83 (by decide) rfl ?_
      refine r_iload_n X dX5_portNow_86 rfl ?_
      refine r_zaM _ X rfl (by assumption) dX5_portNow_87 (by decide) rfl rfl rfl ?_
      refine r_ifeq 95 X dX5_portNow_88 (by decide) (fun c88 => ?_) (fun c88 => ?_)
      · show Rn G κ 95 _ _ _ _ _
        refine r_iconst (0) X dX5_portNow_95 (by decide) ?_
        refine r_iret X Z dX5_portNow_96 ?_
        refine ⟨rfl, rfl, rfl, ret_i ?_⟩
        exact c88.symm
      · show Rn G κ 91 _ _ _ _ _
        refine r_iconst (1) X dX5_portNow_91 (by decide) ?_
        refine r_goto 96 X dX5_portNow_92 (by decide) ?_
        refine r_iret X Z dX5_portNow_96 ?_
        refine ⟨rfl, rfl, rfl, ret_i ?_⟩
        exact (hp1.2.1.resolve_left c88).symm
    · refine r_tblIn (off := 81) 97 X dX5_portNow_16 (by decide) (by decide) (by decide) (by decide) ?_
      refine r_iload_n X dX5_portNow_97 rfl ?_
      refine r_ifeq 110 X dX5_portNow_98 (by decide) (fun c98 => ?_) (fun c98 => absurd rfl c98)
      show Rn G κ 110 _ _ _ _ _
      refine r_iconst (-1) X dX5_portNow_110 (by decide) ?_
      refine r_iret X Z dX5_portNow_111 ?_
      refine ⟨rfl, rfl, rfl, ret_i ?_⟩
      show _ = hrd M p _
      unfold hrd
      rw [if_neg (by rw [i_lt, i_0]; rw [i_le, i_0] at c6; omega)]
    · refine r_tblIn (off := 96) 112 X dX5_portNow_16 (by decide) (by decide) (by decide) (by decide) ?_
      refine r_iload_n X dX5_portNow_112 rfl ?_
      refine r_ifeq 125 X dX5_portNow_113 (by decide) (fun c113 => ?_) (fun c113 => absurd rfl c113)
      show Rn G κ 125 _ _ _ _ _
      refine r_iconst (-1) X dX5_portNow_125 (by decide) ?_
      refine r_iret X Z dX5_portNow_126 ?_
      refine ⟨rfl, rfl, rfl, ret_i ?_⟩
      show _ = hrd M p _
      unfold hrd
      rw [if_neg (by rw [i_lt, i_0]; rw [i_le, i_0] at c6; omega)]
    · refine r_tblIn (off := 111) 127 X dX5_portNow_16 (by decide) (by decide) (by decide) (by decide) ?_
      refine r_iload_n X dX5_portNow_127 rfl ?_
      refine r_ifne 135 X dX5_portNow_128 (by decide) (fun c128 => absurd rfl c128) (fun c128 => ?_)
      show Rn G κ 131 _ _ _ _ _
      refine r_iconst (-1) X dX5_portNow_131 (by decide) ?_
      refine r_goto 149 X dX5_portNow_132 (by decide) ?_
      refine r_iret X Z dX5_portNow_149 ?_
      refine ⟨rfl, rfl, rfl, ret_i ?_⟩
      show _ = hrd M p _
      unfold hrd
      rw [if_neg (by rw [i_lt, i_0]; rw [i_le, i_0] at c6; omega)]
    · refine r_tblIn (off := 134) 150 X dX5_portNow_16 (by decide) (by decide) (by decide) (by decide) ?_
      refine r_iload_n X dX5_portNow_150 rfl ?_
      refine r_ifeq 163 X dX5_portNow_151 (by decide) (fun c151 => ?_) (fun c151 => absurd rfl c151)
      show Rn G κ 163 _ _ _ _ _
      refine r_iconst (-1) X dX5_portNow_163 (by decide) ?_
      refine r_iret X Z dX5_portNow_164 ?_
      refine ⟨rfl, rfl, rfl, ret_i ?_⟩
      show _ = hrd M p _
      unfold hrd
      rw [if_neg (by rw [i_lt, i_0]; rw [i_le, i_0] at c6; omega)]
    · refine r_tblIn (off := 149) 165 X dX5_portNow_16 (by decide) (by decide) (by decide) (by decide) ?_
      refine r_aload_n X dX5_portNow_165 rfl ?_
      refine r_iload_n X dX5_portNow_166 rfl ?_
      refine r_cv1_I X mdX5_stateOf wml_X5_129 dX5_portNow_167 ⟨rfl, rfl, Nat.le_of_ble_eq_true rfl, Nat.le_of_ble_eq_true rfl⟩ (by decide) rfl rfl (Nat.le_of_ble_eq_true rfl) rfl (zroom Z) (m_stateOf hI.2.2.1.1 hp) ?_
      show Rn G κ 170 _ _ _ _ _
      refine r_iret X Z dX5_portNow_170 ?_
      refine ⟨rfl, rfl, rfl, ret_i ?_⟩
      rfl
    · refine r_tblIn (off := 155) 171 X dX5_portNow_16 (by decide) (by decide) (by decide) (by decide) ?_
      refine r_aload_n X dX5_portNow_171 rfl ?_
      refine r_gam 10 X wfl_X5_35 dX5_portNow_172 (by decide) rfl ?_
      refine r_iload_n X dX5_portNow_175 rfl ?_
      refine r_iaM _ X rfl (by assumption) dX5_portNow_176 (by decide) rfl rfl rfl ?_
      refine r_iret X Z dX5_portNow_177 ?_
      refine ⟨rfl, rfl, rfl, ret_i ?_⟩
      rfl
    · refine r_tblOut 178 X dX5_portNow_16 (by decide) (by decide) ?_
      refine r_aload_n X dX5_portNow_178 rfl ?_
      refine r_gam 17 X wfl_X5_51 dX5_portNow_179 (by decide) rfl ?_
      refine r_iload_n X dX5_portNow_182 rfl ?_
      refine r_iaM _ X rfl (by assumption) dX5_portNow_183 (by decide) rfl rfl rfl ?_
      refine r_iret X Z dX5_portNow_184 ?_
      refine ⟨rfl, rfl, rfl, ret_i ?_⟩
      rfl
  · show Rn G κ 9 _ _ _ _ _
    refine r_iconst (1) X dX5_portNow_9 (by decide) ?_
    refine r_goto 14 X dX5_portNow_10 (by decide) ?_
    refine r_istore_3 X dX5_portNow_14 rfl ?_
    refine r_iload_n X dX5_portNow_15 rfl ?_
    rcases (show w = 0 ∨ w = 1 ∨ w = 2 ∨ w = 3 ∨ w = 4 ∨ w = 5 ∨ w = 6 ∨ w = 7 ∨ w = 8 ∨ w = 9 by omega) with rfl | rfl | rfl | rfl | rfl | rfl | rfl | rfl | rfl | rfl
    · refine r_tblIn (off := 52) 68 X dX5_portNow_16 (by decide) (by decide) (by decide) (by decide) ?_
      refine r_aload_n X dX5_portNow_68 rfl ?_
      refine r_gam 3 X wfl_X5_13 dX5_portNow_69 (by decide) rfl ?_
      refine r_iload_n X dX5_portNow_72 rfl ?_
      refine r_iaM _ X rfl (by assumption) dX5_portNow_73 (by decide) rfl rfl rfl ?_
      refine r_iret X Z dX5_portNow_74 ?_
      refine ⟨rfl, rfl, rfl, ret_i ?_⟩
      rfl
    · refine r_tblIn (off := 59) 75 X dX5_portNow_16 (by decide) (by decide) (by decide) (by decide) ?_
      refine r_aload_n X dX5_portNow_75 rfl ?_
      refine r_gam 4 X wfl_X5_16 dX5_portNow_76 (by decide) rfl ?_
      refine r_iload_n X dX5_portNow_79 rfl ?_
      refine r_iaM _ X rfl (by assumption) dX5_portNow_80 (by decide) rfl rfl rfl ?_
      refine r_iret X Z dX5_portNow_81 ?_
      refine ⟨rfl, rfl, rfl, ret_i ?_⟩
      rfl
    · refine r_tblIn (off := 66) 82 X dX5_portNow_16 (by decide) (by decide) (by decide) (by decide) ?_
      refine r_aload_n X dX5_portNow_82 rfl ?_
      refine r_gam 5 X wfl_X5_19 dX5_portNow_83 (by decide) rfl ?_
      refine r_iload_n X dX5_portNow_86 rfl ?_
      refine r_zaM _ X rfl (by assumption) dX5_portNow_87 (by decide) rfl rfl rfl ?_
      refine r_ifeq 95 X dX5_portNow_88 (by decide) (fun c88 => ?_) (fun c88 => ?_)
      · show Rn G κ 95 _ _ _ _ _
        refine r_iconst (0) X dX5_portNow_95 (by decide) ?_
        refine r_iret X Z dX5_portNow_96 ?_
        refine ⟨rfl, rfl, rfl, ret_i ?_⟩
        exact c88.symm
      · show Rn G κ 91 _ _ _ _ _
        refine r_iconst (1) X dX5_portNow_91 (by decide) ?_
        refine r_goto 96 X dX5_portNow_92 (by decide) ?_
        refine r_iret X Z dX5_portNow_96 ?_
        refine ⟨rfl, rfl, rfl, ret_i ?_⟩
        exact (hp1.2.1.resolve_left c88).symm
    · refine r_tblIn (off := 81) 97 X dX5_portNow_16 (by decide) (by decide) (by decide) (by decide) ?_
      refine r_iload_n X dX5_portNow_97 rfl ?_
      refine r_ifeq 110 X dX5_portNow_98 (by decide) (fun c98 => absurd c98 (by decide)) (fun c98 => ?_)
      show Rn G κ 101 _ _ _ _ _
      refine r_aload_n X dX5_portNow_101 rfl ?_
      refine r_gam 6 X wfl_X5_23 dX5_portNow_102 (by decide) rfl ?_
      refine r_iload_n X dX5_portNow_105 rfl ?_
      refine r_iaM _ X rfl (by assumption) dX5_portNow_106 (by decide) rfl rfl rfl ?_
      refine r_goto 111 X dX5_portNow_107 (by decide) ?_
      show Rn G κ 111 _ _ _ _ _
      refine r_iret X Z dX5_portNow_111 ?_
      refine ⟨rfl, rfl, rfl, ret_i ?_⟩
      show _ = hrd M p _
      unfold hrd
      rw [if_pos (by rw [i_lt, i_0]; rw [i_le, i_0] at c6; omega)]
    · refine r_tblIn (off := 96) 112 X dX5_portNow_16 (by decide) (by decide) (by decide) (by decide) ?_
      refine r_iload_n X dX5_portNow_112 rfl ?_
      refine r_ifeq 125 X dX5_portNow_113 (by decide) (fun c113 => absurd c113 (by decide)) (fun c113 => ?_)
      show Rn G κ 116 _ _ _ _ _
      refine r_aload_n X dX5_portNow_116 rfl ?_
      refine r_gam 7 X wfl_X5_26 dX5_portNow_117 (by decide) rfl ?_
      refine r_iload_n X dX5_portNow_120 rfl ?_
      refine r_iaM _ X rfl (by assumption) dX5_portNow_121 (by decide) rfl rfl rfl ?_
      refine r_goto 126 X dX5_portNow_122 (by decide) ?_
      show Rn G κ 126 _ _ _ _ _
      refine r_iret X Z dX5_portNow_126 ?_
      refine ⟨rfl, rfl, rfl, ret_i ?_⟩
      show _ = hrd M p _
      unfold hrd
      rw [if_pos (by rw [i_lt, i_0]; rw [i_le, i_0] at c6; omega)]
    · refine r_tblIn (off := 111) 127 X dX5_portNow_16 (by decide) (by decide) (by decide) (by decide) ?_
      refine r_iload_n X dX5_portNow_127 rfl ?_
      refine r_ifne 135 X dX5_portNow_128 (by decide) (fun c128 => ?_) (fun c128 => absurd c128 (by decide))
      show Rn G κ 135 _ _ _ _ _
      refine r_aload_n X dX5_portNow_135 rfl ?_
      refine r_gam 8 X wfl_X5_29 dX5_portNow_136 (by decide) rfl ?_
      refine r_iload_n X dX5_portNow_139 rfl ?_
      refine r_zaM _ X rfl (by assumption) dX5_portNow_140 (by decide) rfl rfl rfl ?_
      refine r_ifeq 148 X dX5_portNow_141 (by decide) (fun c141 => ?_) (fun c141 => ?_)
      · show Rn G κ 148 _ _ _ _ _
        refine r_iconst (0) X dX5_portNow_148 (by decide) ?_
        refine r_iret X Z dX5_portNow_149 ?_
        refine ⟨rfl, rfl, rfl, ret_i ?_⟩
        show _ = hrd M p _
        unfold hrd
        rw [if_pos (by rw [i_lt, i_0]; rw [i_le, i_0] at c6; omega)]
        exact c141.symm
      · show Rn G κ 144 _ _ _ _ _
        refine r_iconst (1) X dX5_portNow_144 (by decide) ?_
        refine r_goto 149 X dX5_portNow_145 (by decide) ?_
        refine r_iret X Z dX5_portNow_149 ?_
        refine ⟨rfl, rfl, rfl, ret_i ?_⟩
        show _ = hrd M p _
        unfold hrd
        rw [if_pos (by rw [i_lt, i_0]; rw [i_le, i_0] at c6; omega)]
        exact (hp1.2.2.1.resolve_left c141).symm
    · refine r_tblIn (off := 134) 150 X dX5_portNow_16 (by decide) (by decide) (by decide) (by decide) ?_
      refine r_iload_n X dX5_portNow_150 rfl ?_
      refine r_ifeq 163 X dX5_portNow_151 (by decide) (fun c151 => absurd c151 (by decide)) (fun c151 => ?_)
      show Rn G κ 154 _ _ _ _ _
      refine r_aload_n X dX5_portNow_154 rfl ?_
      refine r_gam 9 X wfl_X5_32 dX5_portNow_155 (by decide) rfl ?_
      refine r_iload_n X dX5_portNow_158 rfl ?_
      refine r_iaM _ X rfl (by assumption) dX5_portNow_159 (by decide) rfl rfl rfl ?_
      refine r_goto 164 X dX5_portNow_160 (by decide) ?_
      show Rn G κ 164 _ _ _ _ _
      refine r_iret X Z dX5_portNow_164 ?_
      refine ⟨rfl, rfl, rfl, ret_i ?_⟩
      show _ = hrd M p _
      unfold hrd
      rw [if_pos (by rw [i_lt, i_0]; rw [i_le, i_0] at c6; omega)]
    · refine r_tblIn (off := 149) 165 X dX5_portNow_16 (by decide) (by decide) (by decide) (by decide) ?_
      refine r_aload_n X dX5_portNow_165 rfl ?_
      refine r_iload_n X dX5_portNow_166 rfl ?_
      refine r_cv1_I X mdX5_stateOf wml_X5_129 dX5_portNow_167 ⟨rfl, rfl, Nat.le_of_ble_eq_true rfl, Nat.le_of_ble_eq_true rfl⟩ (by decide) rfl rfl (Nat.le_of_ble_eq_true rfl) rfl (zroom Z) (m_stateOf hI.2.2.1.1 hp) ?_
      show Rn G κ 170 _ _ _ _ _
      refine r_iret X Z dX5_portNow_170 ?_
      refine ⟨rfl, rfl, rfl, ret_i ?_⟩
      rfl
    · refine r_tblIn (off := 155) 171 X dX5_portNow_16 (by decide) (by decide) (by decide) (by decide) ?_
      refine r_aload_n X dX5_portNow_171 rfl ?_
      refine r_gam 10 X wfl_X5_35 dX5_portNow_172 (by decide) rfl ?_
      refine r_iload_n X dX5_portNow_175 rfl ?_
      refine r_iaM _ X rfl (by assumption) dX5_portNow_176 (by decide) rfl rfl rfl ?_
      refine r_iret X Z dX5_portNow_177 ?_
      refine ⟨rfl, rfl, rfl, ret_i ?_⟩
      rfl
    · refine r_tblOut 178 X dX5_portNow_16 (by decide) (by decide) ?_
      refine r_aload_n X dX5_portNow_178 rfl ?_
      refine r_gam 17 X wfl_X5_51 dX5_portNow_179 (by decide) rfl ?_
      refine r_iload_n X dX5_portNow_182 rfl ?_
      refine r_iaM _ X rfl (by assumption) dX5_portNow_183 (by decide) rfl rfl rfl ?_
      refine r_iret X Z dX5_portNow_184 ?_
      refine ⟨rfl, rfl, rfl, ret_i ?_⟩
      rfl
set_option maxRecDepth 100000 in
set_option maxHeartbeats 4000000 in
theorem m_of {G : bpG} {C : bpC} {M : bpM} {hl : Int64} {k : Nat} {x w : Int32} (hI : Inv M k) : Ct G yX5_of cX5_of 3 (some .int) rmX5_of [.ref (G.1 11 0), .int x, .int w] C M hl (qI C M hl (ofS M x w)) := by
  refine ct_of [some (.ref (G.1 11 0)), some (.int x), some (.int w)] (by decide +kernel) rfl rfl (Nat.le_of_ble_eq_true rfl) ?_
  intro κ X Z
  refine r_aload_n X dX5_of_0 rfl ?_
  refine r_iload_n X dX5_of_1 rfl ?_
  refine r_cv1_I X mdX5_isPort wml_X5_141 dX5_of_2 ⟨rfl, rfl, Nat.le_of_ble_eq_true rfl, Nat.le_of_ble_eq_true rfl⟩ (by decide) rfl rfl (Nat.le_of_ble_eq_true rfl) rfl (zroom Z) (m_isPort hI.2.2.1.1) ?_
  show Rn G κ 5 _ _ _ _ _
  refine r_ifne 12 X dX5_of_5 (by decide) (fun c5 => ?_) (fun c5 => ?_)
  · have hx := bI_1 c5
    obtain ⟨p, hp, rfl⟩ := isP_of hI.2.2.1.1 hx
    have hn6 := hI.2.2.1.1.2.1
    have hp6 : p < 6 := by omega
    show Rn G κ 12 _ _ _ _ _
    refine r_iload_n X dX5_of_12 rfl ?_
    refine r_iconst (0) X dX5_of_13 (by decide) ?_
    refine r_bipush (9) X dX5_of_14 (by decide) ?_
    refine r_cs3_I X mdX5_within wml_X5_84 dX5_of_16 ⟨rfl, rfl, Nat.le_of_ble_eq_true rfl, Nat.le_of_ble_eq_true rfl⟩ (Nat.le_of_ble_eq_true rfl) rfl (zroom Z) (m_within) ?_
    show Rn G κ 19 _ _ _ _ _
    refine r_ifeq 31 X dX5_of_19 (by decide) (fun c19 => ?_) (fun c19 => ?_)
    · show Rn G κ 31 _ _ _ _ _
      refine r_sipush (-1002) X dX5_of_31 (by decide) ?_
      refine r_iret X Z dX5_of_34 ?_
      refine ⟨rfl, rfl, rfl, ret_i ?_⟩
      have h := bI_0 c19
      rw [Bool.and_eq_false_iff, decide_eq_false_iff_not, decide_eq_false_iff_not] at h
      unfold ofS
      rw [if_pos hx, if_neg (fun z => h.elim (fun q => q z.1) (fun q => q z.2))]
    · have h := bI_1 c19
      rw [Bool.and_eq_true, decide_eq_true_eq, decide_eq_true_eq] at h
      obtain ⟨w, hw2, rfl⟩ := rng_of (n := 9) (by decide) h.1 h.2
      show Rn G κ 22 _ _ _ _ _
      refine r_aload_n X dX5_of_22 rfl ?_
      refine r_iload_n X dX5_of_23 rfl ?_
      refine r_iload_n X dX5_of_24 rfl ?_
      refine r_cv2_I X mdX5_portNow wml_X5_147 dX5_of_25 ⟨rfl, rfl, Nat.le_of_ble_eq_true rfl, Nat.le_of_ble_eq_true rfl⟩ (by decide) rfl rfl (Nat.le_of_ble_eq_true rfl) rfl (zroom Z) (m_portNow hI hp (show w < 10 by omega)) ?_
      show Rn G κ 28 _ _ _ _ _
      refine r_goto 34 X dX5_of_28 (by decide) ?_
      refine r_iret X Z dX5_of_34 ?_
      refine ⟨rfl, rfl, rfl, ret_i ?_⟩
      rw [ofS_in hx hp6 (by omega)]
  · show Rn G κ 8 _ _ _ _ _
    refine r_sipush (-1001) X dX5_of_8 (by decide) ?_
    refine r_iret X Z dX5_of_11 ?_
    refine ⟨rfl, rfl, rfl, ret_i ?_⟩
    unfold ofS
    rw [if_neg (by rw [bI_0 c5]; decide)]
set_option maxRecDepth 100000 in
set_option maxHeartbeats 4000000 in
theorem m_queueNow {G : bpG} {C : bpC} {M : bpM} {hl : Int64} {p j : Nat} (hp : p < 6) (hj : j < 20) : Ct G yX5_queueNow cX5_queueNow 5 (some .int) rmX5_queueNow [.ref (G.1 11 0), .int (nI p), .int (nI j)] C M hl (qI C M hl (qV M p j)) := by
  have hix : 24 * p + j < 144 := by omega
  have e : (24 : Int32) * nI p + nI j = nI (24 * p + j) := (congrArg (· + nI j) (pk_mul 24 p)).trans (nI_add _ _)
  refine ct_of [some (.ref (G.1 11 0)), some (.int (nI p)), some (.int (nI j)), none, none] (by decide +kernel) rfl rfl (Nat.le_of_ble_eq_true rfl) ?_
  intro κ X Z
  refine r_aload_n X dX5_queueNow_0 rfl ?_
  refine r_gam 15 X wfl_X5_45 dX5_queueNow_1 (by decide) rfl ?_
  refine r_bipush (24) X dX5_queueNow_4 (by decide) ?_
  refine r_iload_n X dX5_queueNow_6 rfl ?_
  refine r_imul X dX5_queueNow_7 ?_
  refine r_iload_n X dX5_queueNow_8 rfl ?_
  refine r_iadd X dX5_queueNow_9 ?_
  show Rn G κ 10 _ _ _ _ _
  refine r_iaM (24 * p + j) X e (by assumption) dX5_queueNow_10 (by decide) rfl rfl rfl ?_
  refine r_istore_3 X dX5_queueNow_11 rfl ?_
  refine r_aload_n X dX5_queueNow_12 rfl ?_
  refine r_gam 16 X wfl_X5_48 dX5_queueNow_13 (by decide) rfl ?_
  refine r_bipush (24) X dX5_queueNow_16 (by decide) ?_
  refine r_iload_n X dX5_queueNow_18 rfl ?_
  refine r_imul X dX5_queueNow_19 ?_
  refine r_iload_n X dX5_queueNow_20 rfl ?_
  show Rn G κ 21 _ _ _ _ _
  refine r_iadd X dX5_queueNow_21 ?_
  refine r_iaM (24 * p + j) X e (by assumption) dX5_queueNow_22 (by decide) rfl rfl rfl ?_
  refine r_istore_4 X dX5_queueNow_23 rfl ?_
  refine r_iload X dX5_queueNow_25 rfl ?_
  refine r_ifne 36 X dX5_queueNow_27 (by decide) (fun c27 => ?_) (fun c27 => ?_)
  · show Rn G κ 36 _ _ _ _ _
    refine r_bipush (100) X dX5_queueNow_36 (by decide) ?_
    refine r_iload_n X dX5_queueNow_38 rfl ?_
    refine r_imul X dX5_queueNow_39 ?_
    refine r_iload X dX5_queueNow_40 rfl ?_
    refine r_bipush (100) X dX5_queueNow_42 (by decide) ?_
    refine r_irem X dX5_queueNow_44 (by decide) ?_
    refine r_iadd X dX5_queueNow_45 ?_
    show Rn G κ 46 _ _ _ _ _
    refine r_iret X Z dX5_queueNow_46 ?_
    refine ⟨rfl, rfl, rfl, ret_i ?_⟩
    unfold qV
    rw [if_neg c27]
  · show Rn G κ 30 _ _ _ _ _
    refine r_iconst (-1) X dX5_queueNow_30 (by decide) ?_
    refine r_iload_n X dX5_queueNow_31 rfl ?_
    refine r_isub X dX5_queueNow_32 ?_
    refine r_goto 46 X dX5_queueNow_33 (by decide) ?_
    refine r_iret X Z dX5_queueNow_46 ?_
    refine ⟨rfl, rfl, rfl, ret_i ?_⟩
    unfold qV
    rw [if_pos c27]
theorem q_m1 : ∀ q, q < 25 → (nI q - 1).toInt = (q : Int) - 1 := by decide +kernel
set_option maxRecDepth 100000 in
set_option maxHeartbeats 4000000 in
theorem m_queue {G : bpG} {C : bpC} {M : bpM} {hl : Int64} {k : Nat} {x j : Int32} (hI : Inv M k) : Ct G yX5_queue cX5_queue 3 (some .int) rmX5_queue [.ref (G.1 11 0), .int x, .int j] C M hl (qI C M hl (queueS M x j)) := by
  refine ct_of [some (.ref (G.1 11 0)), some (.int x), some (.int j)] (by decide +kernel) rfl rfl (Nat.le_of_ble_eq_true rfl) ?_
  intro κ X Z
  refine r_aload_n X dX5_queue_0 rfl ?_
  refine r_iload_n X dX5_queue_1 rfl ?_
  refine r_cv1_I X mdX5_isPort wml_X5_141 dX5_queue_2 ⟨rfl, rfl, Nat.le_of_ble_eq_true rfl, Nat.le_of_ble_eq_true rfl⟩ (by decide) rfl rfl (Nat.le_of_ble_eq_true rfl) rfl (zroom Z) (m_isPort hI.2.2.1.1) ?_
  show Rn G κ 5 _ _ _ _ _
  refine r_ifeq 33 X dX5_queue_5 (by decide) (fun c5 => ?_) (fun c5 => ?_)
  · show Rn G κ 33 _ _ _ _ _
    refine r_sipush (-1001) X dX5_queue_33 (by decide) ?_
    refine r_iret X Z dX5_queue_36 ?_
    refine ⟨rfl, rfl, rfl, ret_i ?_⟩
    unfold queueS
    rw [if_neg (fun z => by have := z.1; rw [bI_0 c5] at this; cases this)]
  · have hx := bI_1 c5
    obtain ⟨p, hp, rfl⟩ := isP_of hI.2.2.1.1 hx
    have hn6 := hI.2.2.1.1.2.1
    have hp6 : p < 6 := by omega
    have hq := hI.1 p hp
    have hq20 := hq.le
    have hm1 := q_m1 (qm M p) (by omega)
    show Rn G κ 8 _ _ _ _ _
    refine r_iload_n X dX5_queue_8 rfl ?_
    refine r_iconst (0) X dX5_queue_9 (by decide) ?_
    refine r_aload_n X dX5_queue_10 rfl ?_
    refine r_gam 17 X wfl_X5_51 dX5_queue_11 (by decide) rfl ?_
    refine r_iload_n X dX5_queue_14 rfl ?_
    refine r_iaM _ X rfl (by assumption) dX5_queue_15 (by decide) rfl rfl rfl ?_
    refine r_iconst (1) X dX5_queue_16 (by decide) ?_
    show Rn G κ 17 _ _ _ _ _
    refine r_isub X dX5_queue_17 ?_
    refine r_cs3_I X mdX5_within wml_X5_84 dX5_queue_18 ⟨rfl, rfl, Nat.le_of_ble_eq_true rfl, Nat.le_of_ble_eq_true rfl⟩ (Nat.le_of_ble_eq_true rfl) rfl (zroom Z) (m_within) ?_
    show Rn G κ 21 _ _ _ _ _
    refine r_ifeq 33 X dX5_queue_21 (by decide) (fun c21 => ?_) (fun c21 => ?_)
    · show Rn G κ 33 _ _ _ _ _
      refine r_sipush (-1001) X dX5_queue_33 (by decide) ?_
      refine r_iret X Z dX5_queue_36 ?_
      refine ⟨rfl, rfl, rfl, ret_i ?_⟩
      have h := bI_0 c21
      rw [Bool.and_eq_false_iff, decide_eq_false_iff_not, decide_eq_false_iff_not] at h
      unfold queueS
      rw [if_neg]
      rintro ⟨-, z1, z2⟩
      rw [nIc (show p < 2 ^ 31 by omega), hq.1] at z2
      rw [hq.1] at h
      rcases h with h | h
      · exact h z1
      · rw [i_le, hm1] at h; rw [i_lt, i_n (by omega)] at z2; omega
    · have h := bI_1 c21
      rw [Bool.and_eq_true, decide_eq_true_eq, decide_eq_true_eq, hq.1] at h
      obtain ⟨h0, h1⟩ := h
      have hn : ¬ j < 0 := by rw [i_lt, i_0]; rw [i_le, i_0] at h0; omega
      obtain ⟨j, hj31, rfl⟩ := nI_of hn
      have hjq : j < qm M p := by rw [i_le, hm1, i_n hj31] at h1; omega
      have h20 : j < 20 := by omega
      show Rn G κ 24 _ _ _ _ _
      refine r_aload_n X dX5_queue_24 rfl ?_
      refine r_iload_n X dX5_queue_25 rfl ?_
      refine r_iload_n X dX5_queue_26 rfl ?_
      refine r_cv2_I X mdX5_queueNow wml_X5_151 dX5_queue_27 ⟨rfl, rfl, Nat.le_of_ble_eq_true rfl, Nat.le_of_ble_eq_true rfl⟩ (by decide) rfl rfl (Nat.le_of_ble_eq_true rfl) rfl (zroom Z) (m_queueNow hp6 h20) ?_
      show Rn G κ 30 _ _ _ _ _
      refine r_goto 36 X dX5_queue_30 (by decide) ?_
      refine r_iret X Z dX5_queue_36 ?_
      refine ⟨rfl, rfl, rfl, ret_i ?_⟩
      rw [queueS_in hx hp6 hjq hq.1 hq20]
set_option maxRecDepth 100000 in
set_option maxHeartbeats 4000000 in
theorem m_keyNow0 {G : bpG} {C : bpC} {M : bpM} {hl : Int64} {x : Int32} (hB : Bas M) : Ct G yX5_keyNow cX5_keyNow 3 (some .int) rmX5_keyNow [.ref (G.1 11 0), .int x, .int (nI 0)] C M hl (qI C M hl (keyV M x 0)) := by
  refine ct_of [some (.ref (G.1 11 0)), some (.int x), some (.int (nI 0))] (by decide +kernel) rfl rfl (Nat.le_of_ble_eq_true rfl) ?_
  intro κ X Z
  refine r_iload_n X dX5_keyNow_0 rfl ?_
  refine r_ifne 12 X dX5_keyNow_1 (by decide) (fun c1 => absurd (by decide) c1) (fun c1 => ?_)
  show Rn G κ 4 _ _ _ _ _
  refine r_aload_n X dX5_keyNow_4 rfl ?_
  refine r_iload_n X dX5_keyNow_5 rfl ?_
  refine r_cv1_I X mdX5_leadOf wml_X5_119 dX5_keyNow_6 ⟨rfl, rfl, Nat.le_of_ble_eq_true rfl, Nat.le_of_ble_eq_true rfl⟩ (by decide) rfl rfl (Nat.le_of_ble_eq_true rfl) rfl (zroom Z) (m_leadOf hB) ?_
  show Rn G κ 9 _ _ _ _ _
  refine r_goto 49 X dX5_keyNow_9 (by decide) ?_
  refine r_iret X Z dX5_keyNow_49 ?_
  exact ⟨rfl, rfl, rfl, rfl⟩
set_option maxRecDepth 100000 in
set_option maxHeartbeats 4000000 in
theorem m_keyNow1 {G : bpG} {C : bpC} {M : bpM} {hl : Int64} {x : Int32} (hB : Bas M) : Ct G yX5_keyNow cX5_keyNow 3 (some .int) rmX5_keyNow [.ref (G.1 11 0), .int x, .int (nI 1)] C M hl (qI C M hl (keyV M x 1)) := by
  refine ct_of [some (.ref (G.1 11 0)), some (.int x), some (.int (nI 1))] (by decide +kernel) rfl rfl (Nat.le_of_ble_eq_true rfl) ?_
  intro κ X Z
  refine r_iload_n X dX5_keyNow_0 rfl ?_
  refine r_ifne 12 X dX5_keyNow_1 (by decide) (fun c1 => ?_) (fun c1 => absurd c1 (by decide))
  show Rn G κ 12 _ _ _ _ _
  refine r_iload_n X dX5_keyNow_12 rfl ?_
  refine r_iconst (1) X dX5_keyNow_13 (by decide) ?_
  refine r_icmpne 27 X dX5_keyNow_14 (by decide) (fun c14 => absurd (by decide) c14) (fun c14 => ?_)
  show Rn G κ 17 _ _ _ _ _
  refine r_aload_n X dX5_keyNow_17 rfl ?_
  refine r_iload_n X dX5_keyNow_18 rfl ?_
  show Rn G κ 19 _ _ _ _ _
  refine r_iconst (2) X dX5_keyNow_19 (by decide) ?_
  refine r_iconst (4) X dX5_keyNow_20 (by decide) ?_
  refine r_cv3_I X mdX5_bitsOf wml_X5_154 dX5_keyNow_21 ⟨rfl, rfl, Nat.le_of_ble_eq_true rfl, Nat.le_of_ble_eq_true rfl⟩ (by decide) rfl rfl (Nat.le_of_ble_eq_true rfl) rfl (zroom Z) (m_bitsOf hB) ?_
  show Rn G κ 24 _ _ _ _ _
  refine r_goto 49 X dX5_keyNow_24 (by decide) ?_
  refine r_iret X Z dX5_keyNow_49 ?_
  exact ⟨rfl, rfl, rfl, rfl⟩
set_option maxRecDepth 100000 in
set_option maxHeartbeats 4000000 in
theorem m_keyNow2 {G : bpG} {C : bpC} {M : bpM} {hl : Int64} {x : Int32} (hB : Bas M) : Ct G yX5_keyNow cX5_keyNow 3 (some .int) rmX5_keyNow [.ref (G.1 11 0), .int x, .int (nI 2)] C M hl (qI C M hl (keyV M x 2)) := by
  refine ct_of [some (.ref (G.1 11 0)), some (.int x), some (.int (nI 2))] (by decide +kernel) rfl rfl (Nat.le_of_ble_eq_true rfl) ?_
  intro κ X Z
  refine r_iload_n X dX5_keyNow_0 rfl ?_
  refine r_ifne 12 X dX5_keyNow_1 (by decide) (fun c1 => ?_) (fun c1 => absurd c1 (by decide))
  show Rn G κ 12 _ _ _ _ _
  refine r_iload_n X dX5_keyNow_12 rfl ?_
  refine r_iconst (1) X dX5_keyNow_13 (by decide) ?_
  refine r_icmpne 27 X dX5_keyNow_14 (by decide) (fun c14 => ?_) (fun c14 => absurd c14 (by decide))
  show Rn G κ 27 _ _ _ _ _
  refine r_iload_n X dX5_keyNow_27 rfl ?_
  refine r_iconst (2) X dX5_keyNow_28 (by decide) ?_
  show Rn G κ 29 _ _ _ _ _
  refine r_icmpne 42 X dX5_keyNow_29 (by decide) (fun c29 => absurd (by decide) c29) (fun c29 => ?_)
  show Rn G κ 32 _ _ _ _ _
  refine r_aload_n X dX5_keyNow_32 rfl ?_
  refine r_iload_n X dX5_keyNow_33 rfl ?_
  refine r_iconst (1) X dX5_keyNow_34 (by decide) ?_
  refine r_iconst (1) X dX5_keyNow_35 (by decide) ?_
  refine r_cv3_I X mdX5_bitsOf wml_X5_154 dX5_keyNow_36 ⟨rfl, rfl, Nat.le_of_ble_eq_true rfl, Nat.le_of_ble_eq_true rfl⟩ (by decide) rfl rfl (Nat.le_of_ble_eq_true rfl) rfl (zroom Z) (m_bitsOf hB) ?_
  show Rn G κ 39 _ _ _ _ _
  refine r_goto 49 X dX5_keyNow_39 (by decide) ?_
  refine r_iret X Z dX5_keyNow_49 ?_
  exact ⟨rfl, rfl, rfl, rfl⟩
set_option maxRecDepth 100000 in
set_option maxHeartbeats 4000000 in
theorem m_keyNow3 {G : bpG} {C : bpC} {M : bpM} {hl : Int64} {x : Int32} (hB : Bas M) : Ct G yX5_keyNow cX5_keyNow 3 (some .int) rmX5_keyNow [.ref (G.1 11 0), .int x, .int (nI 3)] C M hl (qI C M hl (keyV M x 3)) := by
  refine ct_of [some (.ref (G.1 11 0)), some (.int x), some (.int (nI 3))] (by decide +kernel) rfl rfl (Nat.le_of_ble_eq_true rfl) ?_
  intro κ X Z
  refine r_iload_n X dX5_keyNow_0 rfl ?_
  refine r_ifne 12 X dX5_keyNow_1 (by decide) (fun c1 => ?_) (fun c1 => absurd c1 (by decide))
  show Rn G κ 12 _ _ _ _ _
  refine r_iload_n X dX5_keyNow_12 rfl ?_
  refine r_iconst (1) X dX5_keyNow_13 (by decide) ?_
  refine r_icmpne 27 X dX5_keyNow_14 (by decide) (fun c14 => ?_) (fun c14 => absurd c14 (by decide))
  show Rn G κ 27 _ _ _ _ _
  refine r_iload_n X dX5_keyNow_27 rfl ?_
  refine r_iconst (2) X dX5_keyNow_28 (by decide) ?_
  show Rn G κ 29 _ _ _ _ _
  refine r_icmpne 42 X dX5_keyNow_29 (by decide) (fun c29 => ?_) (fun c29 => absurd c29 (by decide))
  show Rn G κ 42 _ _ _ _ _
  refine r_aload_n X dX5_keyNow_42 rfl ?_
  refine r_iload_n X dX5_keyNow_43 rfl ?_
  refine r_iconst (4) X dX5_keyNow_44 (by decide) ?_
  refine r_iconst (4) X dX5_keyNow_45 (by decide) ?_
  refine r_cv3_I X mdX5_bitsOf wml_X5_154 dX5_keyNow_46 ⟨rfl, rfl, Nat.le_of_ble_eq_true rfl, Nat.le_of_ble_eq_true rfl⟩ (by decide) rfl rfl (Nat.le_of_ble_eq_true rfl) rfl (zroom Z) (m_bitsOf hB) ?_
  show Rn G κ 49 _ _ _ _ _
  refine r_iret X Z dX5_keyNow_49 ?_
  exact ⟨rfl, rfl, rfl, rfl⟩
theorem m_keyNow {G : bpG} {C : bpC} {M : bpM} {hl : Int64} {x : Int32} {w : Nat} (hB : Bas M) (hw : w < 4) : Ct G yX5_keyNow cX5_keyNow 3 (some .int) rmX5_keyNow [.ref (G.1 11 0), .int x, .int (nI w)] C M hl (qI C M hl (keyV M x w)) := by
  rcases (show w = 0 ∨ w = 1 ∨ w = 2 ∨ w = 3 by omega) with rfl | rfl | rfl | rfl
  · exact m_keyNow0 hB
  · exact m_keyNow1 hB
  · exact m_keyNow2 hB
  · exact m_keyNow3 hB
set_option maxRecDepth 100000 in
set_option maxHeartbeats 4000000 in
theorem m_key {G : bpG} {C : bpC} {M : bpM} {hl : Int64} {k : Nat} {x w : Int32} (hI : Inv M k) : Ct G yX5_key cX5_key 3 (some .int) rmX5_key [.ref (G.1 11 0), .int x, .int w] C M hl (qI C M hl (keyS M x w)) := by
  refine ct_of [some (.ref (G.1 11 0)), some (.int x), some (.int w)] (by decide +kernel) rfl rfl (Nat.le_of_ble_eq_true rfl) ?_
  intro κ X Z
  refine r_iload_n X dX5_key_0 rfl ?_
  refine r_iconst (0) X dX5_key_1 (by decide) ?_
  refine r_iconst (3) X dX5_key_2 (by decide) ?_
  refine r_cs3_I X mdX5_within wml_X5_84 dX5_key_3 ⟨rfl, rfl, Nat.le_of_ble_eq_true rfl, Nat.le_of_ble_eq_true rfl⟩ (Nat.le_of_ble_eq_true rfl) rfl (zroom Z) (m_within) ?_
  show Rn G κ 6 _ _ _ _ _
  refine r_ifne 13 X dX5_key_6 (by decide) (fun c6 => ?_) (fun c6 => ?_)
  · have h6 := bI_1 c6
    rw [Bool.and_eq_true, decide_eq_true_eq, decide_eq_true_eq] at h6
    obtain ⟨q, hq2, rfl⟩ := rng_of (n := 3) (by decide) h6.1 h6.2
    show Rn G κ 13 _ _ _ _ _
    refine r_iload_n X dX5_key_13 rfl ?_
    refine r_iconst (0) X dX5_key_14 (by decide) ?_
    refine r_iconst (3) X dX5_key_15 (by decide) ?_
    refine r_cs3_I X mdX5_within wml_X5_84 dX5_key_16 ⟨rfl, rfl, Nat.le_of_ble_eq_true rfl, Nat.le_of_ble_eq_true rfl⟩ (Nat.le_of_ble_eq_true rfl) rfl (zroom Z) (m_within) ?_
    show Rn G κ 19 _ _ _ _ _
    refine r_ifeq 31 X dX5_key_19 (by decide) (fun c19 => ?_) (fun c19 => ?_)
    · show Rn G κ 31 _ _ _ _ _
      refine r_sipush (-1002) X dX5_key_31 (by decide) ?_
      refine r_iret X Z dX5_key_34 ?_
      refine ⟨rfl, rfl, rfl, ret_i ?_⟩
      have h := bI_0 c19
      rw [Bool.and_eq_false_iff, decide_eq_false_iff_not, decide_eq_false_iff_not] at h
      unfold keyS
      rw [if_pos h6, if_neg (fun z => h.elim (fun q => q z.1) (fun q => q z.2))]
    · have h := bI_1 c19
      rw [Bool.and_eq_true, decide_eq_true_eq, decide_eq_true_eq] at h
      obtain ⟨w, hw2, rfl⟩ := rng_of (n := 3) (by decide) h.1 h.2
      show Rn G κ 22 _ _ _ _ _
      refine r_aload_n X dX5_key_22 rfl ?_
      refine r_iload_n X dX5_key_23 rfl ?_
      refine r_iload_n X dX5_key_24 rfl ?_
      refine r_cv2_I X mdX5_keyNow wml_X5_158 dX5_key_25 ⟨rfl, rfl, Nat.le_of_ble_eq_true rfl, Nat.le_of_ble_eq_true rfl⟩ (by decide) rfl rfl (Nat.le_of_ble_eq_true rfl) rfl (zroom Z) (m_keyNow hI.2.2.1.1 (show w < 4 by omega)) ?_
      show Rn G κ 28 _ _ _ _ _
      refine r_goto 34 X dX5_key_28 (by decide) ?_
      refine r_iret X Z dX5_key_34 ?_
      refine ⟨rfl, rfl, rfl, ret_i ?_⟩
      rw [keyS_in (by omega) (by omega)]
  · show Rn G κ 9 _ _ _ _ _
    refine r_sipush (-1001) X dX5_key_9 (by decide) ?_
    refine r_iret X Z dX5_key_12 ?_
    refine ⟨rfl, rfl, rfl, ret_i ?_⟩
    have h := bI_0 c6
    rw [Bool.and_eq_false_iff, decide_eq_false_iff_not, decide_eq_false_iff_not] at h
    unfold keyS
    rw [if_neg (fun z => h.elim (fun q => q z.1) (fun q => q z.2))]
set_option maxRecDepth 100000 in
set_option maxHeartbeats 4000000 in
theorem m_way {G : bpG} {C : bpC} {M : bpM} {hl : Int64} {k : Nat} {x : Int32} (hI : Inv M k) : Ct G yX5_way cX5_way 2 (some .int) rmX5_way [.ref (G.1 11 0), .int x] C M hl (qI C M hl (wayS M x)) := by
  refine ct_of [some (.ref (G.1 11 0)), some (.int x)] (by decide +kernel) rfl rfl (Nat.le_of_ble_eq_true rfl) ?_
  intro κ X Z
  refine r_iload_n X dX5_way_0 rfl ?_
  refine r_cs1_I X mdX5_isFlow wml_X5_161 dX5_way_1 ⟨rfl, rfl, Nat.le_of_ble_eq_true rfl, Nat.le_of_ble_eq_true rfl⟩ (Nat.le_of_ble_eq_true rfl) rfl (zroom Z) (m_isFlow) ?_
  show Rn G κ 4 _ _ _ _ _
  refine r_ifeq 15 X dX5_way_4 (by decide) (fun c4 => ?_) (fun c4 => ?_)
  · show Rn G κ 15 _ _ _ _ _
    refine r_sipush (-1001) X dX5_way_15 (by decide) ?_
    refine r_iret X Z dX5_way_18 ?_
    refine ⟨rfl, rfl, rfl, ret_i ?_⟩
    unfold wayS
    rw [if_neg (by rw [bI_0 c4]; decide)]
  · have hx := bI_1 c4
    obtain ⟨f, hf, rfl⟩ := isF_of hx
    show Rn G κ 7 _ _ _ _ _
    refine r_aload_n X dX5_way_7 rfl ?_
    refine r_iload_n X dX5_way_8 rfl ?_
    refine r_cv1_I X mdX5_wayOf wml_X5_164 dX5_way_9 ⟨rfl, rfl, Nat.le_of_ble_eq_true rfl, Nat.le_of_ble_eq_true rfl⟩ (by decide) rfl rfl (Nat.le_of_ble_eq_true rfl) rfl (zroom Z) (m_wayOf hI.2.2.1.1 hf) ?_
    show Rn G κ 12 _ _ _ _ _
    refine r_goto 18 X dX5_way_12 (by decide) ?_
    refine r_iret X Z dX5_way_18 ?_
    refine ⟨rfl, rfl, rfl, ret_i ?_⟩
    rw [wayS_in hf]
set_option maxRecDepth 100000 in
set_option maxHeartbeats 4000000 in
theorem m_flowNow {G : bpG} {C : bpC} {M : bpM} {hl : Int64} {f w : Nat} (hz : M 19 f = 0 ∨ M 19 f = 1) (hf : f < 12) (hw : w < 7) : Ct G yX5_flowNow cX5_flowNow 3 (some .int) rmX5_flowNow [.ref (G.1 11 0), .int (nI f), .int (nI w)] C M hl (qI C M hl (M (fsl w) f)) := by
  refine ct_of [some (.ref (G.1 11 0)), some (.int (nI f)), some (.int (nI w))] (by decide +kernel) rfl rfl (Nat.le_of_ble_eq_true rfl) ?_
  intro κ X Z
  refine r_iload_n X dX5_flowNow_0 rfl ?_
  rcases (show w = 0 ∨ w = 1 ∨ w = 2 ∨ w = 3 ∨ w = 4 ∨ w = 5 ∨ w = 6 by omega) with rfl | rfl | rfl | rfl | rfl | rfl | rfl
  · refine r_tblIn (off := 39) 40 X dX5_flowNow_1 (by decide) (by decide) (by decide) (by decide) ?_
    refine r_aload_n X dX5_flowNow_40 rfl ?_
    refine r_gam 18 X wfl_X5_54 dX5_flowNow_41 (by decide) rfl ?_
    refine r_iload_n X dX5_flowNow_44 rfl ?_
    refine r_iaM _ X rfl (by assumption) dX5_flowNow_45 (by decide) rfl rfl rfl ?_
    refine r_iret X Z dX5_flowNow_46 ?_
    refine ⟨rfl, rfl, rfl, ret_i ?_⟩
    rfl
  · refine r_tblIn (off := 46) 47 X dX5_flowNow_1 (by decide) (by decide) (by decide) (by decide) ?_
    refine r_aload_n X dX5_flowNow_47 rfl ?_
    refine r_gam 19 X wfl_X5_57 dX5_flowNow_48 (by decide) rfl ?_
    refine r_iload_n X dX5_flowNow_51 rfl ?_
    refine r_zaM _ X rfl (by assumption) dX5_flowNow_52 (by decide) rfl rfl rfl ?_
    refine r_ifeq 60 X dX5_flowNow_53 (by decide) (fun c53 => ?_) (fun c53 => ?_)
    · show Rn G κ 60 _ _ _ _ _
      refine r_iconst (0) X dX5_flowNow_60 (by decide) ?_
      refine r_iret X Z dX5_flowNow_61 ?_
      refine ⟨rfl, rfl, rfl, ret_i ?_⟩
      exact c53.symm
    · show Rn G κ 56 _ _ _ _ _
      refine r_iconst (1) X dX5_flowNow_56 (by decide) ?_
      refine r_goto 61 X dX5_flowNow_57 (by decide) ?_
      refine r_iret X Z dX5_flowNow_61 ?_
      refine ⟨rfl, rfl, rfl, ret_i ?_⟩
      exact (hz.resolve_left c53).symm
  · refine r_tblIn (off := 61) 62 X dX5_flowNow_1 (by decide) (by decide) (by decide) (by decide) ?_
    refine r_aload_n X dX5_flowNow_62 rfl ?_
    refine r_gam 20 X wfl_X5_60 dX5_flowNow_63 (by decide) rfl ?_
    refine r_iload_n X dX5_flowNow_66 rfl ?_
    refine r_iaM _ X rfl (by assumption) dX5_flowNow_67 (by decide) rfl rfl rfl ?_
    refine r_iret X Z dX5_flowNow_68 ?_
    refine ⟨rfl, rfl, rfl, ret_i ?_⟩
    rfl
  · refine r_tblIn (off := 68) 69 X dX5_flowNow_1 (by decide) (by decide) (by decide) (by decide) ?_
    refine r_aload_n X dX5_flowNow_69 rfl ?_
    refine r_gam 22 X wfl_X5_66 dX5_flowNow_70 (by decide) rfl ?_
    refine r_iload_n X dX5_flowNow_73 rfl ?_
    refine r_iaM _ X rfl (by assumption) dX5_flowNow_74 (by decide) rfl rfl rfl ?_
    refine r_iret X Z dX5_flowNow_75 ?_
    refine ⟨rfl, rfl, rfl, ret_i ?_⟩
    rfl
  · refine r_tblIn (off := 75) 76 X dX5_flowNow_1 (by decide) (by decide) (by decide) (by decide) ?_
    refine r_aload_n X dX5_flowNow_76 rfl ?_
    refine r_gam 23 X wfl_X5_69 dX5_flowNow_77 (by decide) rfl ?_
    refine r_iload_n X dX5_flowNow_80 rfl ?_
    refine r_iaM _ X rfl (by assumption) dX5_flowNow_81 (by decide) rfl rfl rfl ?_
    refine r_iret X Z dX5_flowNow_82 ?_
    refine ⟨rfl, rfl, rfl, ret_i ?_⟩
    rfl
  · refine r_tblIn (off := 82) 83 X dX5_flowNow_1 (by decide) (by decide) (by decide) (by decide) ?_
    refine r_aload_n X dX5_flowNow_83 rfl ?_
    refine r_gam 24 X wfl_X5_72 dX5_flowNow_84 (by decide) rfl ?_
    refine r_iload_n X dX5_flowNow_87 rfl ?_
    refine r_iaM _ X rfl (by assumption) dX5_flowNow_88 (by decide) rfl rfl rfl ?_
    refine r_iret X Z dX5_flowNow_89 ?_
    refine ⟨rfl, rfl, rfl, ret_i ?_⟩
    rfl
  · refine r_tblOut 90 X dX5_flowNow_1 (by decide) (by decide) ?_
    refine r_aload_n X dX5_flowNow_90 rfl ?_
    refine r_gam 25 X wfl_X5_75 dX5_flowNow_91 (by decide) rfl ?_
    refine r_iload_n X dX5_flowNow_94 rfl ?_
    refine r_iaM _ X rfl (by assumption) dX5_flowNow_95 (by decide) rfl rfl rfl ?_
    refine r_iret X Z dX5_flowNow_96 ?_
    refine ⟨rfl, rfl, rfl, ret_i ?_⟩
    rfl
set_option maxRecDepth 100000 in
set_option maxHeartbeats 4000000 in
theorem m_flow {G : bpG} {C : bpC} {M : bpM} {hl : Int64} {k : Nat} {x w : Int32} (hI : Inv M k) : Ct G yX5_flow cX5_flow 3 (some .int) rmX5_flow [.ref (G.1 11 0), .int x, .int w] C M hl (qI C M hl (flowS M x w)) := by
  refine ct_of [some (.ref (G.1 11 0)), some (.int x), some (.int w)] (by decide +kernel) rfl rfl (Nat.le_of_ble_eq_true rfl) ?_
  intro κ X Z
  refine r_iload_n X dX5_flow_0 rfl ?_
  refine r_cs1_I X mdX5_isFlow wml_X5_161 dX5_flow_1 ⟨rfl, rfl, Nat.le_of_ble_eq_true rfl, Nat.le_of_ble_eq_true rfl⟩ (Nat.le_of_ble_eq_true rfl) rfl (zroom Z) (m_isFlow) ?_
  show Rn G κ 4 _ _ _ _ _
  refine r_ifne 11 X dX5_flow_4 (by decide) (fun c4 => ?_) (fun c4 => ?_)
  · have hx := bI_1 c4
    obtain ⟨f, hf, rfl⟩ := isF_of hx
    show Rn G κ 11 _ _ _ _ _
    refine r_iload_n X dX5_flow_11 rfl ?_
    refine r_iconst (0) X dX5_flow_12 (by decide) ?_
    refine r_bipush (6) X dX5_flow_13 (by decide) ?_
    refine r_cs3_I X mdX5_within wml_X5_84 dX5_flow_15 ⟨rfl, rfl, Nat.le_of_ble_eq_true rfl, Nat.le_of_ble_eq_true rfl⟩ (Nat.le_of_ble_eq_true rfl) rfl (zroom Z) (m_within) ?_
    show Rn G κ 18 _ _ _ _ _
    refine r_ifeq 30 X dX5_flow_18 (by decide) (fun c18 => ?_) (fun c18 => ?_)
    · show Rn G κ 30 _ _ _ _ _
      refine r_sipush (-1002) X dX5_flow_30 (by decide) ?_
      refine r_iret X Z dX5_flow_33 ?_
      refine ⟨rfl, rfl, rfl, ret_i ?_⟩
      have h := bI_0 c18
      rw [Bool.and_eq_false_iff, decide_eq_false_iff_not, decide_eq_false_iff_not] at h
      unfold flowS
      rw [if_pos hx, if_neg (fun z => h.elim (fun q => q z.1) (fun q => q z.2))]
    · have h := bI_1 c18
      rw [Bool.and_eq_true, decide_eq_true_eq, decide_eq_true_eq] at h
      obtain ⟨w, hw2, rfl⟩ := rng_of (n := 6) (by decide) h.1 h.2
      show Rn G κ 21 _ _ _ _ _
      refine r_aload_n X dX5_flow_21 rfl ?_
      refine r_iload_n X dX5_flow_22 rfl ?_
      refine r_iload_n X dX5_flow_23 rfl ?_
      refine r_cv2_I X mdX5_flowNow wml_X5_186 dX5_flow_24 ⟨rfl, rfl, Nat.le_of_ble_eq_true rfl, Nat.le_of_ble_eq_true rfl⟩ (by decide) rfl rfl (Nat.le_of_ble_eq_true rfl) rfl (zroom Z) (m_flowNow (hI.2.1 f hf).1 hf (show w < 7 by omega)) ?_
      show Rn G κ 27 _ _ _ _ _
      refine r_goto 33 X dX5_flow_27 (by decide) ?_
      refine r_iret X Z dX5_flow_33 ?_
      refine ⟨rfl, rfl, rfl, ret_i ?_⟩
      rw [flowS_in hf (by omega)]
  · show Rn G κ 7 _ _ _ _ _
    refine r_sipush (-1001) X dX5_flow_7 (by decide) ?_
    refine r_iret X Z dX5_flow_10 ?_
    refine ⟨rfl, rfl, rfl, ret_i ?_⟩
    unfold flowS
    rw [if_neg (by rw [bI_0 c4]; decide)]
set_option maxRecDepth 100000 in
set_option maxHeartbeats 4000000 in
theorem m_sumOf22 {G : bpG} {C : bpC} {M : bpM} {hl : Int64}  : Ct G yX5_sumOf cX5_sumOf 4 (some .int) rmX5_sumOf [.ref (G.1 11 0), .ref (G.1 (20 + 22) 0)] C M hl (qI C M hl (smN (M 22) 12)) := by
  refine ct_of [some (.ref (G.1 11 0)), some (.ref (G.1 (20 + 22) 0)), none, none] (by decide +kernel) rfl rfl (Nat.le_of_ble_eq_true rfl) ?_
  intro κ X Z
  have loop : ∀ n i : Nat, i + n = 12 → Rn G κ 4 [some (.ref (G.1 11 0)), some (.ref (G.1 (20 + 22) 0)), some (.int (smN (M 22) i)), some (.int (nI i))] [] C M hl := by
    intro n
    induction n with
    | zero =>
      intro i hi
      have hi : i = 12 := by omega
      subst hi
      refine r_iload_n X dX5_sumOf_4 rfl ?_
      refine r_bipush (12) X dX5_sumOf_5 (by decide) ?_
      refine r_icmpge 22 X dX5_sumOf_7 (by decide) (fun c7 => ?_) (fun c7 => absurd (by decide) c7)
      show Rn G κ 22 _ _ _ _ _
      refine r_iload_n X dX5_sumOf_22 rfl ?_
      refine r_iret X Z dX5_sumOf_23 ?_
      exact ⟨rfl, rfl, rfl, rfl⟩
    | succ n ih =>
      intro i hi
      have hi12 : i < 12 := by omega
      refine r_iload_n X dX5_sumOf_4 rfl ?_
      refine r_bipush (12) X dX5_sumOf_5 (by decide) ?_
      refine r_icmpge 22 X dX5_sumOf_7 (by decide) (fun c7 => absurd c7 (by simp only [i_lt, i_le, i_eq, i_m1, i_0, i_1, i_2, i_3, i_4, i_5, i_6, i_7, i_8, i_9, i_10, i_11, i_12, i_17, i_20, i_24, i_32, i_44, i_48, i_50, i_51, i_52, i_57, i_58, i_100, i_126, i_n (show i < 2 ^ 31 by omega)]; omega)) (fun c7 => ?_)
      show Rn G κ 10 _ _ _ _ _
      refine r_iload_n X dX5_sumOf_10 rfl ?_
      refine r_aload_n X dX5_sumOf_11 rfl ?_
      refine r_iload_n X dX5_sumOf_12 rfl ?_
      refine r_iaM _ X rfl (by assumption) dX5_sumOf_13 (by decide) rfl rfl rfl ?_
      show Rn G κ 14 _ _ _ _ _
      refine r_iadd X dX5_sumOf_14 ?_
      refine r_istore_2 X dX5_sumOf_15 rfl ?_
      refine r_iinc_3 (nI (i + 1)) X dX5_sumOf_16 (nI_1 i) rfl ?_
      refine r_goto 4 X dX5_sumOf_19 (by decide) ?_
      exact ih (i + 1) (by omega)
  refine r_iconst (0) X dX5_sumOf_0 (by decide) ?_
  refine r_istore_2 X dX5_sumOf_1 rfl ?_
  refine r_iconst (0) X dX5_sumOf_2 (by decide) ?_
  refine r_istore_3 X dX5_sumOf_3 rfl ?_
  exact loop 12 0 (by omega)
set_option maxRecDepth 100000 in
set_option maxHeartbeats 4000000 in
theorem m_sumOf23 {G : bpG} {C : bpC} {M : bpM} {hl : Int64}  : Ct G yX5_sumOf cX5_sumOf 4 (some .int) rmX5_sumOf [.ref (G.1 11 0), .ref (G.1 (20 + 23) 0)] C M hl (qI C M hl (smN (M 23) 12)) := by
  refine ct_of [some (.ref (G.1 11 0)), some (.ref (G.1 (20 + 23) 0)), none, none] (by decide +kernel) rfl rfl (Nat.le_of_ble_eq_true rfl) ?_
  intro κ X Z
  have loop : ∀ n i : Nat, i + n = 12 → Rn G κ 4 [some (.ref (G.1 11 0)), some (.ref (G.1 (20 + 23) 0)), some (.int (smN (M 23) i)), some (.int (nI i))] [] C M hl := by
    intro n
    induction n with
    | zero =>
      intro i hi
      have hi : i = 12 := by omega
      subst hi
      refine r_iload_n X dX5_sumOf_4 rfl ?_
      refine r_bipush (12) X dX5_sumOf_5 (by decide) ?_
      refine r_icmpge 22 X dX5_sumOf_7 (by decide) (fun c7 => ?_) (fun c7 => absurd (by decide) c7)
      show Rn G κ 22 _ _ _ _ _
      refine r_iload_n X dX5_sumOf_22 rfl ?_
      refine r_iret X Z dX5_sumOf_23 ?_
      exact ⟨rfl, rfl, rfl, rfl⟩
    | succ n ih =>
      intro i hi
      have hi12 : i < 12 := by omega
      refine r_iload_n X dX5_sumOf_4 rfl ?_
      refine r_bipush (12) X dX5_sumOf_5 (by decide) ?_
      refine r_icmpge 22 X dX5_sumOf_7 (by decide) (fun c7 => absurd c7 (by simp only [i_lt, i_le, i_eq, i_m1, i_0, i_1, i_2, i_3, i_4, i_5, i_6, i_7, i_8, i_9, i_10, i_11, i_12, i_17, i_20, i_24, i_32, i_44, i_48, i_50, i_51, i_52, i_57, i_58, i_100, i_126, i_n (show i < 2 ^ 31 by omega)]; omega)) (fun c7 => ?_)
      show Rn G κ 10 _ _ _ _ _
      refine r_iload_n X dX5_sumOf_10 rfl ?_
      refine r_aload_n X dX5_sumOf_11 rfl ?_
      refine r_iload_n X dX5_sumOf_12 rfl ?_
      refine r_iaM _ X rfl (by assumption) dX5_sumOf_13 (by decide) rfl rfl rfl ?_
      show Rn G κ 14 _ _ _ _ _
      refine r_iadd X dX5_sumOf_14 ?_
      refine r_istore_2 X dX5_sumOf_15 rfl ?_
      refine r_iinc_3 (nI (i + 1)) X dX5_sumOf_16 (nI_1 i) rfl ?_
      refine r_goto 4 X dX5_sumOf_19 (by decide) ?_
      exact ih (i + 1) (by omega)
  refine r_iconst (0) X dX5_sumOf_0 (by decide) ?_
  refine r_istore_2 X dX5_sumOf_1 rfl ?_
  refine r_iconst (0) X dX5_sumOf_2 (by decide) ?_
  refine r_istore_3 X dX5_sumOf_3 rfl ?_
  exact loop 12 0 (by omega)
set_option maxRecDepth 100000 in
set_option maxHeartbeats 4000000 in
theorem m_sumOf24 {G : bpG} {C : bpC} {M : bpM} {hl : Int64}  : Ct G yX5_sumOf cX5_sumOf 4 (some .int) rmX5_sumOf [.ref (G.1 11 0), .ref (G.1 (20 + 24) 0)] C M hl (qI C M hl (smN (M 24) 12)) := by
  refine ct_of [some (.ref (G.1 11 0)), some (.ref (G.1 (20 + 24) 0)), none, none] (by decide +kernel) rfl rfl (Nat.le_of_ble_eq_true rfl) ?_
  intro κ X Z
  have loop : ∀ n i : Nat, i + n = 12 → Rn G κ 4 [some (.ref (G.1 11 0)), some (.ref (G.1 (20 + 24) 0)), some (.int (smN (M 24) i)), some (.int (nI i))] [] C M hl := by
    intro n
    induction n with
    | zero =>
      intro i hi
      have hi : i = 12 := by omega
      subst hi
      refine r_iload_n X dX5_sumOf_4 rfl ?_
      refine r_bipush (12) X dX5_sumOf_5 (by decide) ?_
      refine r_icmpge 22 X dX5_sumOf_7 (by decide) (fun c7 => ?_) (fun c7 => absurd (by decide) c7)
      show Rn G κ 22 _ _ _ _ _
      refine r_iload_n X dX5_sumOf_22 rfl ?_
      refine r_iret X Z dX5_sumOf_23 ?_
      exact ⟨rfl, rfl, rfl, rfl⟩
    | succ n ih =>
      intro i hi
      have hi12 : i < 12 := by omega
      refine r_iload_n X dX5_sumOf_4 rfl ?_
      refine r_bipush (12) X dX5_sumOf_5 (by decide) ?_
      refine r_icmpge 22 X dX5_sumOf_7 (by decide) (fun c7 => absurd c7 (by simp only [i_lt, i_le, i_eq, i_m1, i_0, i_1, i_2, i_3, i_4, i_5, i_6, i_7, i_8, i_9, i_10, i_11, i_12, i_17, i_20, i_24, i_32, i_44, i_48, i_50, i_51, i_52, i_57, i_58, i_100, i_126, i_n (show i < 2 ^ 31 by omega)]; omega)) (fun c7 => ?_)
      show Rn G κ 10 _ _ _ _ _
      refine r_iload_n X dX5_sumOf_10 rfl ?_
      refine r_aload_n X dX5_sumOf_11 rfl ?_
      refine r_iload_n X dX5_sumOf_12 rfl ?_
      refine r_iaM _ X rfl (by assumption) dX5_sumOf_13 (by decide) rfl rfl rfl ?_
      show Rn G κ 14 _ _ _ _ _
      refine r_iadd X dX5_sumOf_14 ?_
      refine r_istore_2 X dX5_sumOf_15 rfl ?_
      refine r_iinc_3 (nI (i + 1)) X dX5_sumOf_16 (nI_1 i) rfl ?_
      refine r_goto 4 X dX5_sumOf_19 (by decide) ?_
      exact ih (i + 1) (by omega)
  refine r_iconst (0) X dX5_sumOf_0 (by decide) ?_
  refine r_istore_2 X dX5_sumOf_1 rfl ?_
  refine r_iconst (0) X dX5_sumOf_2 (by decide) ?_
  refine r_istore_3 X dX5_sumOf_3 rfl ?_
  exact loop 12 0 (by omega)
set_option maxRecDepth 100000 in
set_option maxHeartbeats 4000000 in
theorem m_sumOf20 {G : bpG} {C : bpC} {M : bpM} {hl : Int64}  : Ct G yX5_sumOf cX5_sumOf 4 (some .int) rmX5_sumOf [.ref (G.1 11 0), .ref (G.1 (20 + 20) 0)] C M hl (qI C M hl (smN (M 20) 12)) := by
  refine ct_of [some (.ref (G.1 11 0)), some (.ref (G.1 (20 + 20) 0)), none, none] (by decide +kernel) rfl rfl (Nat.le_of_ble_eq_true rfl) ?_
  intro κ X Z
  have loop : ∀ n i : Nat, i + n = 12 → Rn G κ 4 [some (.ref (G.1 11 0)), some (.ref (G.1 (20 + 20) 0)), some (.int (smN (M 20) i)), some (.int (nI i))] [] C M hl := by
    intro n
    induction n with
    | zero =>
      intro i hi
      have hi : i = 12 := by omega
      subst hi
      refine r_iload_n X dX5_sumOf_4 rfl ?_
      refine r_bipush (12) X dX5_sumOf_5 (by decide) ?_
      refine r_icmpge 22 X dX5_sumOf_7 (by decide) (fun c7 => ?_) (fun c7 => absurd (by decide) c7)
      show Rn G κ 22 _ _ _ _ _
      refine r_iload_n X dX5_sumOf_22 rfl ?_
      refine r_iret X Z dX5_sumOf_23 ?_
      exact ⟨rfl, rfl, rfl, rfl⟩
    | succ n ih =>
      intro i hi
      have hi12 : i < 12 := by omega
      refine r_iload_n X dX5_sumOf_4 rfl ?_
      refine r_bipush (12) X dX5_sumOf_5 (by decide) ?_
      refine r_icmpge 22 X dX5_sumOf_7 (by decide) (fun c7 => absurd c7 (by simp only [i_lt, i_le, i_eq, i_m1, i_0, i_1, i_2, i_3, i_4, i_5, i_6, i_7, i_8, i_9, i_10, i_11, i_12, i_17, i_20, i_24, i_32, i_44, i_48, i_50, i_51, i_52, i_57, i_58, i_100, i_126, i_n (show i < 2 ^ 31 by omega)]; omega)) (fun c7 => ?_)
      show Rn G κ 10 _ _ _ _ _
      refine r_iload_n X dX5_sumOf_10 rfl ?_
      refine r_aload_n X dX5_sumOf_11 rfl ?_
      refine r_iload_n X dX5_sumOf_12 rfl ?_
      refine r_iaM _ X rfl (by assumption) dX5_sumOf_13 (by decide) rfl rfl rfl ?_
      show Rn G κ 14 _ _ _ _ _
      refine r_iadd X dX5_sumOf_14 ?_
      refine r_istore_2 X dX5_sumOf_15 rfl ?_
      refine r_iinc_3 (nI (i + 1)) X dX5_sumOf_16 (nI_1 i) rfl ?_
      refine r_goto 4 X dX5_sumOf_19 (by decide) ?_
      exact ih (i + 1) (by omega)
  refine r_iconst (0) X dX5_sumOf_0 (by decide) ?_
  refine r_istore_2 X dX5_sumOf_1 rfl ?_
  refine r_iconst (0) X dX5_sumOf_2 (by decide) ?_
  refine r_istore_3 X dX5_sumOf_3 rfl ?_
  exact loop 12 0 (by omega)
set_option maxRecDepth 100000 in
set_option maxHeartbeats 4000000 in
theorem m_howMany {G : bpG} {C : bpC} {M : bpM} {hl : Int64} {w : Int32} : Ct G yX5_howMany cX5_howMany 2 (some .int) rmX5_howMany [.ref (G.1 11 0), .int w] C M hl (qI C M hl (countS M w)) := by
  refine ct_of [some (.ref (G.1 11 0)), some (.int w)] (by decide +kernel) rfl rfl (Nat.le_of_ble_eq_true rfl) ?_
  intro κ X Z
  refine r_iload_n X dX5_howMany_0 rfl ?_
  by_cases hw : 0 ≤ w ∧ w ≤ 11
  · obtain ⟨w, hw2, rfl⟩ := rng_of (n := 11) (by decide) hw.1 hw.2
    rcases (show w = 0 ∨ w = 1 ∨ w = 2 ∨ w = 3 ∨ w = 4 ∨ w = 5 ∨ w = 6 ∨ w = 7 ∨ w = 8 ∨ w = 9 ∨ w = 10 ∨ w = 11 by omega) with rfl | rfl | rfl | rfl | rfl | rfl | rfl | rfl | rfl | rfl | rfl | rfl
    · refine r_tblIn (off := 63) 64 X dX5_howMany_1 (by decide) (by decide) (by decide) (by decide) ?_
      refine r_aload_n X dX5_howMany_64 rfl ?_
      refine r_gim 2 X wfl_X5_105 dX5_howMany_65 (by decide) rfl ?_
      refine r_iret X Z dX5_howMany_68 ?_
      refine ⟨rfl, rfl, rfl, ret_i ?_⟩
      rw [countS_in (by decide)]
      rfl
    · refine r_tblIn (off := 68) 69 X dX5_howMany_1 (by decide) (by decide) (by decide) (by decide) ?_
      refine r_aload_n X dX5_howMany_69 rfl ?_
      refine r_gim 0 X wfl_X5_88 dX5_howMany_70 (by decide) rfl ?_
      refine r_iret X Z dX5_howMany_73 ?_
      refine ⟨rfl, rfl, rfl, ret_i ?_⟩
      rw [countS_in (by decide)]
      rfl
    · refine r_tblIn (off := 73) 74 X dX5_howMany_1 (by decide) (by decide) (by decide) (by decide) ?_
      refine r_aload_n X dX5_howMany_74 rfl ?_
      refine r_iload_n X dX5_howMany_75 rfl ?_
      refine r_iconst (2) X dX5_howMany_76 (by decide) ?_
      refine r_isub X dX5_howMany_77 ?_
      refine r_cv1_I X mdX5_toldNow wml_X5_135 dX5_howMany_78 ⟨rfl, rfl, Nat.le_of_ble_eq_true rfl, Nat.le_of_ble_eq_true rfl⟩ (by decide) rfl rfl (Nat.le_of_ble_eq_true rfl) rfl (zroom Z) (m_toldNow) ?_
      show Rn G κ 81 _ _ _ _ _
      refine r_iret X Z dX5_howMany_81 ?_
      refine ⟨rfl, rfl, rfl, ret_i ?_⟩
      rw [countS_in (by decide)]
      rfl
    · refine r_tblIn (off := 73) 74 X dX5_howMany_1 (by decide) (by decide) (by decide) (by decide) ?_
      refine r_aload_n X dX5_howMany_74 rfl ?_
      refine r_iload_n X dX5_howMany_75 rfl ?_
      refine r_iconst (2) X dX5_howMany_76 (by decide) ?_
      refine r_isub X dX5_howMany_77 ?_
      refine r_cv1_I X mdX5_toldNow wml_X5_135 dX5_howMany_78 ⟨rfl, rfl, Nat.le_of_ble_eq_true rfl, Nat.le_of_ble_eq_true rfl⟩ (by decide) rfl rfl (Nat.le_of_ble_eq_true rfl) rfl (zroom Z) (m_toldNow) ?_
      show Rn G κ 81 _ _ _ _ _
      refine r_iret X Z dX5_howMany_81 ?_
      refine ⟨rfl, rfl, rfl, ret_i ?_⟩
      rw [countS_in (by decide)]
      rfl
    · refine r_tblIn (off := 73) 74 X dX5_howMany_1 (by decide) (by decide) (by decide) (by decide) ?_
      refine r_aload_n X dX5_howMany_74 rfl ?_
      refine r_iload_n X dX5_howMany_75 rfl ?_
      refine r_iconst (2) X dX5_howMany_76 (by decide) ?_
      refine r_isub X dX5_howMany_77 ?_
      refine r_cv1_I X mdX5_toldNow wml_X5_135 dX5_howMany_78 ⟨rfl, rfl, Nat.le_of_ble_eq_true rfl, Nat.le_of_ble_eq_true rfl⟩ (by decide) rfl rfl (Nat.le_of_ble_eq_true rfl) rfl (zroom Z) (m_toldNow) ?_
      show Rn G κ 81 _ _ _ _ _
      refine r_iret X Z dX5_howMany_81 ?_
      refine ⟨rfl, rfl, rfl, ret_i ?_⟩
      rw [countS_in (by decide)]
      rfl
    · refine r_tblIn (off := 81) 82 X dX5_howMany_1 (by decide) (by decide) (by decide) (by decide) ?_
      refine r_aload_n X dX5_howMany_82 rfl ?_
      refine r_gim 26 X wfl_X5_99 dX5_howMany_83 (by decide) rfl ?_
      refine r_iret X Z dX5_howMany_86 ?_
      refine ⟨rfl, rfl, rfl, ret_i ?_⟩
      rw [countS_in (by decide)]
      rfl
    · refine r_tblIn (off := 86) 87 X dX5_howMany_1 (by decide) (by decide) (by decide) (by decide) ?_
      refine r_aload_n X dX5_howMany_87 rfl ?_
      refine r_aload_n X dX5_howMany_88 rfl ?_
      refine r_gam 22 X wfl_X5_66 dX5_howMany_89 (by decide) rfl ?_
      refine r_cv1_I X mdX5_sumOf wml_X5_201 dX5_howMany_92 ⟨rfl, rfl, Nat.le_of_ble_eq_true rfl, Nat.le_of_ble_eq_true rfl⟩ (by decide) rfl rfl (Nat.le_of_ble_eq_true rfl) rfl (zroom Z) (m_sumOf22) ?_
      show Rn G κ 95 _ _ _ _ _
      refine r_iret X Z dX5_howMany_95 ?_
      refine ⟨rfl, rfl, rfl, ret_i ?_⟩
      rw [countS_in (by decide)]
      rfl
    · refine r_tblIn (off := 95) 96 X dX5_howMany_1 (by decide) (by decide) (by decide) (by decide) ?_
      refine r_aload_n X dX5_howMany_96 rfl ?_
      refine r_aload_n X dX5_howMany_97 rfl ?_
      refine r_gam 23 X wfl_X5_69 dX5_howMany_98 (by decide) rfl ?_
      refine r_cv1_I X mdX5_sumOf wml_X5_201 dX5_howMany_101 ⟨rfl, rfl, Nat.le_of_ble_eq_true rfl, Nat.le_of_ble_eq_true rfl⟩ (by decide) rfl rfl (Nat.le_of_ble_eq_true rfl) rfl (zroom Z) (m_sumOf23) ?_
      show Rn G κ 104 _ _ _ _ _
      refine r_iret X Z dX5_howMany_104 ?_
      refine ⟨rfl, rfl, rfl, ret_i ?_⟩
      rw [countS_in (by decide)]
      rfl
    · refine r_tblIn (off := 104) 105 X dX5_howMany_1 (by decide) (by decide) (by decide) (by decide) ?_
      refine r_aload_n X dX5_howMany_105 rfl ?_
      refine r_aload_n X dX5_howMany_106 rfl ?_
      refine r_gam 24 X wfl_X5_72 dX5_howMany_107 (by decide) rfl ?_
      refine r_cv1_I X mdX5_sumOf wml_X5_201 dX5_howMany_110 ⟨rfl, rfl, Nat.le_of_ble_eq_true rfl, Nat.le_of_ble_eq_true rfl⟩ (by decide) rfl rfl (Nat.le_of_ble_eq_true rfl) rfl (zroom Z) (m_sumOf24) ?_
      show Rn G κ 113 _ _ _ _ _
      refine r_iret X Z dX5_howMany_113 ?_
      refine ⟨rfl, rfl, rfl, ret_i ?_⟩
      rw [countS_in (by decide)]
      rfl
    · refine r_tblIn (off := 113) 114 X dX5_howMany_1 (by decide) (by decide) (by decide) (by decide) ?_
      refine r_aload_n X dX5_howMany_114 rfl ?_
      refine r_aload_n X dX5_howMany_115 rfl ?_
      refine r_gam 20 X wfl_X5_60 dX5_howMany_116 (by decide) rfl ?_
      refine r_cv1_I X mdX5_sumOf wml_X5_201 dX5_howMany_119 ⟨rfl, rfl, Nat.le_of_ble_eq_true rfl, Nat.le_of_ble_eq_true rfl⟩ (by decide) rfl rfl (Nat.le_of_ble_eq_true rfl) rfl (zroom Z) (m_sumOf20) ?_
      show Rn G κ 122 _ _ _ _ _
      refine r_iret X Z dX5_howMany_122 ?_
      refine ⟨rfl, rfl, rfl, ret_i ?_⟩
      rw [countS_in (by decide)]
      rfl
    · refine r_tblIn (off := 122) 123 X dX5_howMany_1 (by decide) (by decide) (by decide) (by decide) ?_
      refine r_aload_n X dX5_howMany_123 rfl ?_
      refine r_gim 27 X wfl_X5_102 dX5_howMany_124 (by decide) rfl ?_
      refine r_iret X Z dX5_howMany_127 ?_
      refine ⟨rfl, rfl, rfl, ret_i ?_⟩
      rw [countS_in (by decide)]
      rfl
    · refine r_tblIn (off := 127) 128 X dX5_howMany_1 (by decide) (by decide) (by decide) (by decide) ?_
      refine r_aload_n X dX5_howMany_128 rfl ?_
      refine r_gim 14 X wfl_X5_112 dX5_howMany_129 (by decide) rfl ?_
      refine r_iret X Z dX5_howMany_132 ?_
      refine ⟨rfl, rfl, rfl, ret_i ?_⟩
      rw [countS_in (by decide)]
      rfl
  · have hout : w.toInt < 0 ∨ 11 < w.toInt := by rw [i_le, i_le, i_0, i_11] at hw; omega
    refine r_tblOut 133 X dX5_howMany_1 hout (by decide) ?_
    refine r_sipush (-1002) X dX5_howMany_133 (by decide) ?_
    refine r_iret X Z dX5_howMany_136 ?_
    refine ⟨rfl, rfl, rfl, ret_i ?_⟩
    unfold countS
    rw [if_neg hw]
set_option maxRecDepth 100000 in
set_option maxHeartbeats 4000000 in
theorem m_count {G : bpG} {C : bpC} {M : bpM} {hl : Int64} {w : Int32} : Ct G yX5_count cX5_count 2 (some .int) rmX5_count [.ref (G.1 11 0), .int w] C M hl (qI C M hl (countS M w)) := by
  refine ct_of [some (.ref (G.1 11 0)), some (.int w)] (by decide +kernel) rfl rfl (Nat.le_of_ble_eq_true rfl) ?_
  intro κ X Z
  refine r_aload_n X dX5_count_0 rfl ?_
  refine r_iload_n X dX5_count_1 rfl ?_
  refine r_cv1_I X mdX5_howMany wml_X5_205 dX5_count_2 ⟨rfl, rfl, Nat.le_of_ble_eq_true rfl, Nat.le_of_ble_eq_true rfl⟩ (by decide) rfl rfl (Nat.le_of_ble_eq_true rfl) rfl (zroom Z) (m_howMany) ?_
  show Rn G κ 5 _ _ _ _ _
  refine r_iret X Z dX5_count_5 ?_
  exact ⟨rfl, rfl, rfl, rfl⟩
set_option maxRecDepth 100000 in
set_option maxHeartbeats 4000000 in
theorem m_mix {G : bpG} {C : bpC} {M : bpM} {hl : Int64} {v : Int64} : Ct G yX5_mix cX5_mix 3 none rmX5_mix [.ref (G.1 11 0), .long v] C M hl (qH C M (31 * hl + v)) := by
  refine ct_of [some (.ref (G.1 11 0)), some (.long v), none] (by decide +kernel) rfl rfl (Nat.le_of_ble_eq_true rfl) ?_
  intro κ X Z
  refine r_aload_n X dX5_mix_0 rfl ?_
  refine r_ldc2 wcL_X5_208 X dX5_mix_1 ?_
  refine r_aload_n X dX5_mix_4 rfl ?_
  refine r_ghm X wfl_X5_210 dX5_mix_5 ?_
  refine r_lmul X dX5_mix_8 ?_
  refine r_lload_n X dX5_mix_9 rfl ?_
  refine r_ladd X dX5_mix_10 ?_
  show Rn G κ 11 _ _ _ _ _
  refine r_phm X wfl_X5_210 dX5_mix_11 ?_
  refine r_vret X Z dX5_mix_14 ?_
  exact ⟨rfl, rfl, rfl, rfl⟩
set_option maxRecDepth 100000 in
set_option maxHeartbeats 4000000 in
theorem m_mixPorts {G : bpG} {C : bpC} {M : bpM} {hl : Int64} {k : Nat} (hI : Inv M k) (h0 : hl = 1741) : Ct G yX5_mixPorts cX5_mixPorts 3 none rmX5_mixPorts [.ref (G.1 11 0)] C M hl (qH C M (dpN M (np M))) := by
  subst h0
  refine ct_of [some (.ref (G.1 11 0)), none, none] (by decide +kernel) rfl rfl (Nat.le_of_ble_eq_true rfl) ?_
  intro κ X Z
  have hn6 := hI.2.2.1.1.2.1
  have hc : M 2 0 = nI (np M) := hI.2.2.1.1.1
  have loop : ∀ (n i : Nat) (z : Option Value), i + n = np M → Rn G κ 2 [some (.ref (G.1 11 0)), some (.int (nI i)), z] [] C M (dpN M i) := by
    intro n
    induction n with
    | zero =>
      intro i z hi
      have hi : i = np M := by omega
      subst hi
      refine r_iload_n X dX5_mixPorts_2 rfl ?_
      refine r_aload_n X dX5_mixPorts_3 rfl ?_
      refine r_gim 2 X wfl_X5_105 dX5_mixPorts_4 (by decide) rfl ?_
      refine r_icmpge 70 X dX5_mixPorts_7 (by decide) (fun c7 => ?_) (fun c7 => absurd (by rw [hc]; exact Int32.le_refl _) c7)
      show Rn G κ 70 _ _ _ _ _
      refine r_vret X Z dX5_mixPorts_70 ?_
      exact ⟨rfl, rfl, rfl, rfl⟩
    | succ n ih =>
      intro i z hi
      have hil : i < np M := by omega
      have hi6 : i < 6 := by omega
      have hq := hI.1 i hil
      have hq20 := hq.le
      have in3 : ∀ (m j : Nat), j + m = qm M i → Rn G κ 37 [some (.ref (G.1 11 0)), some (.int (nI i)), some (.int (nI j))] [] C M (fldN (qV M i) (fldN (ofV M i) (dpN M i) 10) j) := by
        intro m
        induction m with
        | zero =>
          intro j hj
          have hj : j = qm M i := by omega
          subst hj
          refine r_iload_n X dX5_mixPorts_37 rfl ?_
          refine r_aload_n X dX5_mixPorts_38 rfl ?_
          refine r_gam 17 X wfl_X5_51 dX5_mixPorts_39 (by decide) rfl ?_
          refine r_iload_n X dX5_mixPorts_42 rfl ?_
          refine r_iaM _ X rfl (by assumption) dX5_mixPorts_43 (by decide) rfl rfl rfl ?_
          refine r_icmpge 64 X dX5_mixPorts_44 (by decide) (fun c44 => ?_) (fun c44 => absurd (by rw [hq.1]; exact Int32.le_refl _) c44)
          show Rn G κ 64 _ _ _ _ _
          refine r_iinc_1 (nI (i + 1)) X dX5_mixPorts_64 (nI_1 i) rfl ?_
          show Rn G κ 67 _ _ _ _ _
          refine r_goto 2 X dX5_mixPorts_67 (by decide) ?_
          exact ih (i + 1) _ (by omega)
        | succ m ihm =>
          intro j hj
          have hjl : j < qm M i := by omega
          have hj20 : j < 20 := by omega
          refine r_iload_n X dX5_mixPorts_37 rfl ?_
          refine r_aload_n X dX5_mixPorts_38 rfl ?_
          refine r_gam 17 X wfl_X5_51 dX5_mixPorts_39 (by decide) rfl ?_
          refine r_iload_n X dX5_mixPorts_42 rfl ?_
          refine r_iaM _ X rfl (by assumption) dX5_mixPorts_43 (by decide) rfl rfl rfl ?_
          refine r_icmpge 64 X dX5_mixPorts_44 (by decide) (fun c44 => absurd c44 (by rw [hq.1]; simp only [i_lt, i_le, i_eq, i_m1, i_0, i_1, i_2, i_3, i_4, i_5, i_6, i_7, i_8, i_9, i_10, i_11, i_12, i_17, i_20, i_24, i_32, i_44, i_48, i_50, i_51, i_52, i_57, i_58, i_100, i_126, i_n (show qm M i < 2 ^ 31 by omega), i_n (show j < 2 ^ 31 by omega)]; omega)) (fun c44 => ?_)
          show Rn G κ 47 _ _ _ _ _
          refine r_aload_n X dX5_mixPorts_47 rfl ?_
          show Rn G κ 48 _ _ _ _ _
          refine r_aload_n X dX5_mixPorts_48 rfl ?_
          refine r_iload_n X dX5_mixPorts_49 rfl ?_
          refine r_iload_n X dX5_mixPorts_50 rfl ?_
          refine r_cv2_I X mdX5_queueNow wml_X5_151 dX5_mixPorts_51 ⟨rfl, rfl, Nat.le_of_ble_eq_true rfl, Nat.le_of_ble_eq_true rfl⟩ (by decide) rfl rfl (Nat.le_of_ble_eq_true rfl) rfl (zroom Z) (m_queueNow hi6 hj20) ?_
          show Rn G κ 54 _ _ _ _ _
          refine r_i2l X dX5_mixPorts_54 ?_
          refine r_cv1_H X mdX5_mix wml_X5_214 dX5_mixPorts_55 ⟨rfl, rfl, Nat.le_of_ble_eq_true rfl, Nat.le_of_ble_eq_true rfl⟩ (by decide) rfl rfl (Nat.le_of_ble_eq_true rfl) rfl (zroom Z) (m_mix) ?_
          show Rn G κ 58 _ _ _ _ _
          refine r_iinc_2 (nI (j + 1)) X dX5_mixPorts_58 (nI_1 j) rfl ?_
          refine r_goto 37 X dX5_mixPorts_61 (by decide) ?_
          exact ihm (j + 1) (by omega)
      have in2 : ∀ (m j : Nat), j + m = 10 → Rn G κ 12 [some (.ref (G.1 11 0)), some (.int (nI i)), some (.int (nI j))] [] C M (fldN (ofV M i) (dpN M i) j) := by
        intro m
        induction m with
        | zero =>
          intro j hj
          have hj : j = 10 := by omega
          subst hj
          refine r_iload_n X dX5_mixPorts_12 rfl ?_
          refine r_bipush (10) X dX5_mixPorts_13 (by decide) ?_
          refine r_icmpge 35 X dX5_mixPorts_15 (by decide) (fun c15 => ?_) (fun c15 => absurd (by decide) c15)
          show Rn G κ 35 _ _ _ _ _
          refine r_iconst (0) X dX5_mixPorts_35 (by decide) ?_
          refine r_istore_2 X dX5_mixPorts_36 rfl ?_
          exact in3 (qm M i) 0 (by omega)
        | succ m ihm =>
          intro j hj
          have hjl : j < 10 := by omega
          refine r_iload_n X dX5_mixPorts_12 rfl ?_
          refine r_bipush (10) X dX5_mixPorts_13 (by decide) ?_
          refine r_icmpge 35 X dX5_mixPorts_15 (by decide) (fun c15 => absurd c15 (by simp only [i_lt, i_le, i_eq, i_m1, i_0, i_1, i_2, i_3, i_4, i_5, i_6, i_7, i_8, i_9, i_10, i_11, i_12, i_17, i_20, i_24, i_32, i_44, i_48, i_50, i_51, i_52, i_57, i_58, i_100, i_126, i_n (show j < 2 ^ 31 by omega)]; omega)) (fun c15 => ?_)
          show Rn G κ 18 _ _ _ _ _
          refine r_aload_n X dX5_mixPorts_18 rfl ?_
          refine r_aload_n X dX5_mixPorts_19 rfl ?_
          refine r_iload_n X dX5_mixPorts_20 rfl ?_
          refine r_iload_n X dX5_mixPorts_21 rfl ?_
          show Rn G κ 22 _ _ _ _ _
          refine r_cv2_I X mdX5_portNow wml_X5_147 dX5_mixPorts_22 ⟨rfl, rfl, Nat.le_of_ble_eq_true rfl, Nat.le_of_ble_eq_true rfl⟩ (by decide) rfl rfl (Nat.le_of_ble_eq_true rfl) rfl (zroom Z) (m_portNow hI hil hjl) ?_
          show Rn G κ 25 _ _ _ _ _
          refine r_i2l X dX5_mixPorts_25 ?_
          refine r_cv1_H X mdX5_mix wml_X5_214 dX5_mixPorts_26 ⟨rfl, rfl, Nat.le_of_ble_eq_true rfl, Nat.le_of_ble_eq_true rfl⟩ (by decide) rfl rfl (Nat.le_of_ble_eq_true rfl) rfl (zroom Z) (m_mix) ?_
          show Rn G κ 29 _ _ _ _ _
          refine r_iinc_2 (nI (j + 1)) X dX5_mixPorts_29 (nI_1 j) rfl ?_
          refine r_goto 12 X dX5_mixPorts_32 (by decide) ?_
          exact ihm (j + 1) (by omega)
      refine r_iload_n X dX5_mixPorts_2 rfl ?_
      refine r_aload_n X dX5_mixPorts_3 rfl ?_
      refine r_gim 2 X wfl_X5_105 dX5_mixPorts_4 (by decide) rfl ?_
      refine r_icmpge 70 X dX5_mixPorts_7 (by decide) (fun c7 => absurd c7 (by rw [hc]; simp only [i_lt, i_le, i_eq, i_m1, i_0, i_1, i_2, i_3, i_4, i_5, i_6, i_7, i_8, i_9, i_10, i_11, i_12, i_17, i_20, i_24, i_32, i_44, i_48, i_50, i_51, i_52, i_57, i_58, i_100, i_126, i_n (show np M < 2 ^ 31 by omega), i_n (show i < 2 ^ 31 by omega)]; omega)) (fun c7 => ?_)
      show Rn G κ 10 _ _ _ _ _
      refine r_iconst (0) X dX5_mixPorts_10 (by decide) ?_
      refine r_istore_2 X dX5_mixPorts_11 rfl ?_
      exact in2 10 0 (by omega)
  refine r_iconst (0) X dX5_mixPorts_0 (by decide) ?_
  refine r_istore_1 X dX5_mixPorts_1 rfl ?_
  exact loop (np M) 0 _ (by omega)
set_option maxRecDepth 100000 in
set_option maxHeartbeats 4000000 in
theorem m_mixFlows {G : bpG} {C : bpC} {M : bpM} {hl : Int64} {k : Nat} (hI : Inv M k) : Ct G yX5_mixFlows cX5_mixFlows 3 none rmX5_mixFlows [.ref (G.1 11 0)] C M hl (qH C M (dfN M hl 12)) := by
  refine ct_of [some (.ref (G.1 11 0)), none, none] (by decide +kernel) rfl rfl (Nat.le_of_ble_eq_true rfl) ?_
  intro κ X Z
  have loop : ∀ (n i : Nat) (z : Option Value), i + n = 12 → Rn G κ 2 [some (.ref (G.1 11 0)), some (.int (nI i)), z] [] C M (dfN M hl i) := by
    intro n
    induction n with
    | zero =>
      intro i z hi
      have hi : i = 12 := by omega
      subst hi
      refine r_iload_n X dX5_mixFlows_2 rfl ?_
      refine r_bipush (12) X dX5_mixFlows_3 (by decide) ?_
      refine r_icmpge 49 X dX5_mixFlows_5 (by decide) (fun c5 => ?_) (fun c5 => absurd (by decide) c5)
      show Rn G κ 49 _ _ _ _ _
      refine r_vret X Z dX5_mixFlows_49 ?_
      exact ⟨rfl, rfl, rfl, rfl⟩
    | succ n ih =>
      intro i z hi
      have hil : i < 12 := by omega
      have in2 : ∀ (m j : Nat), j + m = 7 → Rn G κ 20 [some (.ref (G.1 11 0)), some (.int (nI i)), some (.int (nI j))] [] C M (fldN (fun w => M (fsl w) i) (31 * dfN M hl i + (oI (way M i)).toInt64) j) := by
        intro m
        induction m with
        | zero =>
          intro j hj
          have hj : j = 7 := by omega
          subst hj
          refine r_iload_n X dX5_mixFlows_20 rfl ?_
          refine r_bipush (7) X dX5_mixFlows_21 (by decide) ?_
          refine r_icmpge 43 X dX5_mixFlows_23 (by decide) (fun c23 => ?_) (fun c23 => absurd (by decide) c23)
          show Rn G κ 43 _ _ _ _ _
          refine r_iinc_1 (nI (i + 1)) X dX5_mixFlows_43 (nI_1 i) rfl ?_
          refine r_goto 2 X dX5_mixFlows_46 (by decide) ?_
          exact ih (i + 1) _ (by omega)
        | succ m ihm =>
          intro j hj
          have hjl : j < 7 := by omega
          refine r_iload_n X dX5_mixFlows_20 rfl ?_
          refine r_bipush (7) X dX5_mixFlows_21 (by decide) ?_
          refine r_icmpge 43 X dX5_mixFlows_23 (by decide) (fun c23 => absurd c23 (by simp only [i_lt, i_le, i_eq, i_m1, i_0, i_1, i_2, i_3, i_4, i_5, i_6, i_7, i_8, i_9, i_10, i_11, i_12, i_17, i_20, i_24, i_32, i_44, i_48, i_50, i_51, i_52, i_57, i_58, i_100, i_126, i_n (show j < 2 ^ 31 by omega)]; omega)) (fun c23 => ?_)
          show Rn G κ 26 _ _ _ _ _
          refine r_aload_n X dX5_mixFlows_26 rfl ?_
          refine r_aload_n X dX5_mixFlows_27 rfl ?_
          refine r_iload_n X dX5_mixFlows_28 rfl ?_
          refine r_iload_n X dX5_mixFlows_29 rfl ?_
          show Rn G κ 30 _ _ _ _ _
          refine r_cv2_I X mdX5_flowNow wml_X5_186 dX5_mixFlows_30 ⟨rfl, rfl, Nat.le_of_ble_eq_true rfl, Nat.le_of_ble_eq_true rfl⟩ (by decide) rfl rfl (Nat.le_of_ble_eq_true rfl) rfl (zroom Z) (m_flowNow (hI.2.1 i hil).1 hil hjl) ?_
          show Rn G κ 33 _ _ _ _ _
          refine r_i2l X dX5_mixFlows_33 ?_
          refine r_cv1_H X mdX5_mix wml_X5_214 dX5_mixFlows_34 ⟨rfl, rfl, Nat.le_of_ble_eq_true rfl, Nat.le_of_ble_eq_true rfl⟩ (by decide) rfl rfl (Nat.le_of_ble_eq_true rfl) rfl (zroom Z) (m_mix) ?_
          show Rn G κ 37 _ _ _ _ _
          refine r_iinc_2 (nI (j + 1)) X dX5_mixFlows_37 (nI_1 j) rfl ?_
          refine r_goto 20 X dX5_mixFlows_40 (by decide) ?_
          exact ihm (j + 1) (by omega)
      refine r_iload_n X dX5_mixFlows_2 rfl ?_
      refine r_bipush (12) X dX5_mixFlows_3 (by decide) ?_
      refine r_icmpge 49 X dX5_mixFlows_5 (by decide) (fun c5 => absurd c5 (by simp only [i_lt, i_le, i_eq, i_m1, i_0, i_1, i_2, i_3, i_4, i_5, i_6, i_7, i_8, i_9, i_10, i_11, i_12, i_17, i_20, i_24, i_32, i_44, i_48, i_50, i_51, i_52, i_57, i_58, i_100, i_126, i_n (show i < 2 ^ 31 by omega)]; omega)) (fun c5 => ?_)
      show Rn G κ 8 _ _ _ _ _
      refine r_aload_n X dX5_mixFlows_8 rfl ?_
      refine r_aload_n X dX5_mixFlows_9 rfl ?_
      refine r_iload_n X dX5_mixFlows_10 rfl ?_
      refine r_cv1_I X mdX5_wayOf wml_X5_164 dX5_mixFlows_11 ⟨rfl, rfl, Nat.le_of_ble_eq_true rfl, Nat.le_of_ble_eq_true rfl⟩ (by decide) rfl rfl (Nat.le_of_ble_eq_true rfl) rfl (zroom Z) (m_wayOf hI.2.2.1.1 hil) ?_
      show Rn G κ 14 _ _ _ _ _
      show Rn G κ 14 _ _ _ _ _
      refine r_i2l X dX5_mixFlows_14 ?_
      refine r_cv1_H X mdX5_mix wml_X5_214 dX5_mixFlows_15 ⟨rfl, rfl, Nat.le_of_ble_eq_true rfl, Nat.le_of_ble_eq_true rfl⟩ (by decide) rfl rfl (Nat.le_of_ble_eq_true rfl) rfl (zroom Z) (m_mix) ?_
      show Rn G κ 18 _ _ _ _ _
      refine r_iconst (0) X dX5_mixFlows_18 (by decide) ?_
      refine r_istore_2 X dX5_mixFlows_19 rfl ?_
      exact in2 7 0 (by omega)
  refine r_iconst (0) X dX5_mixFlows_0 (by decide) ?_
  refine r_istore_1 X dX5_mixFlows_1 rfl ?_
  exact loop 12 0 _ (by omega)
set_option maxRecDepth 100000 in
set_option maxHeartbeats 4000000 in
theorem m_digest {G : bpG} {C : bpC} {M : bpM} {hl : Int64} {k : Nat} (hI : Inv M k) : Ct G yX5_digest cX5_digest 3 (some .long) rmX5_digest [.ref (G.1 11 0)] C M hl (qHl C M (digS M)) := by
  refine ct_of [some (.ref (G.1 11 0)), none, none] (by decide +kernel) rfl rfl (Nat.le_of_ble_eq_true rfl) ?_
  intro κ X Z
  have hsz : M 0 0 = nI (pl M) := hI.2.2.2.2.1
  have h17 := hI.2.2.2.2.2
  have loop5 : ∀ (n i : Nat) (z : Option Value), i + n = 12 → Rn G κ 81 [some (.ref (G.1 11 0)), some (.int (nI i)), z] [] C M (fldN (cntV M) (fldN (M 1) (dfN M (dkN M (dpN M (np M)) 4) 12) (pl M)) i) := by
    intro n
    induction n with
    | zero =>
      intro i z hi
      have hi : i = 12 := by omega
      subst hi
      refine r_iload_n X dX5_digest_81 rfl ?_
      refine r_bipush (12) X dX5_digest_82 (by decide) ?_
      refine r_icmpge 103 X dX5_digest_84 (by decide) (fun c84 => ?_) (fun c84 => absurd (by decide) c84)
      show Rn G κ 103 _ _ _ _ _
      refine r_aload_n X dX5_digest_103 rfl ?_
      refine r_ghm X wfl_X5_210 dX5_digest_104 ?_
      refine r_lret X Z dX5_digest_107 ?_
      exact ⟨rfl, rfl, rfl⟩
    | succ n ih =>
      intro i z hi
      have hil : i < 12 := by omega
      refine r_iload_n X dX5_digest_81 rfl ?_
      refine r_bipush (12) X dX5_digest_82 (by decide) ?_
      refine r_icmpge 103 X dX5_digest_84 (by decide) (fun c84 => absurd c84 (by simp only [i_lt, i_le, i_eq, i_m1, i_0, i_1, i_2, i_3, i_4, i_5, i_6, i_7, i_8, i_9, i_10, i_11, i_12, i_17, i_20, i_24, i_32, i_44, i_48, i_50, i_51, i_52, i_57, i_58, i_100, i_126, i_n (show i < 2 ^ 31 by omega)]; omega)) (fun c84 => ?_)
      show Rn G κ 87 _ _ _ _ _
      refine r_aload_n X dX5_digest_87 rfl ?_
      refine r_aload_n X dX5_digest_88 rfl ?_
      refine r_iload_n X dX5_digest_89 rfl ?_
      refine r_cv1_I X mdX5_howMany wml_X5_205 dX5_digest_90 ⟨rfl, rfl, Nat.le_of_ble_eq_true rfl, Nat.le_of_ble_eq_true rfl⟩ (by decide) rfl rfl (Nat.le_of_ble_eq_true rfl) rfl (zroom Z) (m_howMany) ?_
      show Rn G κ 93 _ _ _ _ _
      refine r_top (countS_in hil) ?_
      show Rn G κ 93 _ _ _ _ _
      refine r_i2l X dX5_digest_93 ?_
      refine r_cv1_H X mdX5_mix wml_X5_214 dX5_digest_94 ⟨rfl, rfl, Nat.le_of_ble_eq_true rfl, Nat.le_of_ble_eq_true rfl⟩ (by decide) rfl rfl (Nat.le_of_ble_eq_true rfl) rfl (zroom Z) (m_mix) ?_
      show Rn G κ 97 _ _ _ _ _
      refine r_iinc_1 (nI (i + 1)) X dX5_digest_97 (nI_1 i) rfl ?_
      refine r_goto 81 X dX5_digest_100 (by decide) ?_
      exact ih (i + 1) _ (by omega)
  have loop4 : ∀ (n i : Nat) (z : Option Value), i + n = pl M → Rn G κ 54 [some (.ref (G.1 11 0)), some (.int (nI i)), z] [] C M (fldN (M 1) (dfN M (dkN M (dpN M (np M)) 4) 12) i) := by
    intro n
    induction n with
    | zero =>
      intro i z hi
      have hi : i = pl M := by omega
      subst hi
      refine r_iload_n X dX5_digest_54 rfl ?_
      refine r_aload_n X dX5_digest_55 rfl ?_
      refine r_gim 0 X wfl_X5_88 dX5_digest_56 (by decide) rfl ?_
      refine r_icmpge 79 X dX5_digest_59 (by decide) (fun c59 => ?_) (fun c59 => absurd (by rw [hsz]; exact Int32.le_refl _) c59)
      show Rn G κ 79 _ _ _ _ _
      refine r_iconst (0) X dX5_digest_79 (by decide) ?_
      refine r_istore_1 X dX5_digest_80 rfl ?_
      exact loop5 12 0 _ (by omega)
    | succ n ih =>
      intro i z hi
      have hil : i < pl M := by omega
      have hi17 : i < 17 := by omega
      refine r_iload_n X dX5_digest_54 rfl ?_
      refine r_aload_n X dX5_digest_55 rfl ?_
      refine r_gim 0 X wfl_X5_88 dX5_digest_56 (by decide) rfl ?_
      refine r_icmpge 79 X dX5_digest_59 (by decide) (fun c59 => absurd c59 (by rw [hsz]; simp only [i_lt, i_le, i_eq, i_m1, i_0, i_1, i_2, i_3, i_4, i_5, i_6, i_7, i_8, i_9, i_10, i_11, i_12, i_17, i_20, i_24, i_32, i_44, i_48, i_50, i_51, i_52, i_57, i_58, i_100, i_126, i_n (show pl M < 2 ^ 31 by omega), i_n (show i < 2 ^ 31 by omega)]; omega)) (fun c59 => ?_)
      show Rn G κ 62 _ _ _ _ _
      refine r_aload_n X dX5_digest_62 rfl ?_
      refine r_aload_n X dX5_digest_63 rfl ?_
      refine r_gam 1 X wfl_X5_7 dX5_digest_64 (by decide) rfl ?_
      show Rn G κ 67 _ _ _ _ _
      refine r_iload_n X dX5_digest_67 rfl ?_
      refine r_iaM _ X rfl (by assumption) dX5_digest_68 (by decide) rfl rfl rfl ?_
      refine r_i2l X dX5_digest_69 ?_
      refine r_cv1_H X mdX5_mix wml_X5_214 dX5_digest_70 ⟨rfl, rfl, Nat.le_of_ble_eq_true rfl, Nat.le_of_ble_eq_true rfl⟩ (by decide) rfl rfl (Nat.le_of_ble_eq_true rfl) rfl (zroom Z) (m_mix) ?_
      show Rn G κ 73 _ _ _ _ _
      refine r_iinc_1 (nI (i + 1)) X dX5_digest_73 (nI_1 i) rfl ?_
      refine r_goto 54 X dX5_digest_76 (by decide) ?_
      exact ih (i + 1) _ (by omega)
  have loop2 : ∀ (n i : Nat) (z : Option Value), i + n = 4 → Rn G κ 13 [some (.ref (G.1 11 0)), some (.int (nI i)), z] [] C M (dkN M (dpN M (np M)) i) := by
    intro n
    induction n with
    | zero =>
      intro i z hi
      have hi : i = 4 := by omega
      subst hi
      refine r_iload_n X dX5_digest_13 rfl ?_
      refine r_iconst (4) X dX5_digest_14 (by decide) ?_
      refine r_icmpge 48 X dX5_digest_15 (by decide) (fun c15 => ?_) (fun c15 => absurd (by decide) c15)
      show Rn G κ 48 _ _ _ _ _
      refine r_aload_n X dX5_digest_48 rfl ?_
      refine r_cv0_H X mdX5_mixFlows wml_X5_223 dX5_digest_49 ⟨rfl, rfl, Nat.le_of_ble_eq_true rfl, Nat.le_of_ble_eq_true rfl⟩ (by decide) rfl rfl (Nat.le_of_ble_eq_true rfl) rfl (zroom Z) (m_mixFlows hI) ?_
      show Rn G κ 52 _ _ _ _ _
      refine r_iconst (0) X dX5_digest_52 (by decide) ?_
      refine r_istore_1 X dX5_digest_53 rfl ?_
      exact loop4 (pl M) 0 _ (by omega)
    | succ n ih =>
      intro i z hi
      have hil : i < 4 := by omega
      have in2 : ∀ (m j : Nat), j + m = 4 → Rn G κ 20 [some (.ref (G.1 11 0)), some (.int (nI i)), some (.int (nI j))] [] C M (fldN (keyV M (nI i)) (dkN M (dpN M (np M)) i) j) := by
        intro m
        induction m with
        | zero =>
          intro j hj
          have hj : j = 4 := by omega
          subst hj
          refine r_iload_n X dX5_digest_20 rfl ?_
          refine r_iconst (4) X dX5_digest_21 (by decide) ?_
          refine r_icmpge 42 X dX5_digest_22 (by decide) (fun c22 => ?_) (fun c22 => absurd (by decide) c22)
          show Rn G κ 42 _ _ _ _ _
          refine r_iinc_1 (nI (i + 1)) X dX5_digest_42 (nI_1 i) rfl ?_
          refine r_goto 13 X dX5_digest_45 (by decide) ?_
          exact ih (i + 1) _ (by omega)
        | succ m ihm =>
          intro j hj
          have hjl : j < 4 := by omega
          refine r_iload_n X dX5_digest_20 rfl ?_
          refine r_iconst (4) X dX5_digest_21 (by decide) ?_
          refine r_icmpge 42 X dX5_digest_22 (by decide) (fun c22 => absurd c22 (by simp only [i_lt, i_le, i_eq, i_m1, i_0, i_1, i_2, i_3, i_4, i_5, i_6, i_7, i_8, i_9, i_10, i_11, i_12, i_17, i_20, i_24, i_32, i_44, i_48, i_50, i_51, i_52, i_57, i_58, i_100, i_126, i_n (show j < 2 ^ 31 by omega)]; omega)) (fun c22 => ?_)
          show Rn G κ 25 _ _ _ _ _
          refine r_aload_n X dX5_digest_25 rfl ?_
          refine r_aload_n X dX5_digest_26 rfl ?_
          refine r_iload_n X dX5_digest_27 rfl ?_
          refine r_iload_n X dX5_digest_28 rfl ?_
          show Rn G κ 29 _ _ _ _ _
          refine r_cv2_I X mdX5_keyNow wml_X5_158 dX5_digest_29 ⟨rfl, rfl, Nat.le_of_ble_eq_true rfl, Nat.le_of_ble_eq_true rfl⟩ (by decide) rfl rfl (Nat.le_of_ble_eq_true rfl) rfl (zroom Z) (m_keyNow hI.2.2.1.1 hjl) ?_
          show Rn G κ 32 _ _ _ _ _
          refine r_i2l X dX5_digest_32 ?_
          refine r_cv1_H X mdX5_mix wml_X5_214 dX5_digest_33 ⟨rfl, rfl, Nat.le_of_ble_eq_true rfl, Nat.le_of_ble_eq_true rfl⟩ (by decide) rfl rfl (Nat.le_of_ble_eq_true rfl) rfl (zroom Z) (m_mix) ?_
          show Rn G κ 36 _ _ _ _ _
          refine r_iinc_2 (nI (j + 1)) X dX5_digest_36 (nI_1 j) rfl ?_
          refine r_goto 20 X dX5_digest_39 (by decide) ?_
          exact ihm (j + 1) (by omega)
      refine r_iload_n X dX5_digest_13 rfl ?_
      refine r_iconst (4) X dX5_digest_14 (by decide) ?_
      refine r_icmpge 48 X dX5_digest_15 (by decide) (fun c15 => absurd c15 (by simp only [i_lt, i_le, i_eq, i_m1, i_0, i_1, i_2, i_3, i_4, i_5, i_6, i_7, i_8, i_9, i_10, i_11, i_12, i_17, i_20, i_24, i_32, i_44, i_48, i_50, i_51, i_52, i_57, i_58, i_100, i_126, i_n (show i < 2 ^ 31 by omega)]; omega)) (fun c15 => ?_)
      show Rn G κ 18 _ _ _ _ _
      refine r_iconst (0) X dX5_digest_18 (by decide) ?_
      refine r_istore_2 X dX5_digest_19 rfl ?_
      exact in2 4 0 (by omega)
  refine r_aload_n X dX5_digest_0 rfl ?_
  refine r_ldc2 wcL_X5_218 X dX5_digest_1 ?_
  refine r_phm X wfl_X5_210 dX5_digest_4 ?_
  refine r_aload_n X dX5_digest_7 rfl ?_
  refine r_cv0_H X mdX5_mixPorts wml_X5_220 dX5_digest_8 ⟨rfl, rfl, Nat.le_of_ble_eq_true rfl, Nat.le_of_ble_eq_true rfl⟩ (by decide) rfl rfl (Nat.le_of_ble_eq_true rfl) rfl (zroom Z) (m_mixPorts hI rfl) ?_
  show Rn G κ 11 _ _ _ _ _
  refine r_iconst (0) X dX5_digest_11 (by decide) ?_
  refine r_istore_1 X dX5_digest_12 rfl ?_
  exact loop2 4 0 _ (by omega)
