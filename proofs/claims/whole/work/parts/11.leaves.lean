set_option maxRecDepth 100000 in
set_option maxHeartbeats 4000000 in
theorem c_qhas {G : bpG} {C : bpC} {M : bpM} {hl : Int64} {p : Nat} {x : Int32} (hp : p < 6) : Ct G yX3_has cX3_has 2 (some .boolean) rmX3_has [.ref (G.1 6 p), .int x] C M hl (qI C M hl (bI (decide (0 ≤ x) && decide (x < C 6 p 2)))) := by
  refine ct_of [some (.ref (G.1 6 p)), some (.int x)] (by decide +kernel) rfl rfl (Nat.le_of_ble_eq_true rfl) ?_
  intro κ X Z
  refine r_iload_n X dX3_has_0 rfl ?_
  refine r_iflt 16 X dX3_has_1 (by decide) (fun c1 => ?_) (fun c1 => ?_)
  · show Rn G κ 16 _ _ _ _ _
    refine r_iconst (0) X dX3_has_16 (by decide) ?_
    refine r_zret X Z dX3_has_17 (by decide) ?_
    refine ⟨rfl, rfl, rfl, ret_i ?_⟩
    simp only [i_lt, i_le, i_eq, i_m1, i_0, i_1, i_2, i_3, i_4, i_5, i_6, i_7, i_8, i_9, i_10, i_11, i_12, i_17, i_20, i_24, i_32, i_44, i_48, i_50, i_51, i_52, i_57, i_58, i_100, i_126] at c1
    first | refine bI_f ?_ | refine bI_t ?_
    simp only [Bool.and_eq_true, Bool.or_eq_true, decide_eq_true_eq, Bool.and_eq_false_iff, Bool.or_eq_false_iff, decide_eq_false_iff_not, Bool.not_eq_true', Bool.not_eq_false', i_lt, i_le, i_eq, i_m1, i_0, i_1, i_2, i_3, i_4, i_5, i_6, i_7, i_8, i_9, i_10, i_11, i_12, i_17, i_20, i_24, i_32, i_44, i_48, i_50, i_51, i_52, i_57, i_58, i_100, i_126]
    omega
  · show Rn G κ 4 _ _ _ _ _
    refine r_iload_n X dX3_has_4 rfl ?_
    refine r_aload_n X dX3_has_5 rfl ?_
    refine r_gi6 2 X (by assumption) wfl_X3_18 dX3_has_6 (by decide) rfl ?_
    refine r_icmpge 16 X dX3_has_9 (by decide) (fun c9 => ?_) (fun c9 => ?_)
    · show Rn G κ 16 _ _ _ _ _
      refine r_iconst (0) X dX3_has_16 (by decide) ?_
      refine r_zret X Z dX3_has_17 (by decide) ?_
      refine ⟨rfl, rfl, rfl, ret_i ?_⟩
      simp only [i_lt, i_le, i_eq, i_m1, i_0, i_1, i_2, i_3, i_4, i_5, i_6, i_7, i_8, i_9, i_10, i_11, i_12, i_17, i_20, i_24, i_32, i_44, i_48, i_50, i_51, i_52, i_57, i_58, i_100, i_126] at c1 c9
      first | refine bI_f ?_ | refine bI_t ?_
      simp only [Bool.and_eq_true, Bool.or_eq_true, decide_eq_true_eq, Bool.and_eq_false_iff, Bool.or_eq_false_iff, decide_eq_false_iff_not, Bool.not_eq_true', Bool.not_eq_false', i_lt, i_le, i_eq, i_m1, i_0, i_1, i_2, i_3, i_4, i_5, i_6, i_7, i_8, i_9, i_10, i_11, i_12, i_17, i_20, i_24, i_32, i_44, i_48, i_50, i_51, i_52, i_57, i_58, i_100, i_126]
      omega
    · show Rn G κ 12 _ _ _ _ _
      refine r_iconst (1) X dX3_has_12 (by decide) ?_
      refine r_goto 17 X dX3_has_13 (by decide) ?_
      refine r_zret X Z dX3_has_17 (by decide) ?_
      refine ⟨rfl, rfl, rfl, ret_i ?_⟩
      simp only [i_lt, i_le, i_eq, i_m1, i_0, i_1, i_2, i_3, i_4, i_5, i_6, i_7, i_8, i_9, i_10, i_11, i_12, i_17, i_20, i_24, i_32, i_44, i_48, i_50, i_51, i_52, i_57, i_58, i_100, i_126] at c1 c9
      first | refine bI_f ?_ | refine bI_t ?_
      simp only [Bool.and_eq_true, Bool.or_eq_true, decide_eq_true_eq, Bool.and_eq_false_iff, Bool.or_eq_false_iff, decide_eq_false_iff_not, Bool.not_eq_true', Bool.not_eq_false', i_lt, i_le, i_eq, i_m1, i_0, i_1, i_2, i_3, i_4, i_5, i_6, i_7, i_8, i_9, i_10, i_11, i_12, i_17, i_20, i_24, i_32, i_44, i_48, i_50, i_51, i_52, i_57, i_58, i_100, i_126]
      omega
set_option maxRecDepth 100000 in
set_option maxHeartbeats 4000000 in
theorem c_flowAt {G : bpG} {C : bpC} {M : bpM} {hl : Int64} {p j : Nat} (hp : p < 6) (hj : j < 20) (h : nI j < C 6 p 2) : Ct G yX3_flowAt cX3_flowAt 2 (some .int) rmX3_flowAt [.ref (G.1 6 p), .int (nI j)] C M hl (qI C M hl (C 7 p j)) := by
  refine ct_of [some (.ref (G.1 6 p)), some (.int (nI j))] (by decide +kernel) rfl rfl (Nat.le_of_ble_eq_true rfl) ?_
  intro κ X Z
  refine r_aload_n X dX3_flowAt_0 rfl ?_
  refine r_iload_n X dX3_flowAt_1 rfl ?_
  refine r_cv1_I X mdX3_has wml_X3_30 dX3_flowAt_2 ⟨rfl, rfl, Nat.le_of_ble_eq_true rfl, Nat.le_of_ble_eq_true rfl⟩ (by assumption) rfl rfl (Nat.le_of_ble_eq_true rfl) rfl (zroom Z) (c_qhas hp) ?_
  show Rn G κ 5 _ _ _ _ _
  refine r_ifeq 17 X dX3_flowAt_5 (by decide) (fun c5 => absurd c5 (by simp [bI, h, nI_pos' (show j < 2 ^ 31 by omega)])) (fun c5 => ?_)
  show Rn G κ 8 _ _ _ _ _
  refine r_aload_n X dX3_flowAt_8 rfl ?_
  refine r_gr6_0 X (by assumption) wfl_X3_11 dX3_flowAt_9 ?_
  refine r_iload_n X dX3_flowAt_12 rfl ?_
  show Rn G κ 13 _ _ _ _ _
  refine r_iaC _ X rfl (by assumption) (by assumption) dX3_flowAt_13 (by decide) rfl rfl rfl ?_
  refine r_goto 18 X dX3_flowAt_14 (by decide) ?_
  refine r_iret X Z dX3_flowAt_18 ?_
  exact ⟨rfl, rfl, rfl, rfl⟩
set_option maxRecDepth 100000 in
set_option maxHeartbeats 4000000 in
theorem c_numberAt {G : bpG} {C : bpC} {M : bpM} {hl : Int64} {p j : Nat} (hp : p < 6) (hj : j < 20) (h : nI j < C 6 p 2) : Ct G yX3_numberAt cX3_numberAt 2 (some .int) rmX3_numberAt [.ref (G.1 6 p), .int (nI j)] C M hl (qI C M hl (C 8 p j)) := by
  refine ct_of [some (.ref (G.1 6 p)), some (.int (nI j))] (by decide +kernel) rfl rfl (Nat.le_of_ble_eq_true rfl) ?_
  intro κ X Z
  refine r_aload_n X dX3_numberAt_0 rfl ?_
  refine r_iload_n X dX3_numberAt_1 rfl ?_
  refine r_cv1_I X mdX3_has wml_X3_30 dX3_numberAt_2 ⟨rfl, rfl, Nat.le_of_ble_eq_true rfl, Nat.le_of_ble_eq_true rfl⟩ (by assumption) rfl rfl (Nat.le_of_ble_eq_true rfl) rfl (zroom Z) (c_qhas hp) ?_
  show Rn G κ 5 _ _ _ _ _
  refine r_ifeq 17 X dX3_numberAt_5 (by decide) (fun c5 => absurd c5 (by simp [bI, h, nI_pos' (show j < 2 ^ 31 by omega)])) (fun c5 => ?_)
  show Rn G κ 8 _ _ _ _ _
  refine r_aload_n X dX3_numberAt_8 rfl ?_
  refine r_gr6_1 X (by assumption) wfl_X3_15 dX3_numberAt_9 ?_
  refine r_iload_n X dX3_numberAt_12 rfl ?_
  show Rn G κ 13 _ _ _ _ _
  refine r_iaC _ X rfl (by assumption) (by assumption) dX3_numberAt_13 (by decide) rfl rfl rfl ?_
  refine r_goto 18 X dX3_numberAt_14 (by decide) ?_
  refine r_iret X Z dX3_numberAt_18 ?_
  exact ⟨rfl, rfl, rfl, rfl⟩
set_option maxRecDepth 100000 in
set_option maxHeartbeats 4000000 in
theorem c_isMarker {G : bpG} {C : bpC} {M : bpM} {hl : Int64} {p j : Nat} (hp : p < 6) (hj : j < 20) (h : nI j < C 6 p 2) : Ct G yX3_isMarker cX3_isMarker 2 (some .boolean) rmX3_isMarker [.ref (G.1 6 p), .int (nI j)] C M hl (qI C M hl (bI (decide (C 8 p j = 0)))) := by
  refine ct_of [some (.ref (G.1 6 p)), some (.int (nI j))] (by decide +kernel) rfl rfl (Nat.le_of_ble_eq_true rfl) ?_
  intro κ X Z
  refine r_aload_n X dX3_isMarker_0 rfl ?_
  refine r_iload_n X dX3_isMarker_1 rfl ?_
  refine r_cv1_I X mdX3_has wml_X3_30 dX3_isMarker_2 ⟨rfl, rfl, Nat.le_of_ble_eq_true rfl, Nat.le_of_ble_eq_true rfl⟩ (by assumption) rfl rfl (Nat.le_of_ble_eq_true rfl) rfl (zroom Z) (c_qhas hp) ?_
  show Rn G κ 5 _ _ _ _ _
  refine r_ifeq 21 X dX3_isMarker_5 (by decide) (fun c5 => absurd c5 (by simp [bI, h, nI_pos' (show j < 2 ^ 31 by omega)])) (fun c5 => ?_)
  show Rn G κ 8 _ _ _ _ _
  refine r_aload_n X dX3_isMarker_8 rfl ?_
  refine r_gr6_1 X (by assumption) wfl_X3_15 dX3_isMarker_9 ?_
  refine r_iload_n X dX3_isMarker_12 rfl ?_
  show Rn G κ 13 _ _ _ _ _
  refine r_iaC _ X rfl (by assumption) (by assumption) dX3_isMarker_13 (by decide) rfl rfl rfl ?_
  refine r_ifne 21 X dX3_isMarker_14 (by decide) (fun c14 => ?_) (fun c14 => ?_)
  · show Rn G κ 21 _ _ _ _ _
    refine r_iconst (0) X dX3_isMarker_21 (by decide) ?_
    refine r_zret X Z dX3_isMarker_22 (by decide) ?_
    refine ⟨rfl, rfl, rfl, ret_i ?_⟩
    simp [bI, c14]
  · show Rn G κ 17 _ _ _ _ _
    refine r_iconst (1) X dX3_isMarker_17 (by decide) ?_
    refine r_goto 22 X dX3_isMarker_18 (by decide) ?_
    refine r_zret X Z dX3_isMarker_22 (by decide) ?_
    refine ⟨rfl, rfl, rfl, ret_i ?_⟩
    simp [bI, c14]
set_option maxRecDepth 100000 in
set_option maxHeartbeats 4000000 in
theorem c_isFlow {G : bpG} {C : bpC} {M : bpM} {hl : Int64} {x : Int32} : Ct G yX4_isFlow cX4_isFlow 1 (some .boolean) rmX4_isFlow [.int x] C M hl (qI C M hl (bI (decide (0 ≤ x) && decide (x < 12)))) := by
  refine ct_of [some (.int x)] (by decide +kernel) rfl rfl (Nat.le_of_ble_eq_true rfl) ?_
  intro κ X Z
  refine r_iload_n X dX4_isFlow_0 rfl ?_
  refine r_iflt 14 X dX4_isFlow_1 (by decide) (fun c1 => ?_) (fun c1 => ?_)
  · show Rn G κ 14 _ _ _ _ _
    refine r_iconst (0) X dX4_isFlow_14 (by decide) ?_
    refine r_zret X Z dX4_isFlow_15 (by decide) ?_
    refine ⟨rfl, rfl, rfl, ret_i ?_⟩
    simp only [i_lt, i_le, i_eq, i_m1, i_0, i_1, i_2, i_3, i_4, i_5, i_6, i_7, i_8, i_9, i_10, i_11, i_12, i_17, i_20, i_24, i_32, i_44, i_48, i_50, i_51, i_52, i_57, i_58, i_100, i_126] at c1
    first | refine bI_f ?_ | refine bI_t ?_
    simp only [Bool.and_eq_true, Bool.or_eq_true, decide_eq_true_eq, Bool.and_eq_false_iff, Bool.or_eq_false_iff, decide_eq_false_iff_not, Bool.not_eq_true', Bool.not_eq_false', i_lt, i_le, i_eq, i_m1, i_0, i_1, i_2, i_3, i_4, i_5, i_6, i_7, i_8, i_9, i_10, i_11, i_12, i_17, i_20, i_24, i_32, i_44, i_48, i_50, i_51, i_52, i_57, i_58, i_100, i_126]
    omega
  · show Rn G κ 4 _ _ _ _ _
    refine r_iload_n X dX4_isFlow_4 rfl ?_
    refine r_bipush (12) X dX4_isFlow_5 (by decide) ?_
    refine r_icmpge 14 X dX4_isFlow_7 (by decide) (fun c7 => ?_) (fun c7 => ?_)
    · show Rn G κ 14 _ _ _ _ _
      refine r_iconst (0) X dX4_isFlow_14 (by decide) ?_
      refine r_zret X Z dX4_isFlow_15 (by decide) ?_
      refine ⟨rfl, rfl, rfl, ret_i ?_⟩
      simp only [i_lt, i_le, i_eq, i_m1, i_0, i_1, i_2, i_3, i_4, i_5, i_6, i_7, i_8, i_9, i_10, i_11, i_12, i_17, i_20, i_24, i_32, i_44, i_48, i_50, i_51, i_52, i_57, i_58, i_100, i_126] at c1 c7
      first | refine bI_f ?_ | refine bI_t ?_
      simp only [Bool.and_eq_true, Bool.or_eq_true, decide_eq_true_eq, Bool.and_eq_false_iff, Bool.or_eq_false_iff, decide_eq_false_iff_not, Bool.not_eq_true', Bool.not_eq_false', i_lt, i_le, i_eq, i_m1, i_0, i_1, i_2, i_3, i_4, i_5, i_6, i_7, i_8, i_9, i_10, i_11, i_12, i_17, i_20, i_24, i_32, i_44, i_48, i_50, i_51, i_52, i_57, i_58, i_100, i_126]
      omega
    · show Rn G κ 10 _ _ _ _ _
      refine r_iconst (1) X dX4_isFlow_10 (by decide) ?_
      refine r_goto 15 X dX4_isFlow_11 (by decide) ?_
      refine r_zret X Z dX4_isFlow_15 (by decide) ?_
      refine ⟨rfl, rfl, rfl, ret_i ?_⟩
      simp only [i_lt, i_le, i_eq, i_m1, i_0, i_1, i_2, i_3, i_4, i_5, i_6, i_7, i_8, i_9, i_10, i_11, i_12, i_17, i_20, i_24, i_32, i_44, i_48, i_50, i_51, i_52, i_57, i_58, i_100, i_126] at c1 c7
      first | refine bI_f ?_ | refine bI_t ?_
      simp only [Bool.and_eq_true, Bool.or_eq_true, decide_eq_true_eq, Bool.and_eq_false_iff, Bool.or_eq_false_iff, decide_eq_false_iff_not, Bool.not_eq_true', Bool.not_eq_false', i_lt, i_le, i_eq, i_m1, i_0, i_1, i_2, i_3, i_4, i_5, i_6, i_7, i_8, i_9, i_10, i_11, i_12, i_17, i_20, i_24, i_32, i_44, i_48, i_50, i_51, i_52, i_57, i_58, i_100, i_126]
      omega
set_option maxRecDepth 100000 in
set_option maxHeartbeats 4000000 in
theorem c_append {G : bpG} {C : bpC} {M : bpM} {hl : Int64} {p m f : Nat} {n : Int32} (hp : p < 6) (hm : m < 20) (h : C 6 p 2 = nI m) (hf : f < 12) : Ct G yX3_append cX3_append 3 none rmX3_append [.ref (G.1 6 p), .int (nI f), .int n] C M hl (qC M hl (fun C' => C' = upC (upC (upC C 7 p m (nI f)) 8 p m n) 6 p 2 (nI (m + 1)))) := by
  refine ct_of [some (.ref (G.1 6 p)), some (.int (nI f)), some (.int n)] (by decide +kernel) rfl rfl (Nat.le_of_ble_eq_true rfl) ?_
  intro κ X Z
  refine r_aload_n X dX3_append_0 rfl ?_
  refine r_gi6 2 X (by assumption) wfl_X3_18 dX3_append_1 (by decide) rfl ?_
  refine r_bipush (20) X dX3_append_4 (by decide) ?_
  refine r_icmpge 46 X dX3_append_6 (by decide) (fun c6 => absurd c6 (by rw [h]; simp only [i_lt, i_le, i_eq, i_m1, i_0, i_1, i_2, i_3, i_4, i_5, i_6, i_7, i_8, i_9, i_10, i_11, i_12, i_17, i_20, i_24, i_32, i_44, i_48, i_50, i_51, i_52, i_57, i_58, i_100, i_126, i_n (show m < 2 ^ 31 by omega)]; omega)) (fun c6 => ?_)
  show Rn G κ 9 _ _ _ _ _
  refine r_iload_n X dX3_append_9 rfl ?_
  refine r_csN1_I X mdX4_isFlow wnb_X3_22 dX3_append_10 ⟨rfl, rfl, Nat.le_of_ble_eq_true rfl, Nat.le_of_ble_eq_true rfl⟩ (Nat.le_of_ble_eq_true rfl) rfl (zroom Z) (c_isFlow) ?_
  show Rn G κ 13 _ _ _ _ _
  refine r_ifeq 46 X dX3_append_13 (by decide) (fun c13 => absurd c13 (by rw [show (decide (0 ≤ nI f) && decide (nI f < 12)) = true by simp only [Bool.and_eq_true, Bool.or_eq_true, decide_eq_true_eq, Bool.and_eq_false_iff, Bool.or_eq_false_iff, decide_eq_false_iff_not, Bool.not_eq_true', Bool.not_eq_false', i_lt, i_le, i_eq, i_m1, i_0, i_1, i_2, i_3, i_4, i_5, i_6, i_7, i_8, i_9, i_10, i_11, i_12, i_17, i_20, i_24, i_32, i_44, i_48, i_50, i_51, i_52, i_57, i_58, i_100, i_126, i_n (show f < 2 ^ 31 by omega)]; omega]; decide)) (fun c13 => ?_)
  show Rn G κ 16 _ _ _ _ _
  show Rn G κ 16 _ _ _ _ _
  refine r_aload_n X dX3_append_16 rfl ?_
  refine r_gr6_0 X (by assumption) wfl_X3_11 dX3_append_17 ?_
  refine r_aload_n X dX3_append_20 rfl ?_
  refine r_gi6 2 X (by assumption) wfl_X3_18 dX3_append_21 (by decide) rfl ?_
  refine r_iload_n X dX3_append_24 rfl ?_
  refine r_isC _ X h hm (by assumption) dX3_append_25 (by decide) rfl rfl rfl ?_
  refine r_aload_n X dX3_append_26 rfl ?_
  refine r_gr6_1 X (by assumption) wfl_X3_15 dX3_append_27 ?_
  show Rn G κ 30 _ _ _ _ _
  refine r_aload_n X dX3_append_30 rfl ?_
  refine r_gi6 2 X (by assumption) wfl_X3_18 dX3_append_31 (by decide) rfl ?_
  refine r_iload_n X dX3_append_34 rfl ?_
  refine r_isC _ X (by rw [upC_ne _ _ _ _ _ (by simp)]; exact h) hm (by assumption) dX3_append_35 (by decide) rfl rfl rfl ?_
  refine r_aload_n X dX3_append_36 rfl ?_
  refine r_dup X dX3_append_37 rfl ?_
  refine r_gi6 2 X (by assumption) wfl_X3_18 dX3_append_38 (by decide) rfl ?_
  refine r_iconst (1) X dX3_append_41 (by decide) ?_
  show Rn G κ 42 _ _ _ _ _
  refine r_iadd X dX3_append_42 ?_
  refine r_pi6 2 X (by assumption) wfl_X3_18 dX3_append_43 (by decide) rfl rfl (by decide +kernel) ?_
  refine r_vret X Z dX3_append_46 ?_
  refine ⟨rfl, rfl, rfl, ?_⟩
  congr 1
  rw [upC_ne _ _ _ _ _ (by simp), upC_ne _ _ _ _ _ (by simp), h]
  exact nI_1 m
set_option maxRecDepth 100000 in
set_option maxHeartbeats 4000000 in
theorem c_appendMarker {G : bpG} {C : bpC} {M : bpM} {hl : Int64} {p m f : Nat} (hp : p < 6) (hm : m < 20) (h : C 6 p 2 = nI m) (hf : f < 12) : Ct G yX3_appendMarker cX3_appendMarker 2 none rmX3_appendMarker [.ref (G.1 6 p), .int (nI f)] C M hl (qC M hl (fun C' => C' = upC (upC (upC C 7 p m (nI f)) 8 p m 0) 6 p 2 (nI (m + 1)))) := by
  refine ct_of [some (.ref (G.1 6 p)), some (.int (nI f))] (by decide +kernel) rfl rfl (Nat.le_of_ble_eq_true rfl) ?_
  intro κ X Z
  refine r_aload_n X dX3_appendMarker_0 rfl ?_
  refine r_iload_n X dX3_appendMarker_1 rfl ?_
  refine r_iconst (0) X dX3_appendMarker_2 (by decide) ?_
  refine r_cv2_C X mdX3_append wml_X3_26 dX3_appendMarker_3 ⟨rfl, rfl, Nat.le_of_ble_eq_true rfl, Nat.le_of_ble_eq_true rfl⟩ (by assumption) rfl rfl (Nat.le_of_ble_eq_true rfl) rfl (zroom Z) (c_append hp hm h hf) (fun C2 e2 => ?_)
  show Rn G κ 6 _ _ _ _ _
  refine r_vret X Z dX3_appendMarker_6 ?_
  exact ⟨rfl, rfl, rfl, e2⟩
set_option maxRecDepth 100000 in
set_option maxHeartbeats 4000000 in
theorem c_hasLetterOf {G : bpG} {C : bpC} {M : bpM} {hl : Int64} {p m : Nat} {f : Int32} (hp : p < 6) (hm : m ≤ 20) (h : C 6 p 2 = nI m) : Ct G yX3_hasLetterOf cX3_hasLetterOf 3 (some .boolean) rmX3_hasLetterOf [.ref (G.1 6 p), .int f] C M hl (qI C M hl (bI (exN (fun j => decide (C 7 p j = f) && !decide (C 8 p j = 0)) m))) := by
  refine ct_of [some (.ref (G.1 6 p)), some (.int f), none] (by decide +kernel) rfl rfl (Nat.le_of_ble_eq_true rfl) ?_
  intro κ X Z
  have loop : ∀ n i : Nat, i + n = m → exN (fun j => decide (C 7 p j = f) && !decide (C 8 p j = 0)) i = false → Rn G κ 2 [some (.ref (G.1 6 p)), some (.int f), some (.int (nI i))] [] C M hl := by
    intro n
    induction n with
    | zero =>
      intro i hi he
      have hi : i = m := by omega
      subst hi
      refine r_iload_n X dX3_hasLetterOf_2 rfl ?_
      refine r_aload_n X dX3_hasLetterOf_3 rfl ?_
      refine r_gi6 2 X (by assumption) wfl_X3_18 dX3_hasLetterOf_4 (by decide) rfl ?_
      refine r_icmpge 37 X dX3_hasLetterOf_7 (by decide) (fun c7 => ?_) (fun c7 => absurd (by rw [h]; exact Int32.le_refl _) c7)
      show Rn G κ 37 _ _ _ _ _
      refine r_iconst (0) X dX3_hasLetterOf_37 (by decide) ?_
      refine r_zret X Z dX3_hasLetterOf_38 (by decide) ?_
      refine ⟨rfl, rfl, rfl, ret_i (bI_f he)⟩
    | succ n ih =>
      intro i hi he
      have hj : i < 20 := by omega
      refine r_iload_n X dX3_hasLetterOf_2 rfl ?_
      refine r_aload_n X dX3_hasLetterOf_3 rfl ?_
      refine r_gi6 2 X (by assumption) wfl_X3_18 dX3_hasLetterOf_4 (by decide) rfl ?_
      refine r_icmpge 37 X dX3_hasLetterOf_7 (by decide) (fun c7 => absurd c7 (by rw [h]; simp only [i_lt, i_le, i_eq, i_m1, i_0, i_1, i_2, i_3, i_4, i_5, i_6, i_7, i_8, i_9, i_10, i_11, i_12, i_17, i_20, i_24, i_32, i_44, i_48, i_50, i_51, i_52, i_57, i_58, i_100, i_126, i_n (show m < 2 ^ 31 by omega), i_n (show i < 2 ^ 31 by omega)]; omega)) (fun c7 => ?_)
      show Rn G κ 10 _ _ _ _ _
      refine r_aload_n X dX3_hasLetterOf_10 rfl ?_
      refine r_gr6_0 X (by assumption) wfl_X3_11 dX3_hasLetterOf_11 ?_
      refine r_iload_n X dX3_hasLetterOf_14 rfl ?_
      show Rn G κ 15 _ _ _ _ _
      refine r_iaC _ X rfl (by assumption) (by assumption) dX3_hasLetterOf_15 (by decide) rfl rfl rfl ?_
      refine r_iload_n X dX3_hasLetterOf_16 rfl ?_
      refine r_icmpne 31 X dX3_hasLetterOf_17 (by decide) (fun c17 => ?_) (fun c17 => ?_)
      · show Rn G κ 31 _ _ _ _ _
        refine r_iinc_2 (nI (i + 1)) X dX3_hasLetterOf_31 (nI_1 i) rfl ?_
        refine r_goto 2 X dX3_hasLetterOf_34 (by decide) ?_
        refine ih (i + 1) (by omega) (exN_succ he ?_)
        simp [*]
      · show Rn G κ 20 _ _ _ _ _
        refine r_aload_n X dX3_hasLetterOf_20 rfl ?_
        refine r_gr6_1 X (by assumption) wfl_X3_15 dX3_hasLetterOf_21 ?_
        refine r_iload_n X dX3_hasLetterOf_24 rfl ?_
        refine r_iaC _ X rfl (by assumption) (by assumption) dX3_hasLetterOf_25 (by decide) rfl rfl rfl ?_
        refine r_ifeq 31 X dX3_hasLetterOf_26 (by decide) (fun c26 => ?_) (fun c26 => ?_)
        · show Rn G κ 31 _ _ _ _ _
          refine r_iinc_2 (nI (i + 1)) X dX3_hasLetterOf_31 (nI_1 i) rfl ?_
          refine r_goto 2 X dX3_hasLetterOf_34 (by decide) ?_
          refine ih (i + 1) (by omega) (exN_succ he ?_)
          simp [*]
        · show Rn G κ 29 _ _ _ _ _
          refine r_iconst (1) X dX3_hasLetterOf_29 (by decide) ?_
          refine r_zret X Z dX3_hasLetterOf_30 (by decide) ?_
          refine ⟨rfl, rfl, rfl, ret_i (bI_t (exN_true (i := i) ?_ (by omega)))⟩
          simp [*]
  refine r_iconst (0) X dX3_hasLetterOf_0 (by decide) ?_
  refine r_istore_2 X dX3_hasLetterOf_1 rfl ?_
  exact loop m 0 (by omega) rfl
set_option maxRecDepth 100000 in
set_option maxHeartbeats 4000000 in
theorem c_removeFirst {G : bpG} {C : bpC} {M : bpM} {hl : Int64} {p m : Nat} (hp : p < 6) (hm : m < 20) (h : C 6 p 2 = nI (m + 1)) : Ct G yX3_removeFirst cX3_removeFirst 2 none rmX3_removeFirst [.ref (G.1 6 p)] C M hl (qC M hl (fun C' => C' = upC (shf C p m) 6 p 2 (nI m))) := by
  refine ct_of [some (.ref (G.1 6 p)), none] (by decide +kernel) rfl rfl (Nat.le_of_ble_eq_true rfl) ?_
  intro κ X Z
  have loop : ∀ n i : Nat, i + n = m → Rn G κ 2 [some (.ref (G.1 6 p)), some (.int (nI (i + 1)))] [] (shf C p i) M hl := by
    intro n
    induction n with
    | zero =>
      intro i hi
      have hi : i = m := by omega
      subst hi
      refine r_iload_n X dX3_removeFirst_2 rfl ?_
      refine r_aload_n X dX3_removeFirst_3 rfl ?_
      refine r_gi6 2 X (by assumption) wfl_X3_18 dX3_removeFirst_4 (by decide) rfl ?_
      refine r_icmpge 44 X dX3_removeFirst_7 (by decide) (fun c7 => ?_) (fun c7 => absurd (by rw [(show shf C p i 6 p 2 = nI (i + 1) by simp only [shf]; rw [if_neg (by simp)]; exact h)]; exact Int32.le_refl _) c7)
      show Rn G κ 44 _ _ _ _ _
      refine r_aload_n X dX3_removeFirst_44 rfl ?_
      refine r_gi6 2 X (by assumption) wfl_X3_18 dX3_removeFirst_45 (by decide) rfl ?_
      refine r_ifle 61 X dX3_removeFirst_48 (by decide) (fun c48 => absurd c48 (by rw [(show shf C p i 6 p 2 = nI (i + 1) by simp only [shf]; rw [if_neg (by simp)]; exact h)]; exact nI_nle (by omega) (by omega))) (fun c48 => ?_)
      show Rn G κ 51 _ _ _ _ _
      show Rn G κ 51 _ _ _ _ _
      refine r_aload_n X dX3_removeFirst_51 rfl ?_
      refine r_dup X dX3_removeFirst_52 rfl ?_
      refine r_gi6 2 X (by assumption) wfl_X3_18 dX3_removeFirst_53 (by decide) rfl ?_
      refine r_iconst (1) X dX3_removeFirst_56 (by decide) ?_
      refine r_isub X dX3_removeFirst_57 ?_
      refine r_pi6 2 X (by assumption) wfl_X3_18 dX3_removeFirst_58 (by decide) rfl rfl (by decide +kernel) ?_
      refine r_vret X Z dX3_removeFirst_61 ?_
      refine ⟨rfl, rfl, rfl, ?_⟩
      rw [(show shf C p i 6 p 2 = nI (i + 1) by simp only [shf]; rw [if_neg (by simp)]; exact h), nI_pred]
    | succ n ih =>
      intro i hi
      have hj : i < 20 := by omega
      have hj1 : i + 1 < 20 := by omega
      refine r_iload_n X dX3_removeFirst_2 rfl ?_
      refine r_aload_n X dX3_removeFirst_3 rfl ?_
      refine r_gi6 2 X (by assumption) wfl_X3_18 dX3_removeFirst_4 (by decide) rfl ?_
      refine r_icmpge 44 X dX3_removeFirst_7 (by decide) (fun c7 => absurd c7 (by rw [(show shf C p i 6 p 2 = nI (m + 1) by simp only [shf]; rw [if_neg (by simp)]; exact h)]; simp only [i_lt, i_le, i_eq, i_m1, i_0, i_1, i_2, i_3, i_4, i_5, i_6, i_7, i_8, i_9, i_10, i_11, i_12, i_17, i_20, i_24, i_32, i_44, i_48, i_50, i_51, i_52, i_57, i_58, i_100, i_126, i_n (show m + 1 < 2 ^ 31 by omega), i_n (show i + 1 < 2 ^ 31 by omega)]; omega)) (fun c7 => ?_)
      show Rn G κ 10 _ _ _ _ _
      refine r_aload_n X dX3_removeFirst_10 rfl ?_
      refine r_gr6_0 X (by assumption) wfl_X3_11 dX3_removeFirst_11 ?_
      refine r_iload_n X dX3_removeFirst_14 rfl ?_
      show Rn G κ 15 _ _ _ _ _
      refine r_iconst (1) X dX3_removeFirst_15 (by decide) ?_
      refine r_isub X dX3_removeFirst_16 ?_
      refine r_aload_n X dX3_removeFirst_17 rfl ?_
      refine r_gr6_0 X (by assumption) wfl_X3_11 dX3_removeFirst_18 ?_
      refine r_iload_n X dX3_removeFirst_21 rfl ?_
      refine r_iaC (i + 1) X rfl (by assumption) (by assumption) dX3_removeFirst_22 (by decide) rfl rfl rfl ?_
      refine r_isC i X (nI_pred i) (by assumption) (by assumption) dX3_removeFirst_23 (by decide) rfl rfl rfl ?_
      refine r_aload_n X dX3_removeFirst_24 rfl ?_
      show Rn G κ 25 _ _ _ _ _
      refine r_gr6_1 X (by assumption) wfl_X3_15 dX3_removeFirst_25 ?_
      refine r_iload_n X dX3_removeFirst_28 rfl ?_
      refine r_iconst (1) X dX3_removeFirst_29 (by decide) ?_
      refine r_isub X dX3_removeFirst_30 ?_
      refine r_aload_n X dX3_removeFirst_31 rfl ?_
      refine r_gr6_1 X (by assumption) wfl_X3_15 dX3_removeFirst_32 ?_
      refine r_iload_n X dX3_removeFirst_35 rfl ?_
      refine r_iaC (i + 1) X rfl (by assumption) (by assumption) dX3_removeFirst_36 (by decide) rfl rfl rfl ?_
      show Rn G κ 37 _ _ _ _ _
      refine r_isC i X (nI_pred i) (by assumption) (by assumption) dX3_removeFirst_37 (by decide) rfl rfl rfl ?_
      refine r_iinc_1 (nI (i + 1 + 1)) X dX3_removeFirst_38 (nI_1 (i + 1)) rfl ?_
      refine r_goto 2 X dX3_removeFirst_41 (by decide) ?_
      rw [shf_step]
      exact ih (i + 1) (by omega)
  refine r_iconst (1) X dX3_removeFirst_0 (by decide) ?_
  refine r_istore_1 X dX3_removeFirst_1 rfl ?_
  have h0 := loop m 0 (by omega)
  rw [shf_0] at h0
  exact h0
set_option maxRecDepth 100000 in
set_option maxHeartbeats 4000000 in
theorem c_frestart {G : bpG} {C : bpC} {M : bpM} {hl : Int64} {f : Nat} (hf : f < 12) : Ct G yX0_restart cX0_restart 1 none rmX0_restart [.ref (G.1 9 f)] C M hl (qC M hl (fun C' => C' = (upC (upC (upC (upC (upC (upC (upC C 9 f 1 0) 9 f 2 (-1)) 9 f 3 0) 9 f 4 0) 9 f 5 0) 9 f 6 0) 9 f 7 0))) := by
  refine ct_of [some (.ref (G.1 9 f))] (by decide +kernel) rfl rfl (Nat.le_of_ble_eq_true rfl) ?_
  intro κ X Z
  refine r_aload_n X dX0_restart_0 rfl ?_
  refine r_iconst (0) X dX0_restart_1 (by decide) ?_
  refine r_pi9 1 X (by assumption) wfl_X0_15 dX0_restart_2 (by decide) rfl rfl (by decide +kernel) ?_
  refine r_aload_n X dX0_restart_5 rfl ?_
  refine r_iconst (-1) X dX0_restart_6 (by decide) ?_
  refine r_pi9 2 X (by assumption) wfl_X0_19 dX0_restart_7 (by decide) rfl rfl (by decide +kernel) ?_
  refine r_aload_n X dX0_restart_10 rfl ?_
  show Rn G κ 11 _ _ _ _ _
  refine r_iconst (0) X dX0_restart_11 (by decide) ?_
  refine r_pz9 3 X (by assumption) (by decide) wfl_X0_22 dX0_restart_12 (by decide) rfl rfl (by decide +kernel) ?_
  refine r_aload_n X dX0_restart_15 rfl ?_
  refine r_iconst (0) X dX0_restart_16 (by decide) ?_
  refine r_pi9 4 X (by assumption) wfl_X0_26 dX0_restart_17 (by decide) rfl rfl (by decide +kernel) ?_
  refine r_aload_n X dX0_restart_20 rfl ?_
  refine r_iconst (0) X dX0_restart_21 (by decide) ?_
  refine r_pi9 5 X (by assumption) wfl_X0_29 dX0_restart_22 (by decide) rfl rfl (by decide +kernel) ?_
  show Rn G κ 25 _ _ _ _ _
  refine r_aload_n X dX0_restart_25 rfl ?_
  refine r_iconst (0) X dX0_restart_26 (by decide) ?_
  refine r_pi9 6 X (by assumption) wfl_X0_32 dX0_restart_27 (by decide) rfl rfl (by decide +kernel) ?_
  refine r_aload_n X dX0_restart_30 rfl ?_
  refine r_iconst (0) X dX0_restart_31 (by decide) ?_
  refine r_pi9 7 X (by assumption) wfl_X0_35 dX0_restart_32 (by decide) rfl rfl (by decide +kernel) ?_
  refine r_vret X Z dX0_restart_35 ?_
  exact ⟨rfl, rfl, rfl, rfl⟩
set_option maxRecDepth 100000 in
set_option maxHeartbeats 4000000 in
theorem c_hold_full {G : bpG} {C : bpC} {M : bpM} {hl : Int64} {f : Nat} {n : Int32} (hf : f < 12) (h : C 9 f 1 = 8) : Ct G yX0_hold cX0_hold 2 (some .boolean) rmX0_hold [.ref (G.1 9 f), .int n] C M hl (qCi M hl (fun C' r => C' = upC C 9 f 6 (C 9 f 6 + 1) ∧ r = 0)) := by
  refine ct_of [some (.ref (G.1 9 f)), some (.int n)] (by decide +kernel) rfl rfl (Nat.le_of_ble_eq_true rfl) ?_
  intro κ X Z
  refine r_aload_n X dX0_hold_0 rfl ?_
  refine r_gi9 1 X (by assumption) wfl_X0_15 dX0_hold_1 (by decide) rfl ?_
  refine r_bipush (8) X dX0_hold_4 (by decide) ?_
  refine r_icmplt 21 X dX0_hold_6 (by decide) (fun c6 => absurd c6 (by rw [h]; decide)) (fun c6 => ?_)
  show Rn G κ 9 _ _ _ _ _
  refine r_aload_n X dX0_hold_9 rfl ?_
  refine r_dup X dX0_hold_10 rfl ?_
  refine r_gi9 6 X (by assumption) wfl_X0_32 dX0_hold_11 (by decide) rfl ?_
  show Rn G κ 14 _ _ _ _ _
  refine r_iconst (1) X dX0_hold_14 (by decide) ?_
  refine r_iadd X dX0_hold_15 ?_
  refine r_pi9 6 X (by assumption) wfl_X0_32 dX0_hold_16 (by decide) rfl rfl (by decide +kernel) ?_
  refine r_iconst (0) X dX0_hold_19 (by decide) ?_
  refine r_zret X Z dX0_hold_20 (by decide) ?_
  exact ⟨rfl, rfl, _, rfl, rfl, rfl⟩
set_option maxRecDepth 100000 in
set_option maxHeartbeats 4000000 in
theorem c_hold {G : bpG} {C : bpC} {M : bpM} {hl : Int64} {f m : Nat} {n : Int32} (hf : f < 12) (hm : m < 8) (h : C 9 f 1 = nI m) : Ct G yX0_hold cX0_hold 2 (some .boolean) rmX0_hold [.ref (G.1 9 f), .int n] C M hl (qCi M hl (fun C' r => C' = upC (upC C 10 f m n) 9 f 1 (nI (m + 1)) ∧ r = 1)) := by
  refine ct_of [some (.ref (G.1 9 f)), some (.int n)] (by decide +kernel) rfl rfl (Nat.le_of_ble_eq_true rfl) ?_
  intro κ X Z
  refine r_aload_n X dX0_hold_0 rfl ?_
  refine r_gi9 1 X (by assumption) wfl_X0_15 dX0_hold_1 (by decide) rfl ?_
  refine r_bipush (8) X dX0_hold_4 (by decide) ?_
  refine r_icmplt 21 X dX0_hold_6 (by decide) (fun c6 => ?_) (fun c6 => absurd (by rw [h]; simp only [i_lt, i_le, i_eq, i_m1, i_0, i_1, i_2, i_3, i_4, i_5, i_6, i_7, i_8, i_9, i_10, i_11, i_12, i_17, i_20, i_24, i_32, i_44, i_48, i_50, i_51, i_52, i_57, i_58, i_100, i_126, i_n (show m < 2 ^ 31 by omega)]; omega) c6)
  show Rn G κ 21 _ _ _ _ _
  refine r_aload_n X dX0_hold_21 rfl ?_
  refine r_gr9_0 X (by assumption) wfl_X0_9 dX0_hold_22 ?_
  refine r_aload_n X dX0_hold_25 rfl ?_
  show Rn G κ 26 _ _ _ _ _
  refine r_gi9 1 X (by assumption) wfl_X0_15 dX0_hold_26 (by decide) rfl ?_
  refine r_iload_n X dX0_hold_29 rfl ?_
  refine r_isC m X h (by assumption) (by assumption) dX0_hold_30 (by decide) rfl rfl rfl ?_
  refine r_aload_n X dX0_hold_31 rfl ?_
  refine r_dup X dX0_hold_32 rfl ?_
  refine r_gi9 1 X (by assumption) wfl_X0_15 dX0_hold_33 (by decide) rfl ?_
  refine r_iconst (1) X dX0_hold_36 (by decide) ?_
  refine r_iadd X dX0_hold_37 ?_
  show Rn G κ 38 _ _ _ _ _
  refine r_pi9 1 X (by assumption) wfl_X0_15 dX0_hold_38 (by decide) rfl rfl (by decide +kernel) ?_
  refine r_iconst (1) X dX0_hold_41 (by decide) ?_
  refine r_zret X Z dX0_hold_42 (by decide) ?_
  refine ⟨rfl, rfl, _, rfl, ?_, rfl⟩
  rw [upC_ne _ _ _ _ _ (by simp), h, nI_1]
set_option maxRecDepth 100000 in
set_option maxHeartbeats 4000000 in
theorem c_pappend_full {G : bpG} {C : bpC} {M : bpM} {hl : Int64} {n : Int32} (h : C 1 0 1 = 17) : Ct G yX1_append cX1_append 2 (some .boolean) rmX1_append [.ref (G.1 1 0), .int n] C M hl (qI C M hl 0) := by
  refine ct_of [some (.ref (G.1 1 0)), some (.int n)] (by decide +kernel) rfl rfl (Nat.le_of_ble_eq_true rfl) ?_
  intro κ X Z
  refine r_aload_n X dX1_append_0 rfl ?_
  refine r_gi1 1 X wfl_X1_15 dX1_append_1 (by decide) rfl ?_
  refine r_bipush (17) X dX1_append_4 (by decide) ?_
  refine r_icmplt 11 X dX1_append_6 (by decide) (fun c6 => absurd c6 (by rw [h]; decide)) (fun c6 => ?_)
  show Rn G κ 9 _ _ _ _ _
  refine r_iconst (0) X dX1_append_9 (by decide) ?_
  refine r_zret X Z dX1_append_10 (by decide) ?_
  exact ⟨rfl, rfl, rfl, rfl⟩
set_option maxRecDepth 100000 in
set_option maxHeartbeats 4000000 in
theorem c_pappend {G : bpG} {C : bpC} {M : bpM} {hl : Int64} {m : Nat} {n : Int32} (hm : m < 17) (h : C 1 0 1 = nI m) : Ct G yX1_append cX1_append 2 (some .boolean) rmX1_append [.ref (G.1 1 0), .int n] C M hl (qCi M hl (fun C' r => C' = upC (upC C 2 0 m n) 1 0 1 (nI (m + 1)) ∧ r = 1)) := by
  refine ct_of [some (.ref (G.1 1 0)), some (.int n)] (by decide +kernel) rfl rfl (Nat.le_of_ble_eq_true rfl) ?_
  intro κ X Z
  refine r_aload_n X dX1_append_0 rfl ?_
  refine r_gi1 1 X wfl_X1_15 dX1_append_1 (by decide) rfl ?_
  refine r_bipush (17) X dX1_append_4 (by decide) ?_
  refine r_icmplt 11 X dX1_append_6 (by decide) (fun c6 => ?_) (fun c6 => absurd (by rw [h]; simp only [i_lt, i_le, i_eq, i_m1, i_0, i_1, i_2, i_3, i_4, i_5, i_6, i_7, i_8, i_9, i_10, i_11, i_12, i_17, i_20, i_24, i_32, i_44, i_48, i_50, i_51, i_52, i_57, i_58, i_100, i_126, i_n (show m < 2 ^ 31 by omega)]; omega) c6)
  show Rn G κ 11 _ _ _ _ _
  refine r_aload_n X dX1_append_11 rfl ?_
  refine r_gr1_0 X wfl_X1_9 dX1_append_12 ?_
  refine r_aload_n X dX1_append_15 rfl ?_
  show Rn G κ 16 _ _ _ _ _
  refine r_gi1 1 X wfl_X1_15 dX1_append_16 (by decide) rfl ?_
  refine r_iload_n X dX1_append_19 rfl ?_
  refine r_isC m X h (by assumption) (by decide) dX1_append_20 (by decide) rfl rfl rfl ?_
  refine r_aload_n X dX1_append_21 rfl ?_
  refine r_dup X dX1_append_22 rfl ?_
  refine r_gi1 1 X wfl_X1_15 dX1_append_23 (by decide) rfl ?_
  refine r_iconst (1) X dX1_append_26 (by decide) ?_
  refine r_iadd X dX1_append_27 ?_
  show Rn G κ 28 _ _ _ _ _
  refine r_pi1 1 X wfl_X1_15 dX1_append_28 (by decide) rfl rfl (by decide +kernel) ?_
  refine r_iconst (1) X dX1_append_31 (by decide) ?_
  refine r_zret X Z dX1_append_32 (by decide) ?_
  refine ⟨rfl, rfl, _, rfl, ?_, rfl⟩
  rw [upC_ne _ _ _ _ _ (by simp), h, nI_1]
set_option maxRecDepth 100000 in
set_option maxHeartbeats 4000000 in
theorem c_codeAt {G : bpG} {C : bpC} {M : bpM} {hl : Int64} {m j : Nat} (hm : m ≤ 17) (hj : j < m) (h : C 1 0 1 = nI m) : Ct G yX1_codeAt cX1_codeAt 2 (some .int) rmX1_codeAt [.ref (G.1 1 0), .int (nI j)] C M hl (qI C M hl (C 2 0 j)) := by
  refine ct_of [some (.ref (G.1 1 0)), some (.int (nI j))] (by decide +kernel) rfl rfl (Nat.le_of_ble_eq_true rfl) ?_
  intro κ X Z
  refine r_iload_n X dX1_codeAt_0 rfl ?_
  refine r_iflt 21 X dX1_codeAt_1 (by decide) (fun c1 => absurd c1 (nI_pos (by omega))) (fun c1 => ?_)
  show Rn G κ 4 _ _ _ _ _
  refine r_iload_n X dX1_codeAt_4 rfl ?_
  refine r_aload_n X dX1_codeAt_5 rfl ?_
  refine r_gi1 1 X wfl_X1_15 dX1_codeAt_6 (by decide) rfl ?_
  refine r_icmpge 21 X dX1_codeAt_9 (by decide) (fun c9 => absurd c9 (by rw [h]; simp only [i_lt, i_le, i_eq, i_m1, i_0, i_1, i_2, i_3, i_4, i_5, i_6, i_7, i_8, i_9, i_10, i_11, i_12, i_17, i_20, i_24, i_32, i_44, i_48, i_50, i_51, i_52, i_57, i_58, i_100, i_126, i_n (show m < 2 ^ 31 by omega), i_n (show j < 2 ^ 31 by omega)]; omega)) (fun c9 => ?_)
  show Rn G κ 12 _ _ _ _ _
  refine r_aload_n X dX1_codeAt_12 rfl ?_
  show Rn G κ 13 _ _ _ _ _
  refine r_gr1_0 X wfl_X1_9 dX1_codeAt_13 ?_
  refine r_iload_n X dX1_codeAt_16 rfl ?_
  refine r_iaC j X rfl (show j < 17 by omega) (by decide) dX1_codeAt_17 (by decide) rfl rfl rfl ?_
  refine r_goto 22 X dX1_codeAt_18 (by decide) ?_
  refine r_iret X Z dX1_codeAt_22 ?_
  exact ⟨rfl, rfl, rfl, rfl⟩
set_option maxRecDepth 100000 in
set_option maxHeartbeats 4000000 in
theorem c_fits {G : bpG} {C : bpC} {M : bpM} {hl : Int64} {m j : Nat} (hm : m ≤ 17) (hj : j < m) (h : C 1 0 1 = nI m) : Ct G yX1_fits cX1_fits 3 (some .boolean) rmX1_fits [.ref (G.1 1 0), .int (nI j)] C M hl (qI C M hl (bI (fitB (C 2 0 j) j))) := by
  refine ct_of [some (.ref (G.1 1 0)), some (.int (nI j)), none] (by decide +kernel) rfl rfl (Nat.le_of_ble_eq_true rfl) ?_
  intro κ X Z
  refine r_aload_n X dX1_fits_0 rfl ?_
  refine r_iload_n X dX1_fits_1 rfl ?_
  refine r_cv1_I X mdX1_codeAt wml_X1_23 dX1_fits_2 ⟨rfl, rfl, Nat.le_of_ble_eq_true rfl, Nat.le_of_ble_eq_true rfl⟩ (by decide) rfl rfl (Nat.le_of_ble_eq_true rfl) rfl (zroom Z) (c_codeAt hm hj h) ?_
  show Rn G κ 5 _ _ _ _ _
  refine r_istore_2 X dX1_fits_5 rfl ?_
  refine r_iload_n X dX1_fits_6 rfl ?_
  refine r_iconst (3) X dX1_fits_7 (by decide) ?_
  refine r_irem X dX1_fits_8 (by decide) ?_
  refine r_top (rem_n 3 (show j < 2 ^ 31 by omega) (by decide) (by decide)) ?_
  show Rn G κ 9 _ _ _ _ _
  rcases (show j % 3 = 0 ∨ j % 3 = 1 ∨ j % 3 = 2 by omega) with e3 | e3 | e3
  · rw [e3]
    refine r_lookup 36 X dX1_fits_9 (by decide) rfl (by decide) ?_
    refine r_iload_n X dX1_fits_36 rfl ?_
    refine r_bipush (48) X dX1_fits_37 (by decide) ?_
    refine r_icmplt 52 X dX1_fits_39 (by decide) (fun c39 => ?_) (fun c39 => ?_)
    · show Rn G κ 52 _ _ _ _ _
      refine r_iconst (0) X dX1_fits_52 (by decide) ?_
      refine r_zret X Z dX1_fits_53 (by decide) ?_
      refine ⟨rfl, rfl, rfl, ret_i ?_⟩
      simp only [i_lt, i_le, i_eq, i_m1, i_0, i_1, i_2, i_3, i_4, i_5, i_6, i_7, i_8, i_9, i_10, i_11, i_12, i_17, i_20, i_24, i_32, i_44, i_48, i_50, i_51, i_52, i_57, i_58, i_100, i_126] at c39
      first | refine bI_f ?_ | refine bI_t ?_
      simp only [fitB, e3]
      simp only [if_pos, Bool.and_eq_true, Bool.or_eq_true, decide_eq_true_eq, Bool.and_eq_false_iff, Bool.or_eq_false_iff, decide_eq_false_iff_not, Bool.not_eq_true', Bool.not_eq_false', i_lt, i_le, i_eq, i_m1, i_0, i_1, i_2, i_3, i_4, i_5, i_6, i_7, i_8, i_9, i_10, i_11, i_12, i_17, i_20, i_24, i_32, i_44, i_48, i_50, i_51, i_52, i_57, i_58, i_100, i_126]
      first | omega | (simp; omega) | simp_all
    · show Rn G κ 42 _ _ _ _ _
      refine r_iload_n X dX1_fits_42 rfl ?_
      refine r_bipush (52) X dX1_fits_43 (by decide) ?_
      refine r_icmpge 52 X dX1_fits_45 (by decide) (fun c45 => ?_) (fun c45 => ?_)
      · show Rn G κ 52 _ _ _ _ _
        refine r_iconst (0) X dX1_fits_52 (by decide) ?_
        refine r_zret X Z dX1_fits_53 (by decide) ?_
        refine ⟨rfl, rfl, rfl, ret_i ?_⟩
        simp only [i_lt, i_le, i_eq, i_m1, i_0, i_1, i_2, i_3, i_4, i_5, i_6, i_7, i_8, i_9, i_10, i_11, i_12, i_17, i_20, i_24, i_32, i_44, i_48, i_50, i_51, i_52, i_57, i_58, i_100, i_126] at c39 c45
        first | refine bI_f ?_ | refine bI_t ?_
        simp only [fitB, e3]
        simp only [if_pos, Bool.and_eq_true, Bool.or_eq_true, decide_eq_true_eq, Bool.and_eq_false_iff, Bool.or_eq_false_iff, decide_eq_false_iff_not, Bool.not_eq_true', Bool.not_eq_false', i_lt, i_le, i_eq, i_m1, i_0, i_1, i_2, i_3, i_4, i_5, i_6, i_7, i_8, i_9, i_10, i_11, i_12, i_17, i_20, i_24, i_32, i_44, i_48, i_50, i_51, i_52, i_57, i_58, i_100, i_126]
        first | omega | (simp; omega) | simp_all
      · show Rn G κ 48 _ _ _ _ _
        refine r_iconst (1) X dX1_fits_48 (by decide) ?_
        refine r_goto 53 X dX1_fits_49 (by decide) ?_
        refine r_zret X Z dX1_fits_53 (by decide) ?_
        refine ⟨rfl, rfl, rfl, ret_i ?_⟩
        simp only [i_lt, i_le, i_eq, i_m1, i_0, i_1, i_2, i_3, i_4, i_5, i_6, i_7, i_8, i_9, i_10, i_11, i_12, i_17, i_20, i_24, i_32, i_44, i_48, i_50, i_51, i_52, i_57, i_58, i_100, i_126] at c39 c45
        first | refine bI_f ?_ | refine bI_t ?_
        simp only [fitB, e3]
        simp only [if_pos, Bool.and_eq_true, Bool.or_eq_true, decide_eq_true_eq, Bool.and_eq_false_iff, Bool.or_eq_false_iff, decide_eq_false_iff_not, Bool.not_eq_true', Bool.not_eq_false', i_lt, i_le, i_eq, i_m1, i_0, i_1, i_2, i_3, i_4, i_5, i_6, i_7, i_8, i_9, i_10, i_11, i_12, i_17, i_20, i_24, i_32, i_44, i_48, i_50, i_51, i_52, i_57, i_58, i_100, i_126]
        first | omega | (simp; omega) | simp_all
  · rw [e3]
    refine r_lookup 54 X dX1_fits_9 (by decide) rfl (by decide) ?_
    refine r_iload_n X dX1_fits_54 rfl ?_
    refine r_bipush (48) X dX1_fits_55 (by decide) ?_
    refine r_icmplt 70 X dX1_fits_57 (by decide) (fun c57 => ?_) (fun c57 => ?_)
    · show Rn G κ 70 _ _ _ _ _
      refine r_iconst (0) X dX1_fits_70 (by decide) ?_
      refine r_zret X Z dX1_fits_71 (by decide) ?_
      refine ⟨rfl, rfl, rfl, ret_i ?_⟩
      simp only [i_lt, i_le, i_eq, i_m1, i_0, i_1, i_2, i_3, i_4, i_5, i_6, i_7, i_8, i_9, i_10, i_11, i_12, i_17, i_20, i_24, i_32, i_44, i_48, i_50, i_51, i_52, i_57, i_58, i_100, i_126] at c57
      first | refine bI_f ?_ | refine bI_t ?_
      simp only [fitB, e3]
      simp only [if_pos, Bool.and_eq_true, Bool.or_eq_true, decide_eq_true_eq, Bool.and_eq_false_iff, Bool.or_eq_false_iff, decide_eq_false_iff_not, Bool.not_eq_true', Bool.not_eq_false', i_lt, i_le, i_eq, i_m1, i_0, i_1, i_2, i_3, i_4, i_5, i_6, i_7, i_8, i_9, i_10, i_11, i_12, i_17, i_20, i_24, i_32, i_44, i_48, i_50, i_51, i_52, i_57, i_58, i_100, i_126]
      first | omega | (simp; omega) | simp_all
    · show Rn G κ 60 _ _ _ _ _
      refine r_iload_n X dX1_fits_60 rfl ?_
      refine r_bipush (57) X dX1_fits_61 (by decide) ?_
      refine r_icmpgt 70 X dX1_fits_63 (by decide) (fun c63 => ?_) (fun c63 => ?_)
      · show Rn G κ 70 _ _ _ _ _
        refine r_iconst (0) X dX1_fits_70 (by decide) ?_
        refine r_zret X Z dX1_fits_71 (by decide) ?_
        refine ⟨rfl, rfl, rfl, ret_i ?_⟩
        simp only [i_lt, i_le, i_eq, i_m1, i_0, i_1, i_2, i_3, i_4, i_5, i_6, i_7, i_8, i_9, i_10, i_11, i_12, i_17, i_20, i_24, i_32, i_44, i_48, i_50, i_51, i_52, i_57, i_58, i_100, i_126] at c57 c63
        first | refine bI_f ?_ | refine bI_t ?_
        simp only [fitB, e3]
        simp only [if_pos, Bool.and_eq_true, Bool.or_eq_true, decide_eq_true_eq, Bool.and_eq_false_iff, Bool.or_eq_false_iff, decide_eq_false_iff_not, Bool.not_eq_true', Bool.not_eq_false', i_lt, i_le, i_eq, i_m1, i_0, i_1, i_2, i_3, i_4, i_5, i_6, i_7, i_8, i_9, i_10, i_11, i_12, i_17, i_20, i_24, i_32, i_44, i_48, i_50, i_51, i_52, i_57, i_58, i_100, i_126]
        first | omega | (simp; omega) | simp_all
      · show Rn G κ 66 _ _ _ _ _
        refine r_iconst (1) X dX1_fits_66 (by decide) ?_
        refine r_goto 71 X dX1_fits_67 (by decide) ?_
        refine r_zret X Z dX1_fits_71 (by decide) ?_
        refine ⟨rfl, rfl, rfl, ret_i ?_⟩
        simp only [i_lt, i_le, i_eq, i_m1, i_0, i_1, i_2, i_3, i_4, i_5, i_6, i_7, i_8, i_9, i_10, i_11, i_12, i_17, i_20, i_24, i_32, i_44, i_48, i_50, i_51, i_52, i_57, i_58, i_100, i_126] at c57 c63
        first | refine bI_f ?_ | refine bI_t ?_
        simp only [fitB, e3]
        simp only [if_pos, Bool.and_eq_true, Bool.or_eq_true, decide_eq_true_eq, Bool.and_eq_false_iff, Bool.or_eq_false_iff, decide_eq_false_iff_not, Bool.not_eq_true', Bool.not_eq_false', i_lt, i_le, i_eq, i_m1, i_0, i_1, i_2, i_3, i_4, i_5, i_6, i_7, i_8, i_9, i_10, i_11, i_12, i_17, i_20, i_24, i_32, i_44, i_48, i_50, i_51, i_52, i_57, i_58, i_100, i_126]
        first | omega | (simp; omega) | simp_all
  · rw [e3]
    refine r_lookup 72 X dX1_fits_9 (by decide) rfl (by decide) ?_
    refine r_iload_n X dX1_fits_72 rfl ?_
    refine r_bipush (44) X dX1_fits_73 (by decide) ?_
    refine r_icmpne 82 X dX1_fits_75 (by decide) (fun c75 => ?_) (fun c75 => ?_)
    · show Rn G κ 82 _ _ _ _ _
      refine r_iconst (0) X dX1_fits_82 (by decide) ?_
      refine r_zret X Z dX1_fits_83 (by decide) ?_
      refine ⟨rfl, rfl, rfl, ret_i ?_⟩
      simp only [i_lt, i_le, i_eq, i_m1, i_0, i_1, i_2, i_3, i_4, i_5, i_6, i_7, i_8, i_9, i_10, i_11, i_12, i_17, i_20, i_24, i_32, i_44, i_48, i_50, i_51, i_52, i_57, i_58, i_100, i_126] at c75
      first | refine bI_f ?_ | refine bI_t ?_
      simp only [fitB, e3]
      simp only [if_pos, Bool.and_eq_true, Bool.or_eq_true, decide_eq_true_eq, Bool.and_eq_false_iff, Bool.or_eq_false_iff, decide_eq_false_iff_not, Bool.not_eq_true', Bool.not_eq_false', i_lt, i_le, i_eq, i_m1, i_0, i_1, i_2, i_3, i_4, i_5, i_6, i_7, i_8, i_9, i_10, i_11, i_12, i_17, i_20, i_24, i_32, i_44, i_48, i_50, i_51, i_52, i_57, i_58, i_100, i_126]
      first | omega | (simp; omega) | simp_all
    · show Rn G κ 78 _ _ _ _ _
      refine r_iconst (1) X dX1_fits_78 (by decide) ?_
      refine r_goto 83 X dX1_fits_79 (by decide) ?_
      refine r_zret X Z dX1_fits_83 (by decide) ?_
      refine ⟨rfl, rfl, rfl, ret_i ?_⟩
      simp only [i_lt, i_le, i_eq, i_m1, i_0, i_1, i_2, i_3, i_4, i_5, i_6, i_7, i_8, i_9, i_10, i_11, i_12, i_17, i_20, i_24, i_32, i_44, i_48, i_50, i_51, i_52, i_57, i_58, i_100, i_126] at c75
      first | refine bI_f ?_ | refine bI_t ?_
      simp only [fitB, e3]
      simp only [if_pos, Bool.and_eq_true, Bool.or_eq_true, decide_eq_true_eq, Bool.and_eq_false_iff, Bool.or_eq_false_iff, decide_eq_false_iff_not, Bool.not_eq_true', Bool.not_eq_false', i_lt, i_le, i_eq, i_m1, i_0, i_1, i_2, i_3, i_4, i_5, i_6, i_7, i_8, i_9, i_10, i_11, i_12, i_17, i_20, i_24, i_32, i_44, i_48, i_50, i_51, i_52, i_57, i_58, i_100, i_126]
      first | omega | (simp; omega) | simp_all
set_option maxRecDepth 100000 in
set_option maxHeartbeats 4000000 in
theorem c_firstWrong {G : bpG} {C : bpC} {M : bpM} {hl : Int64} {m : Nat} (hm : m ≤ 17) (h : C 1 0 1 = nI m) : Ct G yX1_firstWrong cX1_firstWrong 2 (some .int) rmX1_firstWrong [.ref (G.1 1 0)] C M hl (qI C M hl (nI (fsN (fun j => fitB (C 2 0 j) j) 0 m))) := by
  obtain ⟨r, hr⟩ : ∃ r : Int32, nI (fsN (fun j => fitB (C 2 0 j) j) 0 m) = r := ⟨_, rfl⟩
  rw [hr]
  refine ct_of [some (.ref (G.1 1 0)), none] (by decide +kernel) rfl rfl (Nat.le_of_ble_eq_true rfl) ?_
  intro κ X Z
  have loop : ∀ n i : Nat, i + n = m → nI (fsN (fun j => fitB (C 2 0 j) j) i n) = r → Rn G κ 2 [some (.ref (G.1 1 0)), some (.int (nI i))] [] C M hl := by
    intro n
    induction n with
    | zero =>
      intro i hi he
      have hi : i = m := by omega
      subst hi
      refine r_iload_n X dX1_firstWrong_2 rfl ?_
      refine r_aload_n X dX1_firstWrong_3 rfl ?_
      refine r_gi1 1 X wfl_X1_15 dX1_firstWrong_4 (by decide) rfl ?_
      refine r_icmpge 26 X dX1_firstWrong_7 (by decide) (fun c7 => ?_) (fun c7 => absurd (by rw [h]; exact Int32.le_refl _) c7)
      show Rn G κ 26 _ _ _ _ _
      refine r_aload_n X dX1_firstWrong_26 rfl ?_
      refine r_gi1 1 X wfl_X1_15 dX1_firstWrong_27 (by decide) rfl ?_
      refine r_iret X Z dX1_firstWrong_30 ?_
      refine ⟨rfl, rfl, rfl, ret_i ?_⟩
      rw [h, ← he]
      rfl
    | succ n ih =>
      intro i hi he
      have hj : i < m := by omega
      refine r_iload_n X dX1_firstWrong_2 rfl ?_
      refine r_aload_n X dX1_firstWrong_3 rfl ?_
      refine r_gi1 1 X wfl_X1_15 dX1_firstWrong_4 (by decide) rfl ?_
      refine r_icmpge 26 X dX1_firstWrong_7 (by decide) (fun c7 => absurd c7 (by rw [h]; simp only [i_lt, i_le, i_eq, i_m1, i_0, i_1, i_2, i_3, i_4, i_5, i_6, i_7, i_8, i_9, i_10, i_11, i_12, i_17, i_20, i_24, i_32, i_44, i_48, i_50, i_51, i_52, i_57, i_58, i_100, i_126, i_n (show m < 2 ^ 31 by omega), i_n (show i < 2 ^ 31 by omega)]; omega)) (fun c7 => ?_)
      show Rn G κ 10 _ _ _ _ _
      refine r_aload_n X dX1_firstWrong_10 rfl ?_
      refine r_iload_n X dX1_firstWrong_11 rfl ?_
      refine r_cv1_I X mdX1_fits wml_X1_19 dX1_firstWrong_12 ⟨rfl, rfl, Nat.le_of_ble_eq_true rfl, Nat.le_of_ble_eq_true rfl⟩ (by decide) rfl rfl (Nat.le_of_ble_eq_true rfl) rfl (zroom Z) (c_fits hm hj h) ?_
      show Rn G κ 15 _ _ _ _ _
      show Rn G κ 15 _ _ _ _ _
      refine r_ifne 20 X dX1_firstWrong_15 (by decide) (fun c15 => ?_) (fun c15 => ?_)
      · show Rn G κ 20 _ _ _ _ _
        refine r_iinc_1 (nI (i + 1)) X dX1_firstWrong_20 (nI_1 i) rfl ?_
        refine r_goto 2 X dX1_firstWrong_23 (by decide) ?_
        refine ih (i + 1) (by omega) ?_
        rw [← he]
        simp only [fsN]
        rw [if_pos (bI_1 c15)]
      · show Rn G κ 18 _ _ _ _ _
        refine r_iload_n X dX1_firstWrong_18 rfl ?_
        refine r_iret X Z dX1_firstWrong_19 ?_
        refine ⟨rfl, rfl, rfl, ret_i ?_⟩
        rw [← he]
        simp only [fsN]
        rw [if_neg (by rw [bI_0 c15]; decide)]
  refine r_iconst (0) X dX1_firstWrong_0 (by decide) ?_
  refine r_istore_1 X dX1_firstWrong_1 rfl ?_
  exact loop m 0 (by omega) hr
set_option maxRecDepth 100000 in
set_option maxHeartbeats 4000000 in
theorem c_isBoard {G : bpG} {C : bpC} {M : bpM} {hl : Int64} {m : Nat} (hm : m ≤ 17) (h : C 1 0 1 = nI m) : Ct G yX1_isBoard cX1_isBoard 1 (some .boolean) rmX1_isBoard [.ref (G.1 1 0)] C M hl (qI C M hl (bI (decide (m % 3 = 2) && decide (fsN (fun j => fitB (C 2 0 j) j) 0 m = m)))) := by
  refine ct_of [some (.ref (G.1 1 0))] (by decide +kernel) rfl rfl (Nat.le_of_ble_eq_true rfl) ?_
  intro κ X Z
  refine r_aload_n X dX1_isBoard_0 rfl ?_
  refine r_gi1 1 X wfl_X1_15 dX1_isBoard_1 (by decide) rfl ?_
  refine r_iconst (3) X dX1_isBoard_4 (by decide) ?_
  refine r_irem X dX1_isBoard_5 (by decide) ?_
  rw [h]
  refine r_top (rem_n 3 (show m < 2 ^ 31 by omega) (by decide) (by decide)) ?_
  refine r_iconst (2) X dX1_isBoard_6 (by decide) ?_
  refine r_icmpne 25 X dX1_isBoard_7 (by decide) (fun c7 => ?_) (fun c7 => ?_)
  · show Rn G κ 25 _ _ _ _ _
    refine r_iconst (0) X dX1_isBoard_25 (by decide) ?_
    refine r_zret X Z dX1_isBoard_26 (by decide) ?_
    have hf := fsN_le (fun j => fitB (C 2 0 j) j) m 0
    have e2 : (2 : Int32) = nI 2 := rfl
    try rw [e2, nI_eq (by omega) (by omega)] at c7
    try rw [h, nI_eq (by omega) (by omega)] at c18
    refine ⟨rfl, rfl, rfl, ret_i ?_⟩
    simp [bI, *]
  · show Rn G κ 10 _ _ _ _ _
    refine r_aload_n X dX1_isBoard_10 rfl ?_
    refine r_cv0_I X mdX1_firstWrong wml_X1_27 dX1_isBoard_11 ⟨rfl, rfl, Nat.le_of_ble_eq_true rfl, Nat.le_of_ble_eq_true rfl⟩ (by decide) rfl rfl (Nat.le_of_ble_eq_true rfl) rfl (zroom Z) (c_firstWrong hm h) ?_
    show Rn G κ 14 _ _ _ _ _
    refine r_aload_n X dX1_isBoard_14 rfl ?_
    refine r_gi1 1 X wfl_X1_15 dX1_isBoard_15 (by decide) rfl ?_
    refine r_icmpne 25 X dX1_isBoard_18 (by decide) (fun c18 => ?_) (fun c18 => ?_)
    · show Rn G κ 25 _ _ _ _ _
      refine r_iconst (0) X dX1_isBoard_25 (by decide) ?_
      refine r_zret X Z dX1_isBoard_26 (by decide) ?_
      have hf := fsN_le (fun j => fitB (C 2 0 j) j) m 0
      have e2 : (2 : Int32) = nI 2 := rfl
      try rw [e2, nI_eq (by omega) (by omega)] at c7
      try rw [h, nI_eq (by omega) (by omega)] at c18
      refine ⟨rfl, rfl, rfl, ret_i ?_⟩
      simp [bI, *]
    · show Rn G κ 21 _ _ _ _ _
      refine r_iconst (1) X dX1_isBoard_21 (by decide) ?_
      refine r_goto 26 X dX1_isBoard_22 (by decide) ?_
      refine r_zret X Z dX1_isBoard_26 (by decide) ?_
      have hf := fsN_le (fun j => fitB (C 2 0 j) j) m 0
      have e2 : (2 : Int32) = nI 2 := rfl
      try rw [e2, nI_eq (by omega) (by omega)] at c7
      try rw [h, nI_eq (by omega) (by omega)] at c18
      refine ⟨rfl, rfl, rfl, ret_i ?_⟩
      simp [bI, *]
set_option maxRecDepth 100000 in
set_option maxHeartbeats 4000000 in
theorem c_portsWritten {G : bpG} {C : bpC} {M : bpM} {hl : Int64} {m : Nat} (hm : m ≤ 17) (h : C 1 0 1 = nI m) : Ct G yX1_portsWritten cX1_portsWritten 1 (some .int) rmX1_portsWritten [.ref (G.1 1 0)] C M hl (qI C M hl (nI ((m + 1) / 3))) := by
  refine ct_of [some (.ref (G.1 1 0))] (by decide +kernel) rfl rfl (Nat.le_of_ble_eq_true rfl) ?_
  intro κ X Z
  refine r_aload_n X dX1_portsWritten_0 rfl ?_
  refine r_gi1 1 X wfl_X1_15 dX1_portsWritten_1 (by decide) rfl ?_
  refine r_iconst (1) X dX1_portsWritten_4 (by decide) ?_
  refine r_iadd X dX1_portsWritten_5 ?_
  refine r_iconst (3) X dX1_portsWritten_6 (by decide) ?_
  refine r_idiv X dX1_portsWritten_7 (by decide) ?_
  refine r_iret X Z dX1_portsWritten_8 ?_
  refine ⟨rfl, rfl, rfl, ret_i ?_⟩
  rw [h, nI_1]
  exact pk_div (by omega) (by decide) (by decide)
set_option maxRecDepth 100000 in
set_option maxHeartbeats 4000000 in
theorem c_keyOfPort {G : bpG} {C : bpC} {M : bpM} {hl : Int64} {m i : Nat} (hm : m ≤ 17) (hi : 3 * i < m) (h : C 1 0 1 = nI m) : Ct G yX1_keyOfPort cX1_keyOfPort 2 (some .int) rmX1_keyOfPort [.ref (G.1 1 0), .int (nI i)] C M hl (qI C M hl (C 2 0 (3 * i) - 48)) := by
  refine ct_of [some (.ref (G.1 1 0)), some (.int (nI i))] (by decide +kernel) rfl rfl (Nat.le_of_ble_eq_true rfl) ?_
  intro κ X Z
  refine r_aload_n X dX1_keyOfPort_0 rfl ?_
  refine r_iconst (3) X dX1_keyOfPort_1 (by decide) ?_
  refine r_iload_n X dX1_keyOfPort_2 rfl ?_
  refine r_imul X dX1_keyOfPort_3 ?_
  refine r_top (pk_mul 3 i) ?_
  refine r_cv1_I X mdX1_codeAt wml_X1_23 dX1_keyOfPort_4 ⟨rfl, rfl, Nat.le_of_ble_eq_true rfl, Nat.le_of_ble_eq_true rfl⟩ (by decide) rfl rfl (Nat.le_of_ble_eq_true rfl) rfl (zroom Z) (c_codeAt hm hi h) ?_
  show Rn G κ 7 _ _ _ _ _
  refine r_bipush (48) X dX1_keyOfPort_7 (by decide) ?_
  refine r_isub X dX1_keyOfPort_9 ?_
  show Rn G κ 10 _ _ _ _ _
  refine r_iret X Z dX1_keyOfPort_10 ?_
  exact ⟨rfl, rfl, rfl, rfl⟩
set_option maxRecDepth 100000 in
set_option maxHeartbeats 4000000 in
theorem c_rankOfPort {G : bpG} {C : bpC} {M : bpM} {hl : Int64} {m i : Nat} (hm : m ≤ 17) (hi : 3 * i + 1 < m) (h : C 1 0 1 = nI m) : Ct G yX1_rankOfPort cX1_rankOfPort 2 (some .int) rmX1_rankOfPort [.ref (G.1 1 0), .int (nI i)] C M hl (qI C M hl (C 2 0 (3 * i + 1) - 48)) := by
  refine ct_of [some (.ref (G.1 1 0)), some (.int (nI i))] (by decide +kernel) rfl rfl (Nat.le_of_ble_eq_true rfl) ?_
  intro κ X Z
  refine r_aload_n X dX1_rankOfPort_0 rfl ?_
  refine r_iconst (3) X dX1_rankOfPort_1 (by decide) ?_
  refine r_iload_n X dX1_rankOfPort_2 rfl ?_
  refine r_imul X dX1_rankOfPort_3 ?_
  refine r_iconst (1) X dX1_rankOfPort_4 (by decide) ?_
  refine r_iadd X dX1_rankOfPort_5 ?_
  refine r_top (show (3 : Int32) * nI i + 1 = nI (3 * i + 1) from by rw [← nI_1, ← pk_mul]; rfl) ?_
  refine r_cv1_I X mdX1_codeAt wml_X1_23 dX1_rankOfPort_6 ⟨rfl, rfl, Nat.le_of_ble_eq_true rfl, Nat.le_of_ble_eq_true rfl⟩ (by decide) rfl rfl (Nat.le_of_ble_eq_true rfl) rfl (zroom Z) (c_codeAt hm hi h) ?_
  show Rn G κ 9 _ _ _ _ _
  show Rn G κ 9 _ _ _ _ _
  refine r_bipush (48) X dX1_rankOfPort_9 (by decide) ?_
  refine r_isub X dX1_rankOfPort_11 ?_
  refine r_iret X Z dX1_rankOfPort_12 ?_
  exact ⟨rfl, rfl, rfl, rfl⟩
set_option maxRecDepth 100000 in
set_option maxHeartbeats 4000000 in
theorem c_prestart {G : bpG} {C : bpC} {M : bpM} {hl : Int64} {p : Nat} {k r : Int32} (hp : p < 6) : Ct G yX2_restart cX2_restart 3 none rmX2_restart [.ref (G.1 5 p), .int k, .int r] C M hl (qC M hl (fun C' => C' = (upC (upC (upC (upC (upC (upC (upC C 5 p 1 k) 5 p 2 r) 5 p 3 0) 5 p 4 0) 5 p 9 0) 5 p 10 0) 6 p 2 0))) := by
  refine ct_of [some (.ref (G.1 5 p)), some (.int k), some (.int r)] (by decide +kernel) rfl rfl (Nat.le_of_ble_eq_true rfl) ?_
  intro κ X Z
  refine r_aload_n X dX2_restart_0 rfl ?_
  refine r_iload_n X dX2_restart_1 rfl ?_
  refine r_pi5 1 X (by assumption) wfl_X2_18 dX2_restart_2 (by decide) rfl rfl (by decide +kernel) ?_
  refine r_aload_n X dX2_restart_5 rfl ?_
  refine r_iload_n X dX2_restart_6 rfl ?_
  refine r_pi5 2 X (by assumption) wfl_X2_22 dX2_restart_7 (by decide) rfl rfl (by decide +kernel) ?_
  refine r_aload_n X dX2_restart_10 rfl ?_
  show Rn G κ 11 _ _ _ _ _
  refine r_iconst (0) X dX2_restart_11 (by decide) ?_
  refine r_pz5 3 X (by assumption) (by decide) wfl_X2_25 dX2_restart_12 (by decide) rfl rfl (by decide +kernel) ?_
  refine r_aload_n X dX2_restart_15 rfl ?_
  refine r_iconst (0) X dX2_restart_16 (by decide) ?_
  refine r_pz5 4 X (by assumption) (by decide) wfl_X2_29 dX2_restart_17 (by decide) rfl rfl (by decide +kernel) ?_
  refine r_aload_n X dX2_restart_20 rfl ?_
  refine r_iconst (0) X dX2_restart_21 (by decide) ?_
  refine r_pi5 9 X (by assumption) wfl_X2_44 dX2_restart_22 (by decide) rfl rfl (by decide +kernel) ?_
  show Rn G κ 25 _ _ _ _ _
  refine r_aload_n X dX2_restart_25 rfl ?_
  refine r_iconst (0) X dX2_restart_26 (by decide) ?_
  refine r_pi5 10 X (by assumption) wfl_X2_47 dX2_restart_27 (by decide) rfl rfl (by decide +kernel) ?_
  refine r_aload_n X dX2_restart_30 rfl ?_
  refine r_gr5_0 X (by assumption) wfl_X2_12 dX2_restart_31 ?_
  refine r_iconst (0) X dX2_restart_34 (by decide) ?_
  refine r_pi6 2 X (by assumption) wfl_X2_50 dX2_restart_35 (by decide) rfl rfl (by decide +kernel) ?_
  refine r_vret X Z dX2_restart_38 ?_
  exact ⟨rfl, rfl, rfl, rfl⟩
set_option maxRecDepth 100000 in
set_option maxHeartbeats 4000000 in
theorem c_keepHeard {G : bpG} {C : bpC} {M : bpM} {hl : Int64} {p : Nat} {x k r : Int32} (hp : p < 6) (hz : r = 0 ∨ r = 1) : Ct G yX2_keepHeard cX2_keepHeard 4 none rmX2_keepHeard [.ref (G.1 5 p), .int x, .int k, .int r] C M hl (qC M hl (fun C' => C' = (upC (upC (upC (upC (upC C 5 p 4 1) 5 p 5 x) 5 p 6 k) 5 p 7 r) 5 p 8 0))) := by
  refine ct_of [some (.ref (G.1 5 p)), some (.int x), some (.int k), some (.int r)] (by decide +kernel) rfl rfl (Nat.le_of_ble_eq_true rfl) ?_
  intro κ X Z
  refine r_aload_n X dX2_keepHeard_0 rfl ?_
  refine r_iconst (1) X dX2_keepHeard_1 (by decide) ?_
  refine r_pz5 4 X (by assumption) (by decide) wfl_X2_29 dX2_keepHeard_2 (by decide) rfl rfl (by decide +kernel) ?_
  refine r_aload_n X dX2_keepHeard_5 rfl ?_
  refine r_iload_n X dX2_keepHeard_6 rfl ?_
  refine r_pi5 5 X (by assumption) wfl_X2_32 dX2_keepHeard_7 (by decide) rfl rfl (by decide +kernel) ?_
  refine r_aload_n X dX2_keepHeard_10 rfl ?_
  show Rn G κ 11 _ _ _ _ _
  refine r_iload_n X dX2_keepHeard_11 rfl ?_
  refine r_pi5 6 X (by assumption) wfl_X2_35 dX2_keepHeard_12 (by decide) rfl rfl (by decide +kernel) ?_
  refine r_aload_n X dX2_keepHeard_15 rfl ?_
  refine r_iload_n X dX2_keepHeard_16 rfl ?_
  refine r_pz5 7 X (by assumption) hz wfl_X2_38 dX2_keepHeard_17 (by decide) rfl rfl (by decide +kernel) ?_
  refine r_aload_n X dX2_keepHeard_20 rfl ?_
  refine r_iconst (0) X dX2_keepHeard_21 (by decide) ?_
  refine r_pi5 8 X (by assumption) wfl_X2_41 dX2_keepHeard_22 (by decide) rfl rfl (by decide +kernel) ?_
  show Rn G κ 25 _ _ _ _ _
  refine r_vret X Z dX2_keepHeard_25 ?_
  exact ⟨rfl, rfl, rfl, rfl⟩
set_option maxRecDepth 100000 in
set_option maxHeartbeats 4000000 in
theorem c_growOlder {G : bpG} {C : bpC} {M : bpM} {hl : Int64} {p : Nat} (hp : p < 6) : Ct G yX2_growOlder cX2_growOlder 1 none rmX2_growOlder [.ref (G.1 5 p)] C M hl (qC M hl (fun C' => C' = if C 5 p 4 = 0 then C else upC (upC C 5 p 8 (C 5 p 8 + 1)) 5 p 4 (bI (decide (C 5 p 8 + 1 < 4))))) := by
  refine ct_of [some (.ref (G.1 5 p))] (by decide +kernel) rfl rfl (Nat.le_of_ble_eq_true rfl) ?_
  intro κ X Z
  refine r_aload_n X dX2_growOlder_0 rfl ?_
  refine r_gi5 4 X (by assumption) wfl_X2_29 dX2_growOlder_1 (by decide) rfl ?_
  refine r_ifeq 34 X dX2_growOlder_4 (by decide) (fun c4 => ?_) (fun c4 => ?_)
  · show Rn G κ 34 _ _ _ _ _
    refine r_vret X Z dX2_growOlder_34 ?_
    refine ⟨rfl, rfl, rfl, ?_⟩
    try rw [upC_at] at c23
    first | (rw [if_pos c4]; done) | (rw [if_neg c4]; congr 1; first | (exact bI_t (by simpa using c23)) | (exact bI_f (by simpa using c23)))
  · show Rn G κ 7 _ _ _ _ _
    refine r_aload_n X dX2_growOlder_7 rfl ?_
    refine r_dup X dX2_growOlder_8 rfl ?_
    refine r_gi5 8 X (by assumption) wfl_X2_41 dX2_growOlder_9 (by decide) rfl ?_
    refine r_iconst (1) X dX2_growOlder_12 (by decide) ?_
    refine r_iadd X dX2_growOlder_13 ?_
    refine r_pi5 8 X (by assumption) wfl_X2_41 dX2_growOlder_14 (by decide) rfl rfl (by decide +kernel) ?_
    refine r_aload_n X dX2_growOlder_17 rfl ?_
    show Rn G κ 18 _ _ _ _ _
    refine r_aload_n X dX2_growOlder_18 rfl ?_
    refine r_gi5 8 X (by assumption) wfl_X2_41 dX2_growOlder_19 (by decide) rfl ?_
    refine r_iconst (4) X dX2_growOlder_22 (by decide) ?_
    refine r_icmpge 30 X dX2_growOlder_23 (by decide) (fun c23 => ?_) (fun c23 => ?_)
    · show Rn G κ 30 _ _ _ _ _
      refine r_iconst (0) X dX2_growOlder_30 (by decide) ?_
      refine r_pz5 4 X (by assumption) (by decide) wfl_X2_29 dX2_growOlder_31 (by decide) rfl rfl (by decide +kernel) ?_
      refine r_vret X Z dX2_growOlder_34 ?_
      refine ⟨rfl, rfl, rfl, ?_⟩
      try rw [upC_at] at c23
      first | (rw [if_pos c4]; done) | (rw [if_neg c4]; congr 1; first | (exact bI_t (by simpa using c23)) | (exact bI_f (by simpa using c23)))
    · show Rn G κ 26 _ _ _ _ _
      refine r_iconst (1) X dX2_growOlder_26 (by decide) ?_
      refine r_goto 31 X dX2_growOlder_27 (by decide) ?_
      refine r_pz5 4 X (by assumption) (by decide) wfl_X2_29 dX2_growOlder_31 (by decide) rfl rfl (by decide +kernel) ?_
      refine r_vret X Z dX2_growOlder_34 ?_
      refine ⟨rfl, rfl, rfl, ?_⟩
      try rw [upC_at] at c23
      first | (rw [if_pos c4]; done) | (rw [if_neg c4]; congr 1; first | (exact bI_t (by simpa using c23)) | (exact bI_f (by simpa using c23)))
set_option maxRecDepth 100000 in
set_option maxHeartbeats 4000000 in
theorem c_isAlike {G : bpG} {C : bpC} {M : bpM} {hl : Int64} {p q : Nat} (hp : p < 6) (hq : q < 6) : Ct G yX2_isAlike cX2_isAlike 2 (some .boolean) rmX2_isAlike [.ref (G.1 5 p), .ref (G.1 5 q)] C M hl (qI C M hl (bI (!decide (C 5 p 4 = 0) && (!decide (C 5 q 4 = 0) && (decide (C 5 p 1 = C 5 q 1) && (decide (C 5 p 5 = C 5 q 5) && decide (C 5 p 6 = C 5 q 6))))))) := by
  refine ct_of [some (.ref (G.1 5 p)), some (.ref (G.1 5 q))] (by decide +kernel) rfl rfl (Nat.le_of_ble_eq_true rfl) ?_
  intro κ X Z
  refine r_aload_n X dX2_isAlike_0 rfl ?_
  refine r_gi5 4 X (by assumption) wfl_X2_29 dX2_isAlike_1 (by decide) rfl ?_
  refine r_ifeq 51 X dX2_isAlike_4 (by decide) (fun c4 => ?_) (fun c4 => ?_)
  · show Rn G κ 51 _ _ _ _ _
    refine r_iconst (0) X dX2_isAlike_51 (by decide) ?_
    refine r_zret X Z dX2_isAlike_52 (by decide) ?_
    refine ⟨rfl, rfl, rfl, ret_i ?_⟩
    simp [bI, *]
  · show Rn G κ 7 _ _ _ _ _
    refine r_aload_n X dX2_isAlike_7 rfl ?_
    refine r_gi5 4 X (by assumption) wfl_X2_29 dX2_isAlike_8 (by decide) rfl ?_
    refine r_ifeq 51 X dX2_isAlike_11 (by decide) (fun c11 => ?_) (fun c11 => ?_)
    · show Rn G κ 51 _ _ _ _ _
      refine r_iconst (0) X dX2_isAlike_51 (by decide) ?_
      refine r_zret X Z dX2_isAlike_52 (by decide) ?_
      refine ⟨rfl, rfl, rfl, ret_i ?_⟩
      simp [bI, *]
    · show Rn G κ 14 _ _ _ _ _
      refine r_aload_n X dX2_isAlike_14 rfl ?_
      refine r_gi5 1 X (by assumption) wfl_X2_18 dX2_isAlike_15 (by decide) rfl ?_
      refine r_aload_n X dX2_isAlike_18 rfl ?_
      refine r_gi5 1 X (by assumption) wfl_X2_18 dX2_isAlike_19 (by decide) rfl ?_
      refine r_icmpne 51 X dX2_isAlike_22 (by decide) (fun c22 => ?_) (fun c22 => ?_)
      · show Rn G κ 51 _ _ _ _ _
        refine r_iconst (0) X dX2_isAlike_51 (by decide) ?_
        refine r_zret X Z dX2_isAlike_52 (by decide) ?_
        refine ⟨rfl, rfl, rfl, ret_i ?_⟩
        simp [bI, *]
      · show Rn G κ 25 _ _ _ _ _
        refine r_aload_n X dX2_isAlike_25 rfl ?_
        refine r_gi5 5 X (by assumption) wfl_X2_32 dX2_isAlike_26 (by decide) rfl ?_
        refine r_aload_n X dX2_isAlike_29 rfl ?_
        refine r_gi5 5 X (by assumption) wfl_X2_32 dX2_isAlike_30 (by decide) rfl ?_
        refine r_icmpne 51 X dX2_isAlike_33 (by decide) (fun c33 => ?_) (fun c33 => ?_)
        · show Rn G κ 51 _ _ _ _ _
          refine r_iconst (0) X dX2_isAlike_51 (by decide) ?_
          refine r_zret X Z dX2_isAlike_52 (by decide) ?_
          refine ⟨rfl, rfl, rfl, ret_i ?_⟩
          simp [bI, *]
        · show Rn G κ 36 _ _ _ _ _
          refine r_aload_n X dX2_isAlike_36 rfl ?_
          refine r_gi5 6 X (by assumption) wfl_X2_35 dX2_isAlike_37 (by decide) rfl ?_
          refine r_aload_n X dX2_isAlike_40 rfl ?_
          refine r_gi5 6 X (by assumption) wfl_X2_35 dX2_isAlike_41 (by decide) rfl ?_
          refine r_icmpne 51 X dX2_isAlike_44 (by decide) (fun c44 => ?_) (fun c44 => ?_)
          · show Rn G κ 51 _ _ _ _ _
            refine r_iconst (0) X dX2_isAlike_51 (by decide) ?_
            refine r_zret X Z dX2_isAlike_52 (by decide) ?_
            refine ⟨rfl, rfl, rfl, ret_i ?_⟩
            simp [bI, *]
          · show Rn G κ 47 _ _ _ _ _
            refine r_iconst (1) X dX2_isAlike_47 (by decide) ?_
            refine r_goto 52 X dX2_isAlike_48 (by decide) ?_
            refine r_zret X Z dX2_isAlike_52 (by decide) ?_
            refine ⟨rfl, rfl, rfl, ret_i ?_⟩
            simp [bI, *]
