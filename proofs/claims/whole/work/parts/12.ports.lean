set_option maxRecDepth 100000 in
set_option maxHeartbeats 4000000 in
theorem c_mix {G : bpG} {C : bpC} {M : bpM} {hl : Int64} {x y : Int64} : Ct G yX4_mix cX4_mix 4 (some .long) rmX4_mix [.long x, .long y] C M hl (qL C M hl (31 * x + y)) := by
  refine ct_of [some (.long x), none, some (.long y), none] (by decide +kernel) rfl rfl (Nat.le_of_ble_eq_true rfl) ?_
  intro κ X Z
  refine r_ldc2 wcL_X4_252 X dX4_mix_0 ?_
  refine r_lload_n X dX4_mix_3 rfl ?_
  refine r_lmul X dX4_mix_4 ?_
  refine r_lload_n X dX4_mix_5 rfl ?_
  refine r_ladd X dX4_mix_6 ?_
  refine r_lret X Z dX4_mix_7 ?_
  exact ⟨rfl, rfl, rfl, rfl⟩
set_option maxRecDepth 100000 in
set_option maxHeartbeats 4000000 in
theorem c_asNumber {G : bpG} {C : bpC} {M : bpM} {hl : Int64} {x : Int32} (hz : x = 0 ∨ x = 1) : Ct G yX4_asNumber cX4_asNumber 1 (some .int) rmX4_asNumber [.int x] C M hl (qI C M hl x) := by
  refine ct_of [some (.int x)] (by decide +kernel) rfl rfl (Nat.le_of_ble_eq_true rfl) ?_
  intro κ X Z
  refine r_iload_n X dX4_asNumber_0 rfl ?_
  refine r_ifeq 8 X dX4_asNumber_1 (by decide) (fun c1 => ?_) (fun c1 => ?_)
  · show Rn G κ 8 _ _ _ _ _
    refine r_iconst (0) X dX4_asNumber_8 (by decide) ?_
    refine r_iret X Z dX4_asNumber_9 ?_
    refine ⟨rfl, rfl, rfl, ret_i ?_⟩
    rcases hz with rfl | rfl <;> first | rfl | exact absurd rfl c1 | exact absurd c1 (by decide)
  · show Rn G κ 4 _ _ _ _ _
    refine r_iconst (1) X dX4_asNumber_4 (by decide) ?_
    refine r_goto 9 X dX4_asNumber_5 (by decide) ?_
    refine r_iret X Z dX4_asNumber_9 ?_
    refine ⟨rfl, rfl, rfl, ret_i ?_⟩
    rcases hz with rfl | rfl <;> first | rfl | exact absurd rfl c1 | exact absurd c1 (by decide)
set_option maxRecDepth 100000 in
set_option maxHeartbeats 4000000 in
theorem c_isPort {G : bpG} {C : bpC} {M : bpM} {hl : Int64} {a : bpM} {x : Int32} (hS : C 0 0 3 = a 2 0) (hB : Bas a) : Ct G yX4_isPort cX4_isPort 2 (some .boolean) rmX4_isPort [.ref (G.1 0 0), .int x] C M hl (qI C M hl (bI (isP a x))) := by
  refine ct_of [some (.ref (G.1 0 0)), some (.int x)] (by decide +kernel) rfl rfl (Nat.le_of_ble_eq_true rfl) ?_
  intro κ X Z
  refine r_iload_n X dX4_isPort_0 rfl ?_
  refine r_iflt 22 X dX4_isPort_1 (by decide) (fun c1 => ?_) (fun c1 => ?_)
  · show Rn G κ 22 _ _ _ _ _
    refine r_iconst (0) X dX4_isPort_22 (by decide) ?_
    refine r_zret X Z dX4_isPort_23 (by decide) ?_
    have h6 : (a 2 0).toInt ≤ 6 := by rw [hB.1, i_n (by have := hB.2.1; omega)]; have := hB.2.1; omega
    refine ⟨rfl, rfl, rfl, ret_i ?_⟩
    try rw [hS] at c9
    simp only [i_lt, i_le, i_eq, i_m1, i_0, i_1, i_2, i_3, i_4, i_5, i_6, i_7, i_8, i_9, i_10, i_11, i_12, i_17, i_20, i_24, i_32, i_44, i_48, i_50, i_51, i_52, i_57, i_58, i_100, i_126] at c1
    first | refine bI_f ?_ | refine bI_t ?_
    simp only [isP, Bool.and_eq_true, Bool.or_eq_true, decide_eq_true_eq, Bool.and_eq_false_iff, Bool.or_eq_false_iff, decide_eq_false_iff_not, Bool.not_eq_true', Bool.not_eq_false', i_lt, i_le, i_eq, i_m1, i_0, i_1, i_2, i_3, i_4, i_5, i_6, i_7, i_8, i_9, i_10, i_11, i_12, i_17, i_20, i_24, i_32, i_44, i_48, i_50, i_51, i_52, i_57, i_58, i_100, i_126]
    omega
  · show Rn G κ 4 _ _ _ _ _
    refine r_iload_n X dX4_isPort_4 rfl ?_
    refine r_aload_n X dX4_isPort_5 rfl ?_
    refine r_gi0 3 X wfl_X4_28 dX4_isPort_6 (by decide) rfl ?_
    refine r_icmpge 22 X dX4_isPort_9 (by decide) (fun c9 => ?_) (fun c9 => ?_)
    · show Rn G κ 22 _ _ _ _ _
      refine r_iconst (0) X dX4_isPort_22 (by decide) ?_
      refine r_zret X Z dX4_isPort_23 (by decide) ?_
      have h6 : (a 2 0).toInt ≤ 6 := by rw [hB.1, i_n (by have := hB.2.1; omega)]; have := hB.2.1; omega
      refine ⟨rfl, rfl, rfl, ret_i ?_⟩
      try rw [hS] at c9
      simp only [i_lt, i_le, i_eq, i_m1, i_0, i_1, i_2, i_3, i_4, i_5, i_6, i_7, i_8, i_9, i_10, i_11, i_12, i_17, i_20, i_24, i_32, i_44, i_48, i_50, i_51, i_52, i_57, i_58, i_100, i_126] at c1 c9
      first | refine bI_f ?_ | refine bI_t ?_
      simp only [isP, Bool.and_eq_true, Bool.or_eq_true, decide_eq_true_eq, Bool.and_eq_false_iff, Bool.or_eq_false_iff, decide_eq_false_iff_not, Bool.not_eq_true', Bool.not_eq_false', i_lt, i_le, i_eq, i_m1, i_0, i_1, i_2, i_3, i_4, i_5, i_6, i_7, i_8, i_9, i_10, i_11, i_12, i_17, i_20, i_24, i_32, i_44, i_48, i_50, i_51, i_52, i_57, i_58, i_100, i_126]
      omega
    · show Rn G κ 12 _ _ _ _ _
      refine r_iload_n X dX4_isPort_12 rfl ?_
      refine r_bipush (6) X dX4_isPort_13 (by decide) ?_
      refine r_icmpge 22 X dX4_isPort_15 (by decide) (fun c15 => ?_) (fun c15 => ?_)
      · show Rn G κ 22 _ _ _ _ _
        refine r_iconst (0) X dX4_isPort_22 (by decide) ?_
        refine r_zret X Z dX4_isPort_23 (by decide) ?_
        have h6 : (a 2 0).toInt ≤ 6 := by rw [hB.1, i_n (by have := hB.2.1; omega)]; have := hB.2.1; omega
        refine ⟨rfl, rfl, rfl, ret_i ?_⟩
        try rw [hS] at c9
        simp only [i_lt, i_le, i_eq, i_m1, i_0, i_1, i_2, i_3, i_4, i_5, i_6, i_7, i_8, i_9, i_10, i_11, i_12, i_17, i_20, i_24, i_32, i_44, i_48, i_50, i_51, i_52, i_57, i_58, i_100, i_126] at c1 c9 c15
        first | refine bI_f ?_ | refine bI_t ?_
        simp only [isP, Bool.and_eq_true, Bool.or_eq_true, decide_eq_true_eq, Bool.and_eq_false_iff, Bool.or_eq_false_iff, decide_eq_false_iff_not, Bool.not_eq_true', Bool.not_eq_false', i_lt, i_le, i_eq, i_m1, i_0, i_1, i_2, i_3, i_4, i_5, i_6, i_7, i_8, i_9, i_10, i_11, i_12, i_17, i_20, i_24, i_32, i_44, i_48, i_50, i_51, i_52, i_57, i_58, i_100, i_126]
        omega
      · show Rn G κ 18 _ _ _ _ _
        refine r_iconst (1) X dX4_isPort_18 (by decide) ?_
        refine r_goto 23 X dX4_isPort_19 (by decide) ?_
        refine r_zret X Z dX4_isPort_23 (by decide) ?_
        have h6 : (a 2 0).toInt ≤ 6 := by rw [hB.1, i_n (by have := hB.2.1; omega)]; have := hB.2.1; omega
        refine ⟨rfl, rfl, rfl, ret_i ?_⟩
        try rw [hS] at c9
        simp only [i_lt, i_le, i_eq, i_m1, i_0, i_1, i_2, i_3, i_4, i_5, i_6, i_7, i_8, i_9, i_10, i_11, i_12, i_17, i_20, i_24, i_32, i_44, i_48, i_50, i_51, i_52, i_57, i_58, i_100, i_126] at c1 c9 c15
        first | refine bI_f ?_ | refine bI_t ?_
        simp only [isP, Bool.and_eq_true, Bool.or_eq_true, decide_eq_true_eq, Bool.and_eq_false_iff, Bool.or_eq_false_iff, decide_eq_false_iff_not, Bool.not_eq_true', Bool.not_eq_false', i_lt, i_le, i_eq, i_m1, i_0, i_1, i_2, i_3, i_4, i_5, i_6, i_7, i_8, i_9, i_10, i_11, i_12, i_17, i_20, i_24, i_32, i_44, i_48, i_50, i_51, i_52, i_57, i_58, i_100, i_126]
        omega
set_option maxRecDepth 100000 in
set_option maxHeartbeats 4000000 in
theorem c_isKey {G : bpG} {C : bpC} {M : bpM} {hl : Int64} {x : Int32} : Ct G yX4_isKey cX4_isKey 1 (some .boolean) rmX4_isKey [.int x] C M hl (qI C M hl (bI (decide (0 ≤ x) && decide (x < 4)))) := by
  refine ct_of [some (.int x)] (by decide +kernel) rfl rfl (Nat.le_of_ble_eq_true rfl) ?_
  intro κ X Z
  refine r_iload_n X dX4_isKey_0 rfl ?_
  refine r_iflt 13 X dX4_isKey_1 (by decide) (fun c1 => ?_) (fun c1 => ?_)
  · show Rn G κ 13 _ _ _ _ _
    refine r_iconst (0) X dX4_isKey_13 (by decide) ?_
    refine r_zret X Z dX4_isKey_14 (by decide) ?_
    refine ⟨rfl, rfl, rfl, ret_i ?_⟩
    simp only [i_lt, i_le, i_eq, i_m1, i_0, i_1, i_2, i_3, i_4, i_5, i_6, i_7, i_8, i_9, i_10, i_11, i_12, i_17, i_20, i_24, i_32, i_44, i_48, i_50, i_51, i_52, i_57, i_58, i_100, i_126] at c1
    first | refine bI_f ?_ | refine bI_t ?_
    simp only [Bool.and_eq_true, Bool.or_eq_true, decide_eq_true_eq, Bool.and_eq_false_iff, Bool.or_eq_false_iff, decide_eq_false_iff_not, Bool.not_eq_true', Bool.not_eq_false', i_lt, i_le, i_eq, i_m1, i_0, i_1, i_2, i_3, i_4, i_5, i_6, i_7, i_8, i_9, i_10, i_11, i_12, i_17, i_20, i_24, i_32, i_44, i_48, i_50, i_51, i_52, i_57, i_58, i_100, i_126]
    omega
  · show Rn G κ 4 _ _ _ _ _
    refine r_iload_n X dX4_isKey_4 rfl ?_
    refine r_iconst (4) X dX4_isKey_5 (by decide) ?_
    refine r_icmpge 13 X dX4_isKey_6 (by decide) (fun c6 => ?_) (fun c6 => ?_)
    · show Rn G κ 13 _ _ _ _ _
      refine r_iconst (0) X dX4_isKey_13 (by decide) ?_
      refine r_zret X Z dX4_isKey_14 (by decide) ?_
      refine ⟨rfl, rfl, rfl, ret_i ?_⟩
      simp only [i_lt, i_le, i_eq, i_m1, i_0, i_1, i_2, i_3, i_4, i_5, i_6, i_7, i_8, i_9, i_10, i_11, i_12, i_17, i_20, i_24, i_32, i_44, i_48, i_50, i_51, i_52, i_57, i_58, i_100, i_126] at c1 c6
      first | refine bI_f ?_ | refine bI_t ?_
      simp only [Bool.and_eq_true, Bool.or_eq_true, decide_eq_true_eq, Bool.and_eq_false_iff, Bool.or_eq_false_iff, decide_eq_false_iff_not, Bool.not_eq_true', Bool.not_eq_false', i_lt, i_le, i_eq, i_m1, i_0, i_1, i_2, i_3, i_4, i_5, i_6, i_7, i_8, i_9, i_10, i_11, i_12, i_17, i_20, i_24, i_32, i_44, i_48, i_50, i_51, i_52, i_57, i_58, i_100, i_126]
      omega
    · show Rn G κ 9 _ _ _ _ _
      refine r_iconst (1) X dX4_isKey_9 (by decide) ?_
      refine r_goto 14 X dX4_isKey_10 (by decide) ?_
      refine r_zret X Z dX4_isKey_14 (by decide) ?_
      refine ⟨rfl, rfl, rfl, ret_i ?_⟩
      simp only [i_lt, i_le, i_eq, i_m1, i_0, i_1, i_2, i_3, i_4, i_5, i_6, i_7, i_8, i_9, i_10, i_11, i_12, i_17, i_20, i_24, i_32, i_44, i_48, i_50, i_51, i_52, i_57, i_58, i_100, i_126] at c1 c6
      first | refine bI_f ?_ | refine bI_t ?_
      simp only [Bool.and_eq_true, Bool.or_eq_true, decide_eq_true_eq, Bool.and_eq_false_iff, Bool.or_eq_false_iff, decide_eq_false_iff_not, Bool.not_eq_true', Bool.not_eq_false', i_lt, i_le, i_eq, i_m1, i_0, i_1, i_2, i_3, i_4, i_5, i_6, i_7, i_8, i_9, i_10, i_11, i_12, i_17, i_20, i_24, i_32, i_44, i_48, i_50, i_51, i_52, i_57, i_58, i_100, i_126]
      omega
set_option maxRecDepth 100000 in
set_option maxHeartbeats 4000000 in
theorem c_isAhead {G : bpG} {C : bpC} {M : bpM} {hl : Int64} {a : bpM} {p q : Nat} (hp : p < 6) (hq : q < 6) (rp : RPt C a p) (rq : RPt C a q) : Ct G yX4_isAhead cX4_isAhead 3 (some .boolean) rmX4_isAhead [.ref (G.1 0 0), .int (nI p), .int (nI q)] C M hl (qI C M hl (bI (ahd a p q))) := by
  rw [← ahd_rel rp rq hp hq]
  refine ct_of [some (.ref (G.1 0 0)), some (.int (nI p)), some (.int (nI q))] (by decide +kernel) rfl rfl (Nat.le_of_ble_eq_true rfl) ?_
  intro κ X Z
  refine r_aload_n X dX4_isAhead_0 rfl ?_
  refine r_gr0_1 X wfl_X4_18 dX4_isAhead_1 ?_
  refine r_iload_n X dX4_isAhead_4 rfl ?_
  refine r_aaP _ X rfl (by assumption) dX4_isAhead_5 ?_
  refine r_gi5 2 X (by assumption) wfl_X4_95 dX4_isAhead_6 (by decide) rfl ?_
  refine r_aload_n X dX4_isAhead_9 rfl ?_
  refine r_gr0_1 X wfl_X4_18 dX4_isAhead_10 ?_
  show Rn G κ 13 _ _ _ _ _
  refine r_iload_n X dX4_isAhead_13 rfl ?_
  refine r_aaP _ X rfl (by assumption) dX4_isAhead_14 ?_
  refine r_gi5 2 X (by assumption) wfl_X4_95 dX4_isAhead_15 (by decide) rfl ?_
  refine r_icmpeq 48 X dX4_isAhead_18 (by decide) (fun c18 => ?_) (fun c18 => ?_)
  · show Rn G κ 48 _ _ _ _ _
    refine r_iload_n X dX4_isAhead_48 rfl ?_
    refine r_iload_n X dX4_isAhead_49 rfl ?_
    refine r_icmpge 57 X dX4_isAhead_50 (by decide) (fun c50 => ?_) (fun c50 => ?_)
    · show Rn G κ 57 _ _ _ _ _
      refine r_iconst (0) X dX4_isAhead_57 (by decide) ?_
      refine r_zret X Z dX4_isAhead_58 (by decide) ?_
      refine ⟨rfl, rfl, rfl, ret_i ?_⟩
      simp only [i_lt, i_le, i_eq, i_m1, i_0, i_1, i_2, i_3, i_4, i_5, i_6, i_7, i_8, i_9, i_10, i_11, i_12, i_17, i_20, i_24, i_32, i_44, i_48, i_50, i_51, i_52, i_57, i_58, i_100, i_126] at c18 c50
      first | refine bI_f ?_ | refine bI_t ?_
      simp only [Bool.and_eq_true, Bool.or_eq_true, decide_eq_true_eq, Bool.and_eq_false_iff, Bool.or_eq_false_iff, decide_eq_false_iff_not, Bool.not_eq_true', Bool.not_eq_false', i_lt, i_le, i_eq, i_m1, i_0, i_1, i_2, i_3, i_4, i_5, i_6, i_7, i_8, i_9, i_10, i_11, i_12, i_17, i_20, i_24, i_32, i_44, i_48, i_50, i_51, i_52, i_57, i_58, i_100, i_126]
      omega
    · show Rn G κ 53 _ _ _ _ _
      refine r_iconst (1) X dX4_isAhead_53 (by decide) ?_
      refine r_goto 58 X dX4_isAhead_54 (by decide) ?_
      refine r_zret X Z dX4_isAhead_58 (by decide) ?_
      refine ⟨rfl, rfl, rfl, ret_i ?_⟩
      simp only [i_lt, i_le, i_eq, i_m1, i_0, i_1, i_2, i_3, i_4, i_5, i_6, i_7, i_8, i_9, i_10, i_11, i_12, i_17, i_20, i_24, i_32, i_44, i_48, i_50, i_51, i_52, i_57, i_58, i_100, i_126] at c18 c50
      first | refine bI_f ?_ | refine bI_t ?_
      simp only [Bool.and_eq_true, Bool.or_eq_true, decide_eq_true_eq, Bool.and_eq_false_iff, Bool.or_eq_false_iff, decide_eq_false_iff_not, Bool.not_eq_true', Bool.not_eq_false', i_lt, i_le, i_eq, i_m1, i_0, i_1, i_2, i_3, i_4, i_5, i_6, i_7, i_8, i_9, i_10, i_11, i_12, i_17, i_20, i_24, i_32, i_44, i_48, i_50, i_51, i_52, i_57, i_58, i_100, i_126]
      omega
  · show Rn G κ 21 _ _ _ _ _
    refine r_aload_n X dX4_isAhead_21 rfl ?_
    refine r_gr0_1 X wfl_X4_18 dX4_isAhead_22 ?_
    refine r_iload_n X dX4_isAhead_25 rfl ?_
    refine r_aaP _ X rfl (by assumption) dX4_isAhead_26 ?_
    refine r_gi5 2 X (by assumption) wfl_X4_95 dX4_isAhead_27 (by decide) rfl ?_
    refine r_aload_n X dX4_isAhead_30 rfl ?_
    refine r_gr0_1 X wfl_X4_18 dX4_isAhead_31 ?_
    show Rn G κ 34 _ _ _ _ _
    refine r_iload_n X dX4_isAhead_34 rfl ?_
    refine r_aaP _ X rfl (by assumption) dX4_isAhead_35 ?_
    refine r_gi5 2 X (by assumption) wfl_X4_95 dX4_isAhead_36 (by decide) rfl ?_
    refine r_icmpge 46 X dX4_isAhead_39 (by decide) (fun c39 => ?_) (fun c39 => ?_)
    · show Rn G κ 46 _ _ _ _ _
      refine r_iconst (0) X dX4_isAhead_46 (by decide) ?_
      refine r_zret X Z dX4_isAhead_47 (by decide) ?_
      refine ⟨rfl, rfl, rfl, ret_i ?_⟩
      simp only [i_lt, i_le, i_eq, i_m1, i_0, i_1, i_2, i_3, i_4, i_5, i_6, i_7, i_8, i_9, i_10, i_11, i_12, i_17, i_20, i_24, i_32, i_44, i_48, i_50, i_51, i_52, i_57, i_58, i_100, i_126] at c18 c39
      first | refine bI_f ?_ | refine bI_t ?_
      simp only [Bool.and_eq_true, Bool.or_eq_true, decide_eq_true_eq, Bool.and_eq_false_iff, Bool.or_eq_false_iff, decide_eq_false_iff_not, Bool.not_eq_true', Bool.not_eq_false', i_lt, i_le, i_eq, i_m1, i_0, i_1, i_2, i_3, i_4, i_5, i_6, i_7, i_8, i_9, i_10, i_11, i_12, i_17, i_20, i_24, i_32, i_44, i_48, i_50, i_51, i_52, i_57, i_58, i_100, i_126]
      omega
    · show Rn G κ 42 _ _ _ _ _
      refine r_iconst (1) X dX4_isAhead_42 (by decide) ?_
      refine r_goto 47 X dX4_isAhead_43 (by decide) ?_
      refine r_zret X Z dX4_isAhead_47 (by decide) ?_
      refine ⟨rfl, rfl, rfl, ret_i ?_⟩
      simp only [i_lt, i_le, i_eq, i_m1, i_0, i_1, i_2, i_3, i_4, i_5, i_6, i_7, i_8, i_9, i_10, i_11, i_12, i_17, i_20, i_24, i_32, i_44, i_48, i_50, i_51, i_52, i_57, i_58, i_100, i_126] at c18 c39
      first | refine bI_f ?_ | refine bI_t ?_
      simp only [Bool.and_eq_true, Bool.or_eq_true, decide_eq_true_eq, Bool.and_eq_false_iff, Bool.or_eq_false_iff, decide_eq_false_iff_not, Bool.not_eq_true', Bool.not_eq_false', i_lt, i_le, i_eq, i_m1, i_0, i_1, i_2, i_3, i_4, i_5, i_6, i_7, i_8, i_9, i_10, i_11, i_12, i_17, i_20, i_24, i_32, i_44, i_48, i_50, i_51, i_52, i_57, i_58, i_100, i_126]
      omega
theorem c_isAlikeR {G : bpG} {C : bpC} {M : bpM} {hl : Int64} {a : bpM} {p q : Nat} (hp : p < 6) (hq : q < 6) (rp : RPt C a p) (rq : RPt C a q) : Ct G yX2_isAlike cX2_isAlike 2 (some .boolean) rmX2_isAlike [.ref (G.1 5 p), .ref (G.1 5 q)] C M hl (qI C M hl (bI (alk a p q))) := by
  rw [← alk_rel rp rq]
  exact c_isAlike hp hq
set_option maxRecDepth 100000 in
set_option maxHeartbeats 4000000 in
theorem c_leadOf {G : bpG} {C : bpC} {M : bpM} {hl : Int64} {a : bpM} {key : Int32} (hR : RB C a) : Ct G yX4_leadOf cX4_leadOf 4 (some .int) rmX4_leadOf [.ref (G.1 0 0), .int key] C M hl (qI C M hl (oI (lead a key))) := by
  refine ct_of [some (.ref (G.1 0 0)), some (.int key), none, none] (by decide +kernel) rfl rfl (Nat.le_of_ble_eq_true rfl) ?_
  intro κ X Z
  obtain ⟨hS, hB, hP⟩ := hR
  have hn := hB.2.1
  have hc : C 0 0 3 = nI (np a) := hS.1.trans hB.1
  have loop : ∀ n i : Nat, i + n = np a → Rn G κ 4 [some (.ref (G.1 0 0)), some (.int key), some (.int (oI (leadN a key i))), some (.int (nI i))] [] C M hl := by
    intro n
    induction n with
    | zero =>
      intro i hi
      have hi : i = np a := by omega
      subst hi
      refine r_iload_n X dX4_leadOf_4 rfl ?_
      refine r_aload_n X dX4_leadOf_5 rfl ?_
      refine r_gi0 3 X wfl_X4_28 dX4_leadOf_6 (by decide) rfl ?_
      refine r_icmpge 59 X dX4_leadOf_9 (by decide) (fun c9 => ?_) (fun c9 => absurd (by rw [hc]; exact Int32.le_refl _) c9)
      show Rn G κ 59 _ _ _ _ _
      refine r_iload_n X dX4_leadOf_59 rfl ?_
      refine r_iret X Z dX4_leadOf_60 ?_
      exact ⟨rfl, rfl, rfl, rfl⟩
    | succ n ih =>
      intro i hi
      have hin : i < np a := by omega
      have h6 : i < 6 := by omega
      obtain ⟨k1, k2, k3, k4, k5, k6⟩ := hP i hin
      cases hb : leadN a key i with
      | none =>
        show Rn G κ 4 [some (.ref (G.1 0 0)), some (.int key), some (.int (-1)), some (.int (nI i))] [] C M hl
        refine r_iload_n X dX4_leadOf_4 rfl ?_
        refine r_aload_n X dX4_leadOf_5 rfl ?_
        refine r_gi0 3 X wfl_X4_28 dX4_leadOf_6 (by decide) rfl ?_
        refine r_icmpge 59 X dX4_leadOf_9 (by decide) (fun c9 => absurd c9 (by rw [hc]; simp only [i_lt, i_le, i_eq, i_m1, i_0, i_1, i_2, i_3, i_4, i_5, i_6, i_7, i_8, i_9, i_10, i_11, i_12, i_17, i_20, i_24, i_32, i_44, i_48, i_50, i_51, i_52, i_57, i_58, i_100, i_126, i_n (show np a < 2 ^ 31 by omega), i_n (show i < 2 ^ 31 by omega)]; omega)) (fun c9 => ?_)
        show Rn G κ 12 _ _ _ _ _
        refine r_aload_n X dX4_leadOf_12 rfl ?_
        refine r_gr0_1 X wfl_X4_18 dX4_leadOf_13 ?_
        refine r_iload_n X dX4_leadOf_16 rfl ?_
        show Rn G κ 17 _ _ _ _ _
        refine r_aaP _ X rfl (by assumption) dX4_leadOf_17 ?_
        refine r_gi5 1 X (by assumption) wfl_X4_131 dX4_leadOf_18 (by decide) rfl ?_
        refine r_iload_n X dX4_leadOf_21 rfl ?_
        refine r_icmpne 53 X dX4_leadOf_22 (by decide) (fun c22 => ?_) (fun c22 => ?_)
        · show Rn G κ 53 _ _ _ _ _
          refine r_iinc_3 (nI (i + 1)) X dX4_leadOf_53 (nI_1 i) rfl ?_
          refine r_goto 4 X dX4_leadOf_56 (by decide) ?_
          have e : leadN a key (i + 1) = leadN a key i := by
            simp only [leadN]
            rw [if_neg]
            rintro ⟨h1, h2, h3⟩
            exact c22 (k1.trans h1)
          have := ih (i + 1) (by omega)
          rw [e, hb] at this
          exact this
        · show Rn G κ 25 _ _ _ _ _
          refine r_aload_n X dX4_leadOf_25 rfl ?_
          refine r_gr0_1 X wfl_X4_18 dX4_leadOf_26 ?_
          refine r_iload_n X dX4_leadOf_29 rfl ?_
          refine r_aaP _ X rfl (by assumption) dX4_leadOf_30 ?_
          refine r_gi5 4 X (by assumption) wfl_X4_109 dX4_leadOf_31 (by decide) rfl ?_
          refine r_ifeq 53 X dX4_leadOf_34 (by decide) (fun c34 => ?_) (fun c34 => ?_)
          · show Rn G κ 53 _ _ _ _ _
            refine r_iinc_3 (nI (i + 1)) X dX4_leadOf_53 (nI_1 i) rfl ?_
            refine r_goto 4 X dX4_leadOf_56 (by decide) ?_
            have e : leadN a key (i + 1) = leadN a key i := by
              simp only [leadN]
              rw [if_neg]
              rintro ⟨h1, h2, h3⟩
              exact absurd h2 (of_decide_eq_false (bI_0 (k4 ▸ c34)))
            have := ih (i + 1) (by omega)
            rw [e, hb] at this
            exact this
          · show Rn G κ 37 _ _ _ _ _
            refine r_iload_n X dX4_leadOf_37 rfl ?_
            refine r_iconst (-1) X dX4_leadOf_38 (by decide) ?_
            refine r_icmpeq 51 X dX4_leadOf_39 (by decide) (fun c39 => ?_) (fun c39 => absurd rfl c39)
            show Rn G κ 51 _ _ _ _ _
            refine r_iload_n X dX4_leadOf_51 rfl ?_
            refine r_istore_2 X dX4_leadOf_52 rfl ?_
            refine r_iinc_3 (nI (i + 1)) X dX4_leadOf_53 (nI_1 i) rfl ?_
            refine r_goto 4 X dX4_leadOf_56 (by decide) ?_
            have e : leadN a key (i + 1) = some i := by
              simp only [leadN]
              rw [if_pos]
              refine ⟨k1 ▸ c22, of_decide_eq_true (bI_1 (k4 ▸ c34)), ?_⟩
              intro b' hb'
              rw [hb] at hb'; cases hb'
            have := ih (i + 1) (by omega)
            rw [e] at this
            exact this
      | some b =>
        have hbi := leadN_ltn hb
        have hb6 : b < 6 := by omega
        show Rn G κ 4 [some (.ref (G.1 0 0)), some (.int key), some (.int (nI b)), some (.int (nI i))] [] C M hl
        refine r_iload_n X dX4_leadOf_4 rfl ?_
        refine r_aload_n X dX4_leadOf_5 rfl ?_
        refine r_gi0 3 X wfl_X4_28 dX4_leadOf_6 (by decide) rfl ?_
        refine r_icmpge 59 X dX4_leadOf_9 (by decide) (fun c9 => absurd c9 (by rw [hc]; simp only [i_lt, i_le, i_eq, i_m1, i_0, i_1, i_2, i_3, i_4, i_5, i_6, i_7, i_8, i_9, i_10, i_11, i_12, i_17, i_20, i_24, i_32, i_44, i_48, i_50, i_51, i_52, i_57, i_58, i_100, i_126, i_n (show np a < 2 ^ 31 by omega), i_n (show i < 2 ^ 31 by omega)]; omega)) (fun c9 => ?_)
        show Rn G κ 12 _ _ _ _ _
        refine r_aload_n X dX4_leadOf_12 rfl ?_
        refine r_gr0_1 X wfl_X4_18 dX4_leadOf_13 ?_
        refine r_iload_n X dX4_leadOf_16 rfl ?_
        show Rn G κ 17 _ _ _ _ _
        refine r_aaP _ X rfl (by assumption) dX4_leadOf_17 ?_
        refine r_gi5 1 X (by assumption) wfl_X4_131 dX4_leadOf_18 (by decide) rfl ?_
        refine r_iload_n X dX4_leadOf_21 rfl ?_
        refine r_icmpne 53 X dX4_leadOf_22 (by decide) (fun c22 => ?_) (fun c22 => ?_)
        · show Rn G κ 53 _ _ _ _ _
          refine r_iinc_3 (nI (i + 1)) X dX4_leadOf_53 (nI_1 i) rfl ?_
          refine r_goto 4 X dX4_leadOf_56 (by decide) ?_
          have e : leadN a key (i + 1) = leadN a key i := by
            simp only [leadN]
            rw [if_neg]
            rintro ⟨h1, h2, h3⟩
            exact c22 (k1.trans h1)
          have := ih (i + 1) (by omega)
          rw [e, hb] at this
          exact this
        · show Rn G κ 25 _ _ _ _ _
          refine r_aload_n X dX4_leadOf_25 rfl ?_
          refine r_gr0_1 X wfl_X4_18 dX4_leadOf_26 ?_
          refine r_iload_n X dX4_leadOf_29 rfl ?_
          refine r_aaP _ X rfl (by assumption) dX4_leadOf_30 ?_
          refine r_gi5 4 X (by assumption) wfl_X4_109 dX4_leadOf_31 (by decide) rfl ?_
          refine r_ifeq 53 X dX4_leadOf_34 (by decide) (fun c34 => ?_) (fun c34 => ?_)
          · show Rn G κ 53 _ _ _ _ _
            refine r_iinc_3 (nI (i + 1)) X dX4_leadOf_53 (nI_1 i) rfl ?_
            refine r_goto 4 X dX4_leadOf_56 (by decide) ?_
            have e : leadN a key (i + 1) = leadN a key i := by
              simp only [leadN]
              rw [if_neg]
              rintro ⟨h1, h2, h3⟩
              exact absurd h2 (of_decide_eq_false (bI_0 (k4 ▸ c34)))
            have := ih (i + 1) (by omega)
            rw [e, hb] at this
            exact this
          · show Rn G κ 37 _ _ _ _ _
            refine r_iload_n X dX4_leadOf_37 rfl ?_
            refine r_iconst (-1) X dX4_leadOf_38 (by decide) ?_
            refine r_icmpeq 51 X dX4_leadOf_39 (by decide) (fun c39 => absurd c39 (nI_m1 (show b < 2 ^ 31 by omega))) (fun c39 => ?_)
            show Rn G κ 42 _ _ _ _ _
            refine r_aload_n X dX4_leadOf_42 rfl ?_
            refine r_iload_n X dX4_leadOf_43 rfl ?_
            refine r_iload_n X dX4_leadOf_44 rfl ?_
            refine r_cv2_I X mdX4_isAhead wml_X4_266 dX4_leadOf_45 ⟨rfl, rfl, Nat.le_of_ble_eq_true rfl, Nat.le_of_ble_eq_true rfl⟩ (by decide) rfl rfl (Nat.le_of_ble_eq_true rfl) rfl (zroom Z) (c_isAhead h6 hb6 (hP i hin) (hP b (by omega))) ?_
            show Rn G κ 48 _ _ _ _ _
            show Rn G κ 48 _ _ _ _ _
            refine r_ifeq 53 X dX4_leadOf_48 (by decide) (fun c48 => ?_) (fun c48 => ?_)
            · show Rn G κ 53 _ _ _ _ _
              refine r_iinc_3 (nI (i + 1)) X dX4_leadOf_53 (nI_1 i) rfl ?_
              refine r_goto 4 X dX4_leadOf_56 (by decide) ?_
              have e : leadN a key (i + 1) = leadN a key i := by
                simp only [leadN]
                rw [if_neg]
                rintro ⟨h1, h2, h3⟩
                have h4 := h3 _ hb; rw [h4] at c48; exact absurd c48 (by decide)
              have := ih (i + 1) (by omega)
              rw [e, hb] at this
              exact this
            · show Rn G κ 51 _ _ _ _ _
              refine r_iload_n X dX4_leadOf_51 rfl ?_
              refine r_istore_2 X dX4_leadOf_52 rfl ?_
              refine r_iinc_3 (nI (i + 1)) X dX4_leadOf_53 (nI_1 i) rfl ?_
              refine r_goto 4 X dX4_leadOf_56 (by decide) ?_
              have e : leadN a key (i + 1) = some i := by
                simp only [leadN]
                rw [if_pos]
                refine ⟨k1 ▸ c22, of_decide_eq_true (bI_1 (k4 ▸ c34)), ?_⟩
                intro b' hb'
                rw [hb] at hb'; cases hb'; exact bI_1 c48
              have := ih (i + 1) (by omega)
              rw [e] at this
              exact this
  refine r_iconst (-1) X dX4_leadOf_0 (by decide) ?_
  refine r_istore_2 X dX4_leadOf_1 rfl ?_
  refine r_iconst (0) X dX4_leadOf_2 (by decide) ?_
  refine r_istore_3 X dX4_leadOf_3 rfl ?_
  exact loop (np a) 0 (by omega)
set_option maxRecDepth 100000 in
set_option maxHeartbeats 4000000 in
theorem c_choiceOf_none {G : bpG} {C : bpC} {M : bpM} {hl : Int64} {a : bpM} {p : Nat} (hR : RB C a) (hp : p < np a) : Ct G yX4_choiceOf cX4_choiceOf 5 (some .int) rmX4_choiceOf [.ref (G.1 0 0), .int (nI p), .int (-1)] C M hl (qI C M hl 0) := by
  refine ct_of [some (.ref (G.1 0 0)), some (.int (nI p)), some (.int (-1)), none, none] (by decide +kernel) rfl rfl (Nat.le_of_ble_eq_true rfl) ?_
  intro κ X Z
  refine r_aload_n X dX4_choiceOf_0 rfl ?_
  refine r_iload_n X dX4_choiceOf_1 rfl ?_
  refine r_cv1_I X mdX4_isPort wml_X4_92 dX4_choiceOf_2 ⟨rfl, rfl, Nat.le_of_ble_eq_true rfl, Nat.le_of_ble_eq_true rfl⟩ (by decide) rfl rfl (Nat.le_of_ble_eq_true rfl) rfl (zroom Z) (c_isPort hR.1.1 hR.2.1) ?_
  show Rn G κ 5 _ _ _ _ _
  refine r_ifeq 26 X dX4_choiceOf_5 (by decide) (fun c5 => ?_) (fun c5 => absurd (by rw [isP_m1]; rfl) c5)
  show Rn G κ 26 _ _ _ _ _
  refine r_iconst (0) X dX4_choiceOf_26 (by decide) ?_
  refine r_iret X Z dX4_choiceOf_27 ?_
  exact ⟨rfl, rfl, rfl, rfl⟩
set_option maxRecDepth 100000 in
set_option maxHeartbeats 4000000 in
theorem c_choiceOf_some {G : bpG} {C : bpC} {M : bpM} {hl : Int64} {a : bpM} {p l : Nat} (hR : RB C a) (hp : p < np a) (hl2 : l < np a) : Ct G yX4_choiceOf cX4_choiceOf 5 (some .int) rmX4_choiceOf [.ref (G.1 0 0), .int (nI p), .int (nI l)] C M hl (qI C M hl (choL a p (some l))) := by
  refine ct_of [some (.ref (G.1 0 0)), some (.int (nI p)), some (.int (nI l)), none, none] (by decide +kernel) rfl rfl (Nat.le_of_ble_eq_true rfl) ?_
  intro κ X Z
  obtain ⟨hS, hB, hP⟩ := hR
  have hn := hB.2.1
  have hc : C 0 0 3 = nI (np a) := hS.1.trans hB.1
  have hp6 : p < 6 := by omega
  have hl6 : l < 6 := by omega
  have loop : alk a p l = true → ∀ n i : Nat, i + n = np a → Rn G κ 33 [some (.ref (G.1 0 0)), some (.int (nI p)), some (.int (nI l)), some (.int (nI (ctN (fun q => alk a q l && ahd a q p) i))), some (.int (nI i))] [] C M hl := by
    intro hal n
    induction n with
    | zero =>
      intro i hi
      have hi : i = np a := by omega
      subst hi
      refine r_iload X dX4_choiceOf_33 rfl ?_
      refine r_aload_n X dX4_choiceOf_35 rfl ?_
      refine r_gi0 3 X wfl_X4_28 dX4_choiceOf_36 (by decide) rfl ?_
      refine r_icmpge 80 X dX4_choiceOf_39 (by decide) (fun c39 => ?_) (fun c39 => absurd (by rw [hc]; exact Int32.le_refl _) c39)
      show Rn G κ 80 _ _ _ _ _
      refine r_iload_n X dX4_choiceOf_80 rfl ?_
      refine r_aload_n X dX4_choiceOf_81 rfl ?_
      refine r_gi0 4 X wfl_X4_32 dX4_choiceOf_82 (by decide) rfl ?_
      show Rn G κ 85 _ _ _ _ _
      refine r_icmpge 92 X dX4_choiceOf_85 (by decide) (fun c85 => ?_) (fun c85 => ?_)
      · show Rn G κ 92 _ _ _ _ _
        refine r_iconst (1) X dX4_choiceOf_92 (by decide) ?_
        refine r_iret X Z dX4_choiceOf_93 ?_
        refine ⟨rfl, rfl, rfl, ret_i ?_⟩
        rw [hS.2.1] at c85
        simp only [choL, hal, if_pos]
        first | (rw [if_neg]; simp only [i_lt, i_le] at c85 ⊢; omega) | (rw [if_pos]; simp only [i_lt, i_le] at c85 ⊢; omega)
      · show Rn G κ 88 _ _ _ _ _
        refine r_iconst (2) X dX4_choiceOf_88 (by decide) ?_
        refine r_goto 93 X dX4_choiceOf_89 (by decide) ?_
        refine r_iret X Z dX4_choiceOf_93 ?_
        refine ⟨rfl, rfl, rfl, ret_i ?_⟩
        rw [hS.2.1] at c85
        simp only [choL, hal, if_pos]
        first | (rw [if_neg]; simp only [i_lt, i_le] at c85 ⊢; omega) | (rw [if_pos]; simp only [i_lt, i_le] at c85 ⊢; omega)
    | succ n ih =>
      intro i hi
      have hin : i < np a := by omega
      have h6 : i < 6 := by omega
      refine r_iload X dX4_choiceOf_33 rfl ?_
      refine r_aload_n X dX4_choiceOf_35 rfl ?_
      refine r_gi0 3 X wfl_X4_28 dX4_choiceOf_36 (by decide) rfl ?_
      refine r_icmpge 80 X dX4_choiceOf_39 (by decide) (fun c39 => absurd c39 (by rw [hc]; simp only [i_lt, i_le, i_eq, i_m1, i_0, i_1, i_2, i_3, i_4, i_5, i_6, i_7, i_8, i_9, i_10, i_11, i_12, i_17, i_20, i_24, i_32, i_44, i_48, i_50, i_51, i_52, i_57, i_58, i_100, i_126, i_n (show np a < 2 ^ 31 by omega), i_n (show i < 2 ^ 31 by omega)]; omega)) (fun c39 => ?_)
      show Rn G κ 42 _ _ _ _ _
      refine r_aload_n X dX4_choiceOf_42 rfl ?_
      refine r_gr0_1 X wfl_X4_18 dX4_choiceOf_43 ?_
      refine r_iload X dX4_choiceOf_46 rfl ?_
      show Rn G κ 48 _ _ _ _ _
      refine r_aaP _ X rfl (by assumption) dX4_choiceOf_48 ?_
      refine r_aload_n X dX4_choiceOf_49 rfl ?_
      refine r_gr0_1 X wfl_X4_18 dX4_choiceOf_50 ?_
      refine r_iload_n X dX4_choiceOf_53 rfl ?_
      refine r_aaP _ X rfl (by assumption) dX4_choiceOf_54 ?_
      refine r_cv1_I X mdX2_isAlike wml_X4_263 dX4_choiceOf_55 ⟨rfl, rfl, Nat.le_of_ble_eq_true rfl, Nat.le_of_ble_eq_true rfl⟩ (by assumption) rfl rfl (Nat.le_of_ble_eq_true rfl) rfl (zroom Z) (c_isAlikeR h6 hl6 (hP i hin) (hP l hl2)) ?_
      show Rn G κ 58 _ _ _ _ _
      refine r_ifeq 74 X dX4_choiceOf_58 (by decide) (fun c58 => ?_) (fun c58 => ?_)
      · show Rn G κ 74 _ _ _ _ _
        refine r_iinc_4 (nI (i + 1)) X dX4_choiceOf_74 (nI_1 i) rfl ?_
        refine r_goto 33 X dX4_choiceOf_77 (by decide) ?_
        have := ih (i + 1) (by omega)
        rw [ctN_f (by simp [bI_0 c58])] at this
        exact this
      · show Rn G κ 61 _ _ _ _ _
        refine r_aload_n X dX4_choiceOf_61 rfl ?_
        refine r_iload X dX4_choiceOf_62 rfl ?_
        refine r_iload_n X dX4_choiceOf_64 rfl ?_
        refine r_cv2_I X mdX4_isAhead wml_X4_266 dX4_choiceOf_65 ⟨rfl, rfl, Nat.le_of_ble_eq_true rfl, Nat.le_of_ble_eq_true rfl⟩ (by decide) rfl rfl (Nat.le_of_ble_eq_true rfl) rfl (zroom Z) (c_isAhead h6 hp6 (hP i hin) (hP p hp)) ?_
        show Rn G κ 68 _ _ _ _ _
        refine r_ifeq 74 X dX4_choiceOf_68 (by decide) (fun c68 => ?_) (fun c68 => ?_)
        · show Rn G κ 74 _ _ _ _ _
          refine r_iinc_4 (nI (i + 1)) X dX4_choiceOf_74 (nI_1 i) rfl ?_
          refine r_goto 33 X dX4_choiceOf_77 (by decide) ?_
          have := ih (i + 1) (by omega)
          rw [ctN_f (by simp [bI_1 c58, bI_0 c68])] at this
          exact this
        · show Rn G κ 71 _ _ _ _ _
          refine r_iinc_3 (nI (ctN (fun q => alk a q l && ahd a q p) i + 1)) X dX4_choiceOf_71 (nI_1 _) rfl ?_
          refine r_iinc_4 (nI (i + 1)) X dX4_choiceOf_74 (nI_1 i) rfl ?_
          refine r_goto 33 X dX4_choiceOf_77 (by decide) ?_
          have := ih (i + 1) (by omega)
          rw [ctN_t (by simp [bI_1 c58, bI_1 c68])] at this
          exact this
  refine r_aload_n X dX4_choiceOf_0 rfl ?_
  refine r_iload_n X dX4_choiceOf_1 rfl ?_
  refine r_cv1_I X mdX4_isPort wml_X4_92 dX4_choiceOf_2 ⟨rfl, rfl, Nat.le_of_ble_eq_true rfl, Nat.le_of_ble_eq_true rfl⟩ (by decide) rfl rfl (Nat.le_of_ble_eq_true rfl) rfl (zroom Z) (c_isPort hS.1 hB) ?_
  show Rn G κ 5 _ _ _ _ _
  refine r_ifeq 26 X dX4_choiceOf_5 (by decide) (fun c5 => absurd c5 (by rw [isP_n hB hl2]; decide)) (fun c5 => ?_)
  show Rn G κ 8 _ _ _ _ _
  refine r_aload_n X dX4_choiceOf_8 rfl ?_
  refine r_gr0_1 X wfl_X4_18 dX4_choiceOf_9 ?_
  refine r_iload_n X dX4_choiceOf_12 rfl ?_
  show Rn G κ 13 _ _ _ _ _
  refine r_aaP _ X rfl (by assumption) dX4_choiceOf_13 ?_
  refine r_aload_n X dX4_choiceOf_14 rfl ?_
  refine r_gr0_1 X wfl_X4_18 dX4_choiceOf_15 ?_
  refine r_iload_n X dX4_choiceOf_18 rfl ?_
  refine r_aaP _ X rfl (by assumption) dX4_choiceOf_19 ?_
  refine r_cv1_I X mdX2_isAlike wml_X4_263 dX4_choiceOf_20 ⟨rfl, rfl, Nat.le_of_ble_eq_true rfl, Nat.le_of_ble_eq_true rfl⟩ (by assumption) rfl rfl (Nat.le_of_ble_eq_true rfl) rfl (zroom Z) (c_isAlikeR hp6 hl6 (hP p hp) (hP l hl2)) ?_
  show Rn G κ 23 _ _ _ _ _
  refine r_ifne 28 X dX4_choiceOf_23 (by decide) (fun c23 => ?_) (fun c23 => ?_)
  · show Rn G κ 28 _ _ _ _ _
    refine r_iconst (0) X dX4_choiceOf_28 (by decide) ?_
    refine r_istore_3 X dX4_choiceOf_29 rfl ?_
    refine r_iconst (0) X dX4_choiceOf_30 (by decide) ?_
    refine r_istore_4 X dX4_choiceOf_31 rfl ?_
    exact loop (bI_1 c23) (np a) 0 (by omega)
  · show Rn G κ 26 _ _ _ _ _
    refine r_iconst (0) X dX4_choiceOf_26 (by decide) ?_
    refine r_iret X Z dX4_choiceOf_27 ?_
    refine ⟨rfl, rfl, rfl, ret_i ?_⟩
    simp only [choL, bI_0 c23]
    rfl
theorem c_choiceOf {G : bpG} {C : bpC} {M : bpM} {hl : Int64} {a : bpM} {p : Nat} {l : Option Nat} (hR : RB C a) (hp : p < np a) (hl2 : ∀ b, l = some b → b < np a) : Ct G yX4_choiceOf cX4_choiceOf 5 (some .int) rmX4_choiceOf [.ref (G.1 0 0), .int (nI p), .int (oI l)] C M hl (qI C M hl (choL a p l)) := by
  cases l with
  | none => exact c_choiceOf_none hR hp
  | some b => exact c_choiceOf_some hR hp (hl2 b rfl)
set_option maxRecDepth 100000 in
set_option maxHeartbeats 4000000 in
theorem c_howItIs {G : bpG} {C : bpC} {M : bpM} {hl : Int64} {a : bpM} {p : Nat} (hS : RSc C a) (hp : p < 6) (rp : RPt C a p) (rc : RCh C a p) : Ct G yX4_howItIs cX4_howItIs 2 (some .int) rmX4_howItIs [.ref (G.1 0 0), .ref (G.1 5 p)] C M hl (qI C M hl (stat a p)) := by
  refine ct_of [some (.ref (G.1 0 0)), some (.ref (G.1 5 p))] (by decide +kernel) rfl rfl (Nat.le_of_ble_eq_true rfl) ?_
  intro κ X Z
  refine r_aload_n X dX4_howItIs_0 rfl ?_
  refine r_gi5 9 X (by assumption) wfl_X4_260 dX4_howItIs_1 (by decide) rfl ?_
  refine r_iconst (2) X dX4_howItIs_4 (by decide) ?_
  refine r_icmpne 19 X dX4_howItIs_5 (by decide) (fun c5 => ?_) (fun c5 => ?_)
  · show Rn G κ 19 _ _ _ _ _
    refine r_aload_n X dX4_howItIs_19 rfl ?_
    refine r_gi5 9 X (by assumption) wfl_X4_260 dX4_howItIs_20 (by decide) rfl ?_
    refine r_iret X Z dX4_howItIs_23 ?_
    refine ⟨rfl, rfl, rfl, ret_i ?_⟩
    unfold RCh at rc
    try rw [rc] at c5
    try rw [rp.2.2.2.2.1, hS.2.2.1] at c16
    try rw [rc]
    unfold stat
    first
    | (rw [if_neg c5]; done)
    | (rw [if_pos c5, if_pos (by simp only [i_lt, i_le] at c16 ⊢; omega)]; exact c5)
    | (rw [(rp.2.2.2.2.2 (choi_heard c5)).2.2.1] at c28
       rw [if_pos c5, if_neg (by simp only [i_lt, i_le] at c16 ⊢; omega)]
       first | (rw [if_pos c28]; done) | (rw [if_neg c28]; done))
  · show Rn G κ 8 _ _ _ _ _
    refine r_aload_n X dX4_howItIs_8 rfl ?_
    refine r_gi5 10 X (by assumption) wfl_X4_150 dX4_howItIs_9 (by decide) rfl ?_
    refine r_aload_n X dX4_howItIs_12 rfl ?_
    refine r_gi0 5 X wfl_X4_35 dX4_howItIs_13 (by decide) rfl ?_
    refine r_icmpge 24 X dX4_howItIs_16 (by decide) (fun c16 => ?_) (fun c16 => ?_)
    · show Rn G κ 24 _ _ _ _ _
      refine r_aload_n X dX4_howItIs_24 rfl ?_
      refine r_gi5 7 X (by assumption) wfl_X4_140 dX4_howItIs_25 (by decide) rfl ?_
      refine r_ifeq 35 X dX4_howItIs_28 (by decide) (fun c28 => ?_) (fun c28 => ?_)
      · show Rn G κ 35 _ _ _ _ _
        refine r_iconst (3) X dX4_howItIs_35 (by decide) ?_
        refine r_iret X Z dX4_howItIs_36 ?_
        refine ⟨rfl, rfl, rfl, ret_i ?_⟩
        unfold RCh at rc
        try rw [rc] at c5
        try rw [rp.2.2.2.2.1, hS.2.2.1] at c16
        try rw [rc]
        unfold stat
        first
        | (rw [if_neg c5]; done)
        | (rw [if_pos c5, if_pos (by simp only [i_lt, i_le] at c16 ⊢; omega)]; exact c5)
        | (rw [(rp.2.2.2.2.2 (choi_heard c5)).2.2.1] at c28
           rw [if_pos c5, if_neg (by simp only [i_lt, i_le] at c16 ⊢; omega)]
           first | (rw [if_pos c28]; done) | (rw [if_neg c28]; done))
      · show Rn G κ 31 _ _ _ _ _
        refine r_iconst (4) X dX4_howItIs_31 (by decide) ?_
        refine r_goto 36 X dX4_howItIs_32 (by decide) ?_
        refine r_iret X Z dX4_howItIs_36 ?_
        refine ⟨rfl, rfl, rfl, ret_i ?_⟩
        unfold RCh at rc
        try rw [rc] at c5
        try rw [rp.2.2.2.2.1, hS.2.2.1] at c16
        try rw [rc]
        unfold stat
        first
        | (rw [if_neg c5]; done)
        | (rw [if_pos c5, if_pos (by simp only [i_lt, i_le] at c16 ⊢; omega)]; exact c5)
        | (rw [(rp.2.2.2.2.2 (choi_heard c5)).2.2.1] at c28
           rw [if_pos c5, if_neg (by simp only [i_lt, i_le] at c16 ⊢; omega)]
           first | (rw [if_pos c28]; done) | (rw [if_neg c28]; done))
    · show Rn G κ 19 _ _ _ _ _
      refine r_aload_n X dX4_howItIs_19 rfl ?_
      refine r_gi5 9 X (by assumption) wfl_X4_260 dX4_howItIs_20 (by decide) rfl ?_
      refine r_iret X Z dX4_howItIs_23 ?_
      refine ⟨rfl, rfl, rfl, ret_i ?_⟩
      unfold RCh at rc
      try rw [rc] at c5
      try rw [rp.2.2.2.2.1, hS.2.2.1] at c16
      try rw [rc]
      unfold stat
      first
      | (rw [if_neg c5]; done)
      | (rw [if_pos c5, if_pos (by simp only [i_lt, i_le] at c16 ⊢; omega)]; exact c5)
      | (rw [(rp.2.2.2.2.2 (choi_heard c5)).2.2.1] at c28
         rw [if_pos c5, if_neg (by simp only [i_lt, i_le] at c16 ⊢; omega)]
         first | (rw [if_pos c28]; done) | (rw [if_neg c28]; done))
set_option maxRecDepth 100000 in
set_option maxHeartbeats 4000000 in
theorem c_carries {G : bpG} {C : bpC} {M : bpM} {hl : Int64} {a : bpM} {p : Nat} (hS : RSc C a) (hp : p < 6) (rp : RPt C a p) (rc : RCh C a p) : Ct G yX4_carries cX4_carries 2 (some .boolean) rmX4_carries [.ref (G.1 0 0), .ref (G.1 5 p)] C M hl (qI C M hl (bI (decide (stat a p = 4)))) := by
  refine ct_of [some (.ref (G.1 0 0)), some (.ref (G.1 5 p))] (by decide +kernel) rfl rfl (Nat.le_of_ble_eq_true rfl) ?_
  intro κ X Z
  refine r_aload_n X dX4_carries_0 rfl ?_
  refine r_aload_n X dX4_carries_1 rfl ?_
  refine r_cv1_I X mdX4_howItIs wml_X4_146 dX4_carries_2 ⟨rfl, rfl, Nat.le_of_ble_eq_true rfl, Nat.le_of_ble_eq_true rfl⟩ (by decide) rfl rfl (Nat.le_of_ble_eq_true rfl) rfl (zroom Z) (c_howItIs hS hp rp rc) ?_
  show Rn G κ 5 _ _ _ _ _
  refine r_iconst (4) X dX4_carries_5 (by decide) ?_
  refine r_icmpne 13 X dX4_carries_6 (by decide) (fun c6 => ?_) (fun c6 => ?_)
  · show Rn G κ 13 _ _ _ _ _
    refine r_iconst (0) X dX4_carries_13 (by decide) ?_
    refine r_zret X Z dX4_carries_14 (by decide) ?_
    refine ⟨rfl, rfl, rfl, ret_i ?_⟩
    simp [bI, c6]
  · show Rn G κ 9 _ _ _ _ _
    refine r_iconst (1) X dX4_carries_9 (by decide) ?_
    refine r_goto 14 X dX4_carries_10 (by decide) ?_
    refine r_zret X Z dX4_carries_14 (by decide) ?_
    refine ⟨rfl, rfl, rfl, ret_i ?_⟩
    simp [bI, c6]
set_option maxRecDepth 100000 in
set_option maxHeartbeats 4000000 in
theorem c_bitsOf {G : bpG} {C : bpC} {M : bpM} {hl : Int64} {a : bpM} {key lo hi : Int32} (hR : RB C a) (hC : ∀ p, p < np a → RCh C a p) : Ct G yX4_bitsOf cX4_bitsOf 7 (some .int) rmX4_bitsOf [.ref (G.1 0 0), .int key, .int lo, .int hi] C M hl (qI C M hl (nI (bits a key lo hi))) := by
  refine ct_of [some (.ref (G.1 0 0)), some (.int key), some (.int lo), some (.int hi), none, none, none] (by decide +kernel) rfl rfl (Nat.le_of_ble_eq_true rfl) ?_
  intro κ X Z
  obtain ⟨hS, hB, hP⟩ := hR
  have hn := hB.2.1
  have hc : C 0 0 3 = nI (np a) := hS.1.trans hB.1
  have loop : ∀ (n i : Nat) (z : Option Value), i + n = np a → Rn G κ 6 [some (.ref (G.1 0 0)), some (.int key), some (.int lo), some (.int hi), some (.int (nI (bitN a key lo hi i))), some (.int (nI i)), z] [] C M hl := by
    intro n
    induction n with
    | zero =>
      intro i z hi2
      have hi2 : i = np a := by omega
      subst hi2
      refine r_iload X dX4_bitsOf_6 rfl ?_
      refine r_aload_n X dX4_bitsOf_8 rfl ?_
      refine r_gi0 3 X wfl_X4_28 dX4_bitsOf_9 (by decide) rfl ?_
      refine r_icmpge 69 X dX4_bitsOf_12 (by decide) (fun c12 => ?_) (fun c12 => absurd (by rw [hc]; exact Int32.le_refl _) c12)
      show Rn G κ 69 _ _ _ _ _
      refine r_iload X dX4_bitsOf_69 rfl ?_
      refine r_iret X Z dX4_bitsOf_71 ?_
      exact ⟨rfl, rfl, rfl, rfl⟩
    | succ n ih =>
      intro i z hi2
      have hin : i < np a := by omega
      have h6 : i < 6 := by omega
      obtain ⟨k1, k2, k3, k4, k5, k6⟩ := hP i hin
      refine r_iload X dX4_bitsOf_6 rfl ?_
      refine r_aload_n X dX4_bitsOf_8 rfl ?_
      refine r_gi0 3 X wfl_X4_28 dX4_bitsOf_9 (by decide) rfl ?_
      refine r_icmpge 69 X dX4_bitsOf_12 (by decide) (fun c12 => absurd c12 (by rw [hc]; simp only [i_lt, i_le, i_eq, i_m1, i_0, i_1, i_2, i_3, i_4, i_5, i_6, i_7, i_8, i_9, i_10, i_11, i_12, i_17, i_20, i_24, i_32, i_44, i_48, i_50, i_51, i_52, i_57, i_58, i_100, i_126, i_n (show np a < 2 ^ 31 by omega), i_n (show i < 2 ^ 31 by omega)]; omega)) (fun c12 => ?_)
      show Rn G κ 15 _ _ _ _ _
      refine r_aload_n X dX4_bitsOf_15 rfl ?_
      refine r_aload_n X dX4_bitsOf_16 rfl ?_
      refine r_gr0_1 X wfl_X4_18 dX4_bitsOf_17 ?_
      show Rn G κ 20 _ _ _ _ _
      refine r_iload X dX4_bitsOf_20 rfl ?_
      refine r_aaP _ X rfl (by assumption) dX4_bitsOf_22 ?_
      refine r_cv1_I X mdX4_howItIs wml_X4_146 dX4_bitsOf_23 ⟨rfl, rfl, Nat.le_of_ble_eq_true rfl, Nat.le_of_ble_eq_true rfl⟩ (by decide) rfl rfl (Nat.le_of_ble_eq_true rfl) rfl (zroom Z) (c_howItIs hS h6 (hP i hin) (hC i hin)) ?_
      show Rn G κ 26 _ _ _ _ _
      refine r_istore_6 X dX4_bitsOf_26 rfl ?_
      refine r_aload_n X dX4_bitsOf_28 rfl ?_
      refine r_gr0_1 X wfl_X4_18 dX4_bitsOf_29 ?_
      refine r_iload X dX4_bitsOf_32 rfl ?_
      refine r_aaP _ X rfl (by assumption) dX4_bitsOf_34 ?_
      show Rn G κ 35 _ _ _ _ _
      refine r_gi5 1 X (by assumption) wfl_X4_131 dX4_bitsOf_35 (by decide) rfl ?_
      refine r_iload_n X dX4_bitsOf_38 rfl ?_
      refine r_icmpne 63 X dX4_bitsOf_39 (by decide) (fun c39 => ?_) (fun c39 => ?_)
      · show Rn G κ 63 _ _ _ _ _
        refine r_iinc_5 (nI (i + 1)) X dX4_bitsOf_63 (nI_1 i) rfl ?_
        refine r_goto 6 X dX4_bitsOf_66 (by decide) ?_
        have := ih (i + 1) (some (.int (stat a i))) (by omega)
        rw [bitN_f (fun q => c39 (k1.trans q.1))] at this
        exact this
      · show Rn G κ 42 _ _ _ _ _
        refine r_iload X dX4_bitsOf_42 rfl ?_
        refine r_iload_n X dX4_bitsOf_44 rfl ?_
        refine r_icmplt 63 X dX4_bitsOf_45 (by decide) (fun c45 => ?_) (fun c45 => ?_)
        · show Rn G κ 63 _ _ _ _ _
          refine r_iinc_5 (nI (i + 1)) X dX4_bitsOf_63 (nI_1 i) rfl ?_
          refine r_goto 6 X dX4_bitsOf_66 (by decide) ?_
          have := ih (i + 1) (some (.int (stat a i))) (by omega)
          rw [bitN_f (fun q => by have := q.2.1; simp only [i_lt, i_le] at c45 this; omega)] at this
          exact this
        · show Rn G κ 48 _ _ _ _ _
          refine r_iload X dX4_bitsOf_48 rfl ?_
          refine r_iload_n X dX4_bitsOf_50 rfl ?_
          refine r_icmpgt 63 X dX4_bitsOf_51 (by decide) (fun c51 => ?_) (fun c51 => ?_)
          · show Rn G κ 63 _ _ _ _ _
            refine r_iinc_5 (nI (i + 1)) X dX4_bitsOf_63 (nI_1 i) rfl ?_
            refine r_goto 6 X dX4_bitsOf_66 (by decide) ?_
            have := ih (i + 1) (some (.int (stat a i))) (by omega)
            rw [bitN_f (fun q => by have := q.2.2; simp only [i_lt, i_le] at c51 this; omega)] at this
            exact this
          · show Rn G κ 54 _ _ _ _ _
            refine r_iload X dX4_bitsOf_54 rfl ?_
            refine r_iconst (1) X dX4_bitsOf_56 (by decide) ?_
            refine r_iload X dX4_bitsOf_57 rfl ?_
            refine r_ishl X dX4_bitsOf_59 ?_
            refine r_ior X dX4_bitsOf_60 ?_
            have hb5 := bitN_lt a key lo hi i
            have hb6 : 2 ^ i ≤ 2 ^ 5 := Nat.pow_le_pow_right (by decide) (by omega)
            refine r_top (or_bit i h6 _ (by omega) hb5) ?_
            refine r_istore_4 X dX4_bitsOf_61 rfl ?_
            refine r_iinc_5 (nI (i + 1)) X dX4_bitsOf_63 (nI_1 i) rfl ?_
            show Rn G κ 66 _ _ _ _ _
            refine r_goto 6 X dX4_bitsOf_66 (by decide) ?_
            have := ih (i + 1) (some (.int (stat a i))) (by omega)
            rw [bitN_t ⟨k1 ▸ c39, by simp only [i_lt, i_le] at c45 ⊢; omega, by simp only [i_lt, i_le] at c51 ⊢; omega⟩] at this
            exact this
  refine r_iconst (0) X dX4_bitsOf_0 (by decide) ?_
  refine r_istore_4 X dX4_bitsOf_1 rfl ?_
  refine r_iconst (0) X dX4_bitsOf_3 (by decide) ?_
  refine r_istore_5 X dX4_bitsOf_4 rfl ?_
  exact loop (np a) 0 _ (by omega)
set_option maxRecDepth 100000 in
set_option maxHeartbeats 4000000 in
theorem c_bitCount {G : bpG} {C : bpC} {M : bpM} {hl : Int64} {b : Nat} (hb : b < 64) : Ct G yJ6_bitCount_0f7a4 cJ6_bitCount_0f7a4 1 (some .int) rmJ6_bitCount_0f7a4 [.int (nI b)] C M hl (qI C M hl (nI (pop6 b))) := by
  refine ct_of [some (.int (nI b))] (by decide +kernel) rfl rfl (Nat.le_of_ble_eq_true rfl) ?_
  intro κ X Z
  refine r_iload_n X dJ6_bitCount_0f7a4_0 rfl ?_
  refine r_iload_n X dJ6_bitCount_0f7a4_1 rfl ?_
  refine r_iconst (1) X dJ6_bitCount_0f7a4_2 (by decide) ?_
  refine r_iushr X dJ6_bitCount_0f7a4_3 rfl ?_
  refine r_ldcw wco_265 X dJ6_bitCount_0f7a4_4 ?_
  refine r_iand X dJ6_bitCount_0f7a4_7 ?_
  refine r_isub X dJ6_bitCount_0f7a4_8 ?_
  show Rn G κ 9 _ _ _ _ _
  refine r_istore_0 X dJ6_bitCount_0f7a4_9 ?_
  refine r_iload_n X dJ6_bitCount_0f7a4_10 rfl ?_
  refine r_ldcw wco_266 X dJ6_bitCount_0f7a4_11 ?_
  refine r_iand X dJ6_bitCount_0f7a4_14 ?_
  refine r_iload_n X dJ6_bitCount_0f7a4_15 rfl ?_
  refine r_iconst (2) X dJ6_bitCount_0f7a4_16 (by decide) ?_
  refine r_iushr X dJ6_bitCount_0f7a4_17 rfl ?_
  refine r_ldcw wco_266 X dJ6_bitCount_0f7a4_18 ?_
  show Rn G κ 21 _ _ _ _ _
  refine r_iand X dJ6_bitCount_0f7a4_21 ?_
  refine r_iadd X dJ6_bitCount_0f7a4_22 ?_
  refine r_istore_0 X dJ6_bitCount_0f7a4_23 ?_
  refine r_iload_n X dJ6_bitCount_0f7a4_24 rfl ?_
  refine r_iload_n X dJ6_bitCount_0f7a4_25 rfl ?_
  refine r_iconst (4) X dJ6_bitCount_0f7a4_26 (by decide) ?_
  refine r_iushr X dJ6_bitCount_0f7a4_27 rfl ?_
  refine r_iadd X dJ6_bitCount_0f7a4_28 ?_
  show Rn G κ 29 _ _ _ _ _
  refine r_ldcw wco_267 X dJ6_bitCount_0f7a4_29 ?_
  refine r_iand X dJ6_bitCount_0f7a4_32 ?_
  refine r_istore_0 X dJ6_bitCount_0f7a4_33 ?_
  refine r_iload_n X dJ6_bitCount_0f7a4_34 rfl ?_
  refine r_iload_n X dJ6_bitCount_0f7a4_35 rfl ?_
  refine r_bipush (8) X dJ6_bitCount_0f7a4_36 (by decide) ?_
  refine r_iushr X dJ6_bitCount_0f7a4_38 rfl ?_
  refine r_iadd X dJ6_bitCount_0f7a4_39 ?_
  show Rn G κ 40 _ _ _ _ _
  refine r_istore_0 X dJ6_bitCount_0f7a4_40 ?_
  refine r_iload_n X dJ6_bitCount_0f7a4_41 rfl ?_
  refine r_iload_n X dJ6_bitCount_0f7a4_42 rfl ?_
  refine r_bipush (16) X dJ6_bitCount_0f7a4_43 (by decide) ?_
  refine r_iushr X dJ6_bitCount_0f7a4_45 rfl ?_
  refine r_iadd X dJ6_bitCount_0f7a4_46 ?_
  refine r_istore_0 X dJ6_bitCount_0f7a4_47 ?_
  refine r_iload_n X dJ6_bitCount_0f7a4_48 rfl ?_
  show Rn G κ 49 _ _ _ _ _
  refine r_bipush (63) X dJ6_bitCount_0f7a4_49 (by decide) ?_
  refine r_iand X dJ6_bitCount_0f7a4_51 ?_
  refine r_iret X Z dJ6_bitCount_0f7a4_52 ?_
  refine ⟨rfl, rfl, rfl, ret_i ?_⟩
  clear X Z
  revert b
  decide +kernel
set_option maxRecDepth 100000 in
set_option maxHeartbeats 4000000 in
theorem c_wayOf {G : bpG} {C : bpC} {M : bpM} {hl : Int64} {a : bpM} {f : Nat} (hR : RB C a) (hC : ∀ p, p < np a → RCh C a p) (hf : f < 12) : Ct G yX4_wayOf cX4_wayOf 6 (some .int) rmX4_wayOf [.ref (G.1 0 0), .int (nI f)] C M hl (qI C M hl (oI (way a f))) := by
  refine ct_of [some (.ref (G.1 0 0)), some (.int (nI f)), none, none, none, none] (by decide +kernel) rfl rfl (Nat.le_of_ble_eq_true rfl) ?_
  intro κ X Z
  have hR0 := hR
  obtain ⟨hS, hB, hP⟩ := hR
  have hn := hB.2.1
  have hc : C 0 0 3 = nI (np a) := hS.1.trans hB.1
  have hsh := hB.2.2.2
  have hbits : bits a (nI (f % 4)) 4 4 = bitP (car a (nI (f % 4))) (np a) := bitN_P a _ (np a)
  have hb6 := bitP_lt (car a (nI (f % 4))) (np a)
  have hb7 : 2 ^ (np a) ≤ 2 ^ 6 := Nat.pow_le_pow_right (by decide) hn
  have hct := ctN_le (car a (nI (f % 4))) (np a)
  have loop : ∀ (t n i : Nat), t < 6 → i + n = np a → kth (car a (nI (f % 4))) t i = none → ctN (car a (nI (f % 4))) i ≤ t → oI (way a f) = oI (kth (car a (nI (f % 4))) t (np a)) → Rn G κ 36 [some (.ref (G.1 0 0)), some (.int (nI f)), some (.int (nI (bitP (car a (nI (f % 4))) (np a)))), some (.int (nI (ctN (car a (nI (f % 4))) (np a)))), some (.int (nI (t - ctN (car a (nI (f % 4))) i))), some (.int (nI i))] [] C M hl := by
    intro t n
    induction n with
    | zero =>
      intro i ht hi hk hle hw
      have hi : i = np a := by omega
      subst hi
      refine r_iload X dX4_wayOf_36 rfl ?_
      refine r_aload_n X dX4_wayOf_38 rfl ?_
      refine r_gi0 3 X wfl_X4_28 dX4_wayOf_39 (by decide) rfl ?_
      refine r_icmpge 71 X dX4_wayOf_42 (by decide) (fun c42 => ?_) (fun c42 => absurd (by rw [hc]; exact Int32.le_refl _) c42)
      show Rn G κ 71 _ _ _ _ _
      refine r_iconst (-1) X dX4_wayOf_71 (by decide) ?_
      refine r_iret X Z dX4_wayOf_72 ?_
      refine ⟨rfl, rfl, rfl, ret_i ?_⟩
      rw [hw, hk]
      rfl
    | succ n ih =>
      intro i ht hi hk hle hw
      have hin : i < np a := by omega
      have h6 : i < 6 := by omega
      have hbit : (bitP (car a (nI (f % 4))) (np a)).testBit i = (car a (nI (f % 4))) i := by rw [bitP_test]; simp [hin]
      refine r_iload X dX4_wayOf_36 rfl ?_
      refine r_aload_n X dX4_wayOf_38 rfl ?_
      refine r_gi0 3 X wfl_X4_28 dX4_wayOf_39 (by decide) rfl ?_
      refine r_icmpge 71 X dX4_wayOf_42 (by decide) (fun c42 => absurd c42 (by rw [hc]; simp only [i_lt, i_le, i_eq, i_m1, i_0, i_1, i_2, i_3, i_4, i_5, i_6, i_7, i_8, i_9, i_10, i_11, i_12, i_17, i_20, i_24, i_32, i_44, i_48, i_50, i_51, i_52, i_57, i_58, i_100, i_126, i_n (show np a < 2 ^ 31 by omega), i_n (show i < 2 ^ 31 by omega)]; omega)) (fun c42 => ?_)
      show Rn G κ 45 _ _ _ _ _
      refine r_iload_n X dX4_wayOf_45 rfl ?_
      refine r_iconst (1) X dX4_wayOf_46 (by decide) ?_
      refine r_iload X dX4_wayOf_47 rfl ?_
      show Rn G κ 49 _ _ _ _ _
      refine r_ishl X dX4_wayOf_49 ?_
      refine r_iand X dX4_wayOf_50 ?_
      refine r_ifeq 65 X dX4_wayOf_51 (by decide) (fun c51 => ?_) (fun c51 => ?_)
      · show Rn G κ 65 _ _ _ _ _
        refine r_iinc_5 (nI (i + 1)) X dX4_wayOf_65 (nI_1 i) rfl ?_
        refine r_goto 36 X dX4_wayOf_68 (by decide) ?_
        have hf : (car a (nI (f % 4))) i = false := by rw [← hbit]; exact (and_bit i h6 _ (by omega)).mp c51
        have := ih (i + 1) ht (by omega) (by simp only [kth, hk]; rw [if_neg (by simp [hf])]) (by rw [ctN_f hf]; exact hle) hw
        rw [ctN_f hf] at this
        exact this
      · show Rn G κ 54 _ _ _ _ _
        refine r_iload X dX4_wayOf_54 rfl ?_
        refine r_ifne 62 X dX4_wayOf_56 (by decide) (fun c56 => ?_) (fun c56 => ?_)
        · show Rn G κ 62 _ _ _ _ _
          have hlt2 : ctN (car a (nI (f % 4))) i < t := by
            rcases Nat.lt_or_ge (ctN (car a (nI (f % 4))) i) t with q | q
            · exact q
            · exact absurd (by rw [show t - ctN (car a (nI (f % 4))) i = 0 by omega]; rfl) c56
          refine r_iinc_4 (nI (t - (ctN (car a (nI (f % 4))) i + 1))) X dX4_wayOf_62 (show nI (t - ctN (car a (nI (f % 4))) i) + Int32.ofInt (-1) = _ by rw [show t - ctN (car a (nI (f % 4))) i = (t - (ctN (car a (nI (f % 4))) i + 1)) + 1 by omega]; exact pk_m1 _) rfl ?_
          refine r_iinc_5 (nI (i + 1)) X dX4_wayOf_65 (nI_1 i) rfl ?_
          refine r_goto 36 X dX4_wayOf_68 (by decide) ?_
          have hf : (car a (nI (f % 4))) i = true := by
            rw [← hbit]
            cases hq : (bitP (car a (nI (f % 4))) (np a)).testBit i with
            | true => rfl
            | false => exact absurd ((and_bit i h6 _ (by omega)).mpr hq) c51
          have hlt : ctN (car a (nI (f % 4))) i < t := by
            rcases Nat.lt_or_ge (ctN (car a (nI (f % 4))) i) t with q | q
            · exact q
            · exact absurd (by rw [show t - ctN (car a (nI (f % 4))) i = 0 by omega]; rfl) c56
          have := ih (i + 1) ht (by omega) (by simp only [kth, hk]; rw [if_neg (by rintro ⟨-, q⟩; omega)]) (by rw [ctN_t hf]; omega) hw
          rw [ctN_t hf] at this
          exact this
        · show Rn G κ 59 _ _ _ _ _
          refine r_iload X dX4_wayOf_59 rfl ?_
          refine r_iret X Z dX4_wayOf_61 ?_
          refine ⟨rfl, rfl, rfl, ret_i ?_⟩
          have hf : (car a (nI (f % 4))) i = true := by
            rw [← hbit]
            cases hq : (bitP (car a (nI (f % 4))) (np a)).testBit i with
            | true => rfl
            | false => exact absurd ((and_bit i h6 _ (by omega)).mpr hq) c51
          have he : ctN (car a (nI (f % 4))) i = t := by
            have : t - ctN (car a (nI (f % 4))) i = 0 := nI_inj (by omega) (by omega) c56
            omega
          have hk2 : kth (car a (nI (f % 4))) t (i + 1) = some i := by simp only [kth, hk]; rw [if_pos ⟨hf, he⟩]
          have := kth_mono hk2 (np a - (i + 1))
          rw [show i + 1 + (np a - (i + 1)) = np a by omega] at this
          rw [hw, this]
          rfl
  refine r_aload_n X dX4_wayOf_0 rfl ?_
  refine r_iload_n X dX4_wayOf_1 rfl ?_
  refine r_iconst (4) X dX4_wayOf_2 (by decide) ?_
  refine r_irem X dX4_wayOf_3 (by decide) ?_
  refine r_top (rem_n 4 (show f < 2 ^ 31 by omega) (by decide) (by decide)) ?_
  refine r_iconst (4) X dX4_wayOf_4 (by decide) ?_
  refine r_iconst (4) X dX4_wayOf_5 (by decide) ?_
  refine r_cv3_I X mdX4_bitsOf wml_X4_171 dX4_wayOf_6 ⟨rfl, rfl, Nat.le_of_ble_eq_true rfl, Nat.le_of_ble_eq_true rfl⟩ (by decide) rfl rfl (Nat.le_of_ble_eq_true rfl) rfl (zroom Z) (c_bitsOf hR0 hC) ?_
  show Rn G κ 9 _ _ _ _ _
  rw [hbits]
  show Rn G κ 9 _ _ _ _ _
  refine r_istore_2 X dX4_wayOf_9 rfl ?_
  refine r_iload_n X dX4_wayOf_10 rfl ?_
  refine r_cs1_I X mdJ6_bitCount_0f7a4 wml_X4_270 dX4_wayOf_11 ⟨rfl, rfl, Nat.le_of_ble_eq_true rfl, Nat.le_of_ble_eq_true rfl⟩ (Nat.le_of_ble_eq_true rfl) rfl (zroom Z) (c_bitCount (b := bitP (car a (nI (f % 4))) (np a)) (by omega)) ?_
  show Rn G κ 14 _ _ _ _ _
  rw [pop6_bitP _ hn]
  refine r_istore_3 X dX4_wayOf_14 rfl ?_
  refine r_iload_n X dX4_wayOf_15 rfl ?_
  refine r_ifne 21 X dX4_wayOf_16 (by decide) (fun c16 => ?_) (fun c16 => ?_)
  · show Rn G κ 21 _ _ _ _ _
    refine r_iload_n X dX4_wayOf_21 rfl ?_
    refine r_iconst (4) X dX4_wayOf_22 (by decide) ?_
    refine r_idiv X dX4_wayOf_23 (by decide) ?_
    refine r_top (pk_div (a := f) (d := 4) (by omega) (by decide) (by decide)) ?_
    refine r_aload_n X dX4_wayOf_24 rfl ?_
    refine r_gi0 6 X wfl_X4_38 dX4_wayOf_25 (by decide) rfl ?_
    refine r_iadd X dX4_wayOf_28 ?_
    refine r_top (show nI (f / 4) + C 0 0 6 = nI (f / 4 + sh a) by rw [hS.2.2.2.1, hB.2.2.1, nI_add]) ?_
    refine r_iload_n X dX4_wayOf_29 rfl ?_
    show Rn G κ 30 _ _ _ _ _
    refine r_irem X dX4_wayOf_30 c16 ?_
    have hpos : 0 < ctN (car a (nI (f % 4))) (np a) := by
      rcases Nat.eq_zero_or_pos (ctN (car a (nI (f % 4))) (np a)) with q | q
      · rw [q] at c16; exact absurd rfl c16
      · exact q
    refine r_top (rem_n (ctN (car a (nI (f % 4))) (np a)) (show f / 4 + sh a < 2 ^ 31 by omega) hpos (by omega)) ?_
    refine r_istore_4 X dX4_wayOf_31 rfl ?_
    refine r_iconst (0) X dX4_wayOf_33 (by decide) ?_
    refine r_istore_5 X dX4_wayOf_34 rfl ?_
    have htl := Nat.mod_lt (f / 4 + sh a) hpos
    have h0 := loop ((f / 4 + sh a) % ctN (car a (nI (f % 4))) (np a)) (np a) 0 (by omega) (by omega) rfl (Nat.zero_le _) (by unfold way; rw [if_neg (by omega)]; rfl)
    exact h0
  · show Rn G κ 19 _ _ _ _ _
    refine r_iconst (-1) X dX4_wayOf_19 (by decide) ?_
    refine r_iret X Z dX4_wayOf_20 ?_
    refine ⟨rfl, rfl, rfl, ret_i ?_⟩
    have h0 : ctN (car a (nI (f % 4))) (np a) = 0 := nI_inj (by omega) (by decide) c16
    unfold way
    rw [if_pos h0]
    rfl
