set_option maxRecDepth 100000 in
set_option maxHeartbeats 4000000 in
theorem m_set {G : bpG} {C : bpC} {M : bpM} {hl : Int64} {k : Nat} {w v : Int32} (hI : Inv M k) : Ct G yX5_set cX5_set 4 (some .int) rmX5_set [.ref (G.1 11 0), .int w, .int v] C M hl (qMi C hl (fun M' r => M' = (setS M w v).1 ∧ r = (setS M w v).2)) := by
  have hB13 : 0 ≤ v → v ≤ 9 → Bas (upM M 13 0 v) := fun h1 h2 => by
    obtain ⟨w', hw', rfl⟩ := rng_of (n := 9) (by decide) h1 h2
    have e : sh (upM M 13 0 (nI w')) = w' := by
      show (upM M 13 0 (nI w') 13 0).toNatClampNeg = _
      rw [upM_at]; exact nIc (by omega)
    have hB := hI.2.2.1.1
    unfold Bas
    rw [e, np_up (by omega), upM_at, upM_ne _ _ _ _ (by omega)]
    exact ⟨hB.1, hB.2.1, rfl, hw'⟩
  refine ct_of [some (.ref (G.1 11 0)), some (.int w), some (.int v), none] (by decide +kernel) rfl rfl (Nat.le_of_ble_eq_true rfl) ?_
  intro κ X Z
  refine r_iload_n X dX5_set_0 rfl ?_
  refine r_iconst (0) X dX5_set_1 (by decide) ?_
  refine r_iconst (2) X dX5_set_2 (by decide) ?_
  refine r_cs3_I X mdX5_within wml_X5_84 dX5_set_3 ⟨rfl, rfl, Nat.le_of_ble_eq_true rfl, Nat.le_of_ble_eq_true rfl⟩ (Nat.le_of_ble_eq_true rfl) rfl (zroom Z) (m_within) ?_
  show Rn G κ 6 _ _ _ _ _
  refine r_ifeq 36 X dX5_set_6 (by decide) (fun c6 => ?_) (fun c6 => ?_)
  · show Rn G κ 36 _ _ _ _ _
    refine r_sipush (-1002) X dX5_set_36 (by decide) ?_
    refine r_iret X Z dX5_set_39 ?_
    have e : setS M w v = (M, -1002) := by
      have hw := bI_0 c6
      rw [Bool.and_eq_false_iff, decide_eq_false_iff_not, decide_eq_false_iff_not] at hw
      unfold setS
      rw [if_neg, if_neg, if_neg]
      · rintro rfl; rcases hw with h | h <;> exact h (by decide)
      · rintro rfl; rcases hw with h | h <;> exact h (by decide)
      · rintro rfl; rcases hw with h | h <;> exact h (by decide)
    rw [e]
    exact ⟨rfl, rfl, _, rfl, rfl, rfl⟩
  · show Rn G κ 9 _ _ _ _ _
    have hw := bI_1 c6
    rw [Bool.and_eq_true, decide_eq_true_eq, decide_eq_true_eq] at hw
    obtain ⟨w, hw2, rfl⟩ := rng_of (n := 2) (by decide) hw.1 hw.2
    rcases (show w = 0 ∨ w = 1 ∨ w = 2 by omega) with rfl | rfl | rfl
    · refine r_iload_n X dX5_set_9 rfl ?_
      refine r_iload_n X dX5_set_10 rfl ?_
      refine r_ifne 18 X dX5_set_11 (by decide) (fun c11 => absurd rfl c11) (fun c11 => ?_)
      show Rn G κ 14 _ _ _ _ _
      refine r_iconst (1) X dX5_set_14 (by decide) ?_
      refine r_goto 19 X dX5_set_15 (by decide) ?_
      refine r_iload_n X dX5_set_19 rfl ?_
      refine r_ifne 28 X dX5_set_20 (by decide) (fun c20 => absurd rfl c20) (fun c20 => ?_)
      show Rn G κ 23 _ _ _ _ _
      show Rn G κ 23 _ _ _ _ _
      refine r_bipush (6) X dX5_set_23 (by decide) ?_
      refine r_goto 30 X dX5_set_25 (by decide) ?_
      refine r_cs3_I X mdX5_within wml_X5_84 dX5_set_30 ⟨rfl, rfl, Nat.le_of_ble_eq_true rfl, Nat.le_of_ble_eq_true rfl⟩ (Nat.le_of_ble_eq_true rfl) rfl (zroom Z) (m_within) ?_
      show Rn G κ 33 _ _ _ _ _
      refine r_ifne 40 X dX5_set_33 (by decide) (fun c33 => ?_) (fun c33 => ?_)
      · have hv := bI_1 c33
        rw [Bool.and_eq_true, decide_eq_true_eq, decide_eq_true_eq] at hv
        show Rn G κ 40 _ _ _ _ _
        refine r_aload_n X dX5_set_40 rfl ?_
        refine r_iload_n X dX5_set_41 rfl ?_
        refine r_cv1_I X mdX5_toldNow wml_X5_135 dX5_set_42 ⟨rfl, rfl, Nat.le_of_ble_eq_true rfl, Nat.le_of_ble_eq_true rfl⟩ (by decide) rfl rfl (Nat.le_of_ble_eq_true rfl) rfl (zroom Z) (m_toldNow) ?_
        show Rn G κ 45 _ _ _ _ _
        refine r_istore_3 X dX5_set_45 rfl ?_
        refine r_aload_n X dX5_set_46 rfl ?_
        refine r_iload_n X dX5_set_47 rfl ?_
        refine r_ifne 55 X dX5_set_48 (by decide) (fun c48 => absurd rfl c48) (fun c48 => ?_)
        show Rn G κ 51 _ _ _ _ _
        show Rn G κ 51 _ _ _ _ _
        refine r_iload_n X dX5_set_51 rfl ?_
        refine r_goto 59 X dX5_set_52 (by decide) ?_
        refine r_pim 11 X wfl_X5_38 dX5_set_59 (by decide) rfl rfl (by decide +kernel) ?_
        refine r_aload_n X dX5_set_62 rfl ?_
        refine r_iload_n X dX5_set_63 rfl ?_
        refine r_iconst (1) X dX5_set_64 (by decide) ?_
        refine r_icmpne 72 X dX5_set_65 (by decide) (fun c65 => ?_) (fun c65 => absurd c65 (by decide))
        show Rn G κ 72 _ _ _ _ _
        refine r_aload_n X dX5_set_72 rfl ?_
        show Rn G κ 73 _ _ _ _ _
        refine r_gim 12 X wfl_X5_42 dX5_set_73 (by decide) rfl ?_
        refine r_pim 12 X wfl_X5_42 dX5_set_76 (by decide) rfl rfl (by decide +kernel) ?_
        rw [upM_id (k := 12) (j := 0) rfl]
        refine r_aload_n X dX5_set_79 rfl ?_
        refine r_iload_n X dX5_set_80 rfl ?_
        refine r_iconst (2) X dX5_set_81 (by decide) ?_
        refine r_icmpne 89 X dX5_set_82 (by decide) (fun c82 => ?_) (fun c82 => absurd c82 (by decide))
        show Rn G κ 89 _ _ _ _ _
        refine r_aload_n X dX5_set_89 rfl ?_
        refine r_gim 13 X wfl_X5_132 dX5_set_90 (by decide) rfl ?_
        show Rn G κ 93 _ _ _ _ _
        refine r_pim 13 X wfl_X5_132 dX5_set_93 (by decide) rfl rfl (by decide +kernel) ?_
        rw [upM_id (k := 13) (j := 0) rfl]
        refine r_aload_n X dX5_set_96 rfl ?_
        refine r_cv0_M X mdX5_settle wml_X5_138 dX5_set_97 ⟨rfl, rfl, Nat.le_of_ble_eq_true rfl, Nat.le_of_ble_eq_true rfl⟩ (by decide) rfl rfl (Nat.le_of_ble_eq_true rfl) rfl (zroom Z) (m_settle (Bas_M (by omega) hI.2.2.1.1)) (fun M2 e2 => ?_)
        subst e2
        show Rn G κ 100 _ _ _ _ _
        refine r_iload_n X dX5_set_100 rfl ?_
        refine r_iret X Z dX5_set_101 ?_
        have e : setS M (nI 0) v = (settle (upM M 11 0 v), M 11 0) := by unfold setS; rw [if_pos (show nI 0 = 0 from rfl), if_pos hv]
        rw [e]
        exact ⟨rfl, rfl, _, rfl, rfl, rfl⟩
      · show Rn G κ 36 _ _ _ _ _
        refine r_sipush (-1002) X dX5_set_36 (by decide) ?_
        refine r_iret X Z dX5_set_39 ?_
        have e : setS M (nI 0) v = (M, -1002) := by
          unfold setS
          rw [if_pos (show nI 0 = 0 from rfl), if_neg]
          rintro ⟨z1, z2⟩
          have := bI_0 c33
          rw [Bool.and_eq_false_iff, decide_eq_false_iff_not, decide_eq_false_iff_not] at this
          rcases this with h | h
          · exact h z1
          · exact h z2
        rw [e]
        exact ⟨rfl, rfl, _, rfl, rfl, rfl⟩
    · refine r_iload_n X dX5_set_9 rfl ?_
      refine r_iload_n X dX5_set_10 rfl ?_
      refine r_ifne 18 X dX5_set_11 (by decide) (fun c11 => ?_) (fun c11 => absurd c11 (by decide))
      show Rn G κ 18 _ _ _ _ _
      refine r_iconst (0) X dX5_set_18 (by decide) ?_
      refine r_iload_n X dX5_set_19 rfl ?_
      refine r_ifne 28 X dX5_set_20 (by decide) (fun c20 => ?_) (fun c20 => absurd c20 (by decide))
      show Rn G κ 28 _ _ _ _ _
      refine r_bipush (9) X dX5_set_28 (by decide) ?_
      show Rn G κ 30 _ _ _ _ _
      refine r_cs3_I X mdX5_within wml_X5_84 dX5_set_30 ⟨rfl, rfl, Nat.le_of_ble_eq_true rfl, Nat.le_of_ble_eq_true rfl⟩ (Nat.le_of_ble_eq_true rfl) rfl (zroom Z) (m_within) ?_
      show Rn G κ 33 _ _ _ _ _
      refine r_ifne 40 X dX5_set_33 (by decide) (fun c33 => ?_) (fun c33 => ?_)
      · have hv := bI_1 c33
        rw [Bool.and_eq_true, decide_eq_true_eq, decide_eq_true_eq] at hv
        show Rn G κ 40 _ _ _ _ _
        refine r_aload_n X dX5_set_40 rfl ?_
        refine r_iload_n X dX5_set_41 rfl ?_
        refine r_cv1_I X mdX5_toldNow wml_X5_135 dX5_set_42 ⟨rfl, rfl, Nat.le_of_ble_eq_true rfl, Nat.le_of_ble_eq_true rfl⟩ (by decide) rfl rfl (Nat.le_of_ble_eq_true rfl) rfl (zroom Z) (m_toldNow) ?_
        show Rn G κ 45 _ _ _ _ _
        refine r_istore_3 X dX5_set_45 rfl ?_
        refine r_aload_n X dX5_set_46 rfl ?_
        refine r_iload_n X dX5_set_47 rfl ?_
        refine r_ifne 55 X dX5_set_48 (by decide) (fun c48 => ?_) (fun c48 => absurd c48 (by decide))
        show Rn G κ 55 _ _ _ _ _
        show Rn G κ 55 _ _ _ _ _
        refine r_aload_n X dX5_set_55 rfl ?_
        refine r_gim 11 X wfl_X5_38 dX5_set_56 (by decide) rfl ?_
        refine r_pim 11 X wfl_X5_38 dX5_set_59 (by decide) rfl rfl (by decide +kernel) ?_
        rw [upM_id (k := 11) (j := 0) rfl]
        refine r_aload_n X dX5_set_62 rfl ?_
        refine r_iload_n X dX5_set_63 rfl ?_
        refine r_iconst (1) X dX5_set_64 (by decide) ?_
        refine r_icmpne 72 X dX5_set_65 (by decide) (fun c65 => absurd rfl c65) (fun c65 => ?_)
        show Rn G κ 68 _ _ _ _ _
        refine r_iload_n X dX5_set_68 rfl ?_
        show Rn G κ 69 _ _ _ _ _
        refine r_goto 76 X dX5_set_69 (by decide) ?_
        refine r_pim 12 X wfl_X5_42 dX5_set_76 (by decide) rfl rfl (by decide +kernel) ?_
        refine r_aload_n X dX5_set_79 rfl ?_
        refine r_iload_n X dX5_set_80 rfl ?_
        refine r_iconst (2) X dX5_set_81 (by decide) ?_
        refine r_icmpne 89 X dX5_set_82 (by decide) (fun c82 => ?_) (fun c82 => absurd c82 (by decide))
        show Rn G κ 89 _ _ _ _ _
        refine r_aload_n X dX5_set_89 rfl ?_
        refine r_gim 13 X wfl_X5_132 dX5_set_90 (by decide) rfl ?_
        show Rn G κ 93 _ _ _ _ _
        refine r_pim 13 X wfl_X5_132 dX5_set_93 (by decide) rfl rfl (by decide +kernel) ?_
        rw [upM_id (k := 13) (j := 0) rfl]
        refine r_aload_n X dX5_set_96 rfl ?_
        refine r_cv0_M X mdX5_settle wml_X5_138 dX5_set_97 ⟨rfl, rfl, Nat.le_of_ble_eq_true rfl, Nat.le_of_ble_eq_true rfl⟩ (by decide) rfl rfl (Nat.le_of_ble_eq_true rfl) rfl (zroom Z) (m_settle (Bas_M (by omega) hI.2.2.1.1)) (fun M2 e2 => ?_)
        subst e2
        show Rn G κ 100 _ _ _ _ _
        refine r_iload_n X dX5_set_100 rfl ?_
        refine r_iret X Z dX5_set_101 ?_
        have e : setS M (nI 1) v = (upM M 12 0 v, M 12 0) := by unfold setS; rw [if_neg (show ¬ nI 1 = 0 by decide), if_pos (show nI 1 = 1 from rfl), if_pos hv]
        rw [e]
        refine ⟨rfl, rfl, _, rfl, ?_, rfl⟩
        refine settle_eq (fun q hq hc => ?_)
        rw [np_up (by omega)] at hq
        rw [choi_up (by omega)] at hc
        rw [upM_ne _ _ _ _ (by omega)]
        exact (hI.2.2.1.2 q hq).2.2.2.2.2 hc
      · show Rn G κ 36 _ _ _ _ _
        refine r_sipush (-1002) X dX5_set_36 (by decide) ?_
        refine r_iret X Z dX5_set_39 ?_
        have e : setS M (nI 1) v = (M, -1002) := by
          unfold setS
          rw [if_neg (show ¬ nI 1 = 0 by decide), if_pos (show nI 1 = 1 from rfl), if_neg]
          rintro ⟨z1, z2⟩
          have := bI_0 c33
          rw [Bool.and_eq_false_iff, decide_eq_false_iff_not, decide_eq_false_iff_not] at this
          rcases this with h | h
          · exact h z1
          · exact h z2
        rw [e]
        exact ⟨rfl, rfl, _, rfl, rfl, rfl⟩
    · refine r_iload_n X dX5_set_9 rfl ?_
      refine r_iload_n X dX5_set_10 rfl ?_
      refine r_ifne 18 X dX5_set_11 (by decide) (fun c11 => ?_) (fun c11 => absurd c11 (by decide))
      show Rn G κ 18 _ _ _ _ _
      refine r_iconst (0) X dX5_set_18 (by decide) ?_
      refine r_iload_n X dX5_set_19 rfl ?_
      refine r_ifne 28 X dX5_set_20 (by decide) (fun c20 => ?_) (fun c20 => absurd c20 (by decide))
      show Rn G κ 28 _ _ _ _ _
      refine r_bipush (9) X dX5_set_28 (by decide) ?_
      show Rn G κ 30 _ _ _ _ _
      refine r_cs3_I X mdX5_within wml_X5_84 dX5_set_30 ⟨rfl, rfl, Nat.le_of_ble_eq_true rfl, Nat.le_of_ble_eq_true rfl⟩ (Nat.le_of_ble_eq_true rfl) rfl (zroom Z) (m_within) ?_
      show Rn G κ 33 _ _ _ _ _
      refine r_ifne 40 X dX5_set_33 (by decide) (fun c33 => ?_) (fun c33 => ?_)
      · have hv := bI_1 c33
        rw [Bool.and_eq_true, decide_eq_true_eq, decide_eq_true_eq] at hv
        show Rn G κ 40 _ _ _ _ _
        refine r_aload_n X dX5_set_40 rfl ?_
        refine r_iload_n X dX5_set_41 rfl ?_
        refine r_cv1_I X mdX5_toldNow wml_X5_135 dX5_set_42 ⟨rfl, rfl, Nat.le_of_ble_eq_true rfl, Nat.le_of_ble_eq_true rfl⟩ (by decide) rfl rfl (Nat.le_of_ble_eq_true rfl) rfl (zroom Z) (m_toldNow) ?_
        show Rn G κ 45 _ _ _ _ _
        refine r_istore_3 X dX5_set_45 rfl ?_
        refine r_aload_n X dX5_set_46 rfl ?_
        refine r_iload_n X dX5_set_47 rfl ?_
        refine r_ifne 55 X dX5_set_48 (by decide) (fun c48 => ?_) (fun c48 => absurd c48 (by decide))
        show Rn G κ 55 _ _ _ _ _
        show Rn G κ 55 _ _ _ _ _
        refine r_aload_n X dX5_set_55 rfl ?_
        refine r_gim 11 X wfl_X5_38 dX5_set_56 (by decide) rfl ?_
        refine r_pim 11 X wfl_X5_38 dX5_set_59 (by decide) rfl rfl (by decide +kernel) ?_
        rw [upM_id (k := 11) (j := 0) rfl]
        refine r_aload_n X dX5_set_62 rfl ?_
        refine r_iload_n X dX5_set_63 rfl ?_
        refine r_iconst (1) X dX5_set_64 (by decide) ?_
        refine r_icmpne 72 X dX5_set_65 (by decide) (fun c65 => ?_) (fun c65 => absurd c65 (by decide))
        show Rn G κ 72 _ _ _ _ _
        refine r_aload_n X dX5_set_72 rfl ?_
        show Rn G κ 73 _ _ _ _ _
        refine r_gim 12 X wfl_X5_42 dX5_set_73 (by decide) rfl ?_
        refine r_pim 12 X wfl_X5_42 dX5_set_76 (by decide) rfl rfl (by decide +kernel) ?_
        rw [upM_id (k := 12) (j := 0) rfl]
        refine r_aload_n X dX5_set_79 rfl ?_
        refine r_iload_n X dX5_set_80 rfl ?_
        refine r_iconst (2) X dX5_set_81 (by decide) ?_
        refine r_icmpne 89 X dX5_set_82 (by decide) (fun c82 => absurd rfl c82) (fun c82 => ?_)
        show Rn G κ 85 _ _ _ _ _
        refine r_iload_n X dX5_set_85 rfl ?_
        refine r_goto 93 X dX5_set_86 (by decide) ?_
        show Rn G κ 93 _ _ _ _ _
        refine r_pim 13 X wfl_X5_132 dX5_set_93 (by decide) rfl rfl (by decide +kernel) ?_
        refine r_aload_n X dX5_set_96 rfl ?_
        refine r_cv0_M X mdX5_settle wml_X5_138 dX5_set_97 ⟨rfl, rfl, Nat.le_of_ble_eq_true rfl, Nat.le_of_ble_eq_true rfl⟩ (by decide) rfl rfl (Nat.le_of_ble_eq_true rfl) rfl (zroom Z) (m_settle (hB13 hv.1 hv.2)) (fun M2 e2 => ?_)
        subst e2
        show Rn G κ 100 _ _ _ _ _
        refine r_iload_n X dX5_set_100 rfl ?_
        refine r_iret X Z dX5_set_101 ?_
        have e : setS M (nI 2) v = (upM M 13 0 v, M 13 0) := by unfold setS; rw [if_neg (show ¬ nI 2 = 0 by decide), if_neg (show ¬ nI 2 = 1 by decide), if_pos (show nI 2 = 2 from rfl), if_pos hv]
        rw [e]
        refine ⟨rfl, rfl, _, rfl, ?_, rfl⟩
        refine settle_eq (fun q hq hc => ?_)
        rw [np_up (by omega)] at hq
        rw [choi_up (by omega)] at hc
        rw [upM_ne _ _ _ _ (by omega)]
        exact (hI.2.2.1.2 q hq).2.2.2.2.2 hc
      · show Rn G κ 36 _ _ _ _ _
        refine r_sipush (-1002) X dX5_set_36 (by decide) ?_
        refine r_iret X Z dX5_set_39 ?_
        have e : setS M (nI 2) v = (M, -1002) := by
          unfold setS
          rw [if_neg (show ¬ nI 2 = 0 by decide), if_neg (show ¬ nI 2 = 1 by decide), if_pos (show nI 2 = 2 from rfl), if_neg]
          rintro ⟨z1, z2⟩
          have := bI_0 c33
          rw [Bool.and_eq_false_iff, decide_eq_false_iff_not, decide_eq_false_iff_not] at this
          rcases this with h | h
          · exact h z1
          · exact h z2
        rw [e]
        exact ⟨rfl, rfl, _, rfl, rfl, rfl⟩
theorem oldN_c (a : bpM) {i : Nat} (h : ¬ 0 < a 6 i) : oldN a (i + 1) = oldN a i := by
  funext k j
  by_cases e : j = i
  · subst e
    rw [oldN_o a (fun q => h q.2), oldN_o a (fun q => h q.2)]
  · exact oldN_succ a e k
theorem oldN_b (a : bpM) {i : Nat} (h : 0 < a 6 i) (h4 : ¬ a 9 i + 1 = 4) : oldN a (i + 1) = upM (oldN a i) 9 i (a 9 i + 1) := by
  funext k j
  simp only [upM]
  by_cases e : j = i
  · subst e
    by_cases hk : k = 9
    · subst hk
      rw [if_pos (show (9 : Nat) = 9 ∧ j = j from ⟨rfl, rfl⟩), oldN_i a (Nat.lt_succ_self _) h (by omega), if_neg h4, if_pos rfl]
    · rw [if_neg (fun q => hk q.1), show oldN a j k j = a k j from oldN_o a (by omega) k]
      by_cases h6 : 6 ≤ k ∧ k ≤ 9
      · rw [oldN_i a (Nat.lt_succ_self _) h h6, if_neg h4, if_neg hk]
      · rw [oldN_s a _ (by omega)]
  · rw [if_neg (fun q => e q.2)]
    exact oldN_succ a e k
theorem oldN_a (a : bpM) {i : Nat} (h : 0 < a 6 i) (h4 : a 9 i + 1 = 4) (v : Int32) : oldN a (i + 1) = forgF (upM (oldN a i) 9 i v) i := by
  funext k j
  by_cases e : j = i
  · subst e
    by_cases h6 : 6 ≤ k ∧ k ≤ 9
    · rw [oldN_i a (Nat.lt_succ_self _) h h6, if_pos h4, forg_p _ h6]
    · rw [oldN_s a _ (by omega), forg_s _ _ (by omega), upM_other _ _ _ _ (by omega), oldN_s a _ (by omega)]
  · rw [forg_o _ e, upM_ne _ _ _ _ (by omega)]
    exact oldN_succ a e k
set_option maxRecDepth 100000 in
set_option maxHeartbeats 4000000 in
theorem m_hearLess {G : bpG} {C : bpC} {M : bpM} {hl : Int64} (hP : IP M) : Ct G yX5_hearLess cX5_hearLess 2 none rmX5_hearLess [.ref (G.1 11 0)] C M hl (qM C hl (fun M' => M' = settle (oldF M))) := by
  refine ct_of [some (.ref (G.1 11 0)), none] (by decide +kernel) rfl rfl (Nat.le_of_ble_eq_true rfl) ?_
  intro κ X Z
  have hB := hP.1
  have hn := hB.2.1
  have loop : ∀ n i : Nat, i + n = np M → Rn G κ 2 [some (.ref (G.1 11 0)), some (.int (nI i))] [] C (oldN M i) hl := by
    intro n
    induction n with
    | zero =>
      intro i hi
      have hi : i = np M := by omega
      subst hi
      refine r_iload_n X dX5_hearLess_2 rfl ?_
      refine r_aload_n X dX5_hearLess_3 rfl ?_
      refine r_gim 2 X wfl_X5_105 dX5_hearLess_4 (by decide) rfl ?_
      refine r_icmpge 54 X dX5_hearLess_7 (by decide) (fun c7 => ?_) (fun c7 => absurd (by rw [oldN_s _ _ (by omega), hB.1]; exact Int32.le_refl _) c7)
      show Rn G κ 54 _ _ _ _ _
      refine r_aload_n X dX5_hearLess_54 rfl ?_
      refine r_cv0_M X mdX5_settle wml_X5_138 dX5_hearLess_55 ⟨rfl, rfl, Nat.le_of_ble_eq_true rfl, Nat.le_of_ble_eq_true rfl⟩ (by decide) rfl rfl (Nat.le_of_ble_eq_true rfl) rfl (zroom Z) (m_settle (Bas_cg (oldN_s _ _ (by omega)) (oldN_s _ _ (by omega)) hB)) (fun M2 e2 => ?_)
      show Rn G κ 58 _ _ _ _ _
      refine r_vret X Z dX5_hearLess_58 ?_
      exact ⟨rfl, rfl, rfl, e2⟩
    | succ n ih =>
      intro i hi
      have hin : i < np M := by omega
      have h6 : i < 6 := by omega
      have e6 : oldN M i 6 i = M 6 i := oldN_o M (by omega) 6
      have e9 : oldN M i 9 i = M 9 i := oldN_o M (by omega) 9
      obtain ⟨g, hg, h9⟩ := (hP.2 i hin).2.2.2.2.1
      refine r_iload_n X dX5_hearLess_2 rfl ?_
      refine r_aload_n X dX5_hearLess_3 rfl ?_
      refine r_gim 2 X wfl_X5_105 dX5_hearLess_4 (by decide) rfl ?_
      refine r_icmpge 54 X dX5_hearLess_7 (by decide) (fun c7 => absurd c7 (by rw [oldN_s _ _ (by omega), hB.1]; simp only [i_lt, i_le, i_eq, i_m1, i_0, i_1, i_2, i_3, i_4, i_5, i_6, i_7, i_8, i_9, i_10, i_11, i_12, i_17, i_20, i_24, i_32, i_44, i_48, i_50, i_51, i_52, i_57, i_58, i_100, i_126, i_n (show np M < 2 ^ 31 by omega), i_n (show i < 2 ^ 31 by omega)]; omega)) (fun c7 => ?_)
      show Rn G κ 10 _ _ _ _ _
      refine r_aload_n X dX5_hearLess_10 rfl ?_
      refine r_gam 9 X wfl_X5_32 dX5_hearLess_11 (by decide) rfl ?_
      refine r_iload_n X dX5_hearLess_14 rfl ?_
      show Rn G κ 15 _ _ _ _ _
      refine r_dup2 X dX5_hearLess_15 rfl rfl ?_
      refine r_iaM _ X rfl (by assumption) dX5_hearLess_16 (by decide) rfl rfl rfl ?_
      refine r_aload_n X dX5_hearLess_17 rfl ?_
      refine r_gam 6 X wfl_X5_23 dX5_hearLess_18 (by decide) rfl ?_
      refine r_iload_n X dX5_hearLess_21 rfl ?_
      refine r_iaM _ X rfl (by assumption) dX5_hearLess_22 (by decide) rfl rfl rfl ?_
      refine r_ifle 30 X dX5_hearLess_23 (by decide) (fun c23 => ?_) (fun c23 => ?_)
      · show Rn G κ 30 _ _ _ _ _
        refine r_iconst (0) X dX5_hearLess_30 (by decide) ?_
        refine r_iadd X dX5_hearLess_31 ?_
        refine r_isM _ X rfl (by assumption) dX5_hearLess_32 (by decide) rfl rfl rfl ?_
        refine r_aload_n X dX5_hearLess_33 rfl ?_
        refine r_gam 9 X wfl_X5_32 dX5_hearLess_34 (by decide) rfl ?_
        refine r_iload_n X dX5_hearLess_37 rfl ?_
        refine r_iaM _ X rfl (by assumption) dX5_hearLess_38 (by decide) rfl rfl rfl ?_
        show Rn G κ 39 _ _ _ _ _
        refine r_iconst (4) X dX5_hearLess_39 (by decide) ?_
        refine r_icmpne 48 X dX5_hearLess_40 (by decide) (fun c40 => ?_) (fun c40 => ?_)
        · show Rn G κ 48 _ _ _ _ _
          refine r_iinc_1 (nI (i + 1)) X dX5_hearLess_48 (nI_1 i) rfl ?_
          refine r_goto 2 X dX5_hearLess_51 (by decide) ?_
          have nh : ¬ 0 < M 6 i := by rw [i_lt, i_0]; rw [i_le, i_0, e6] at c23; omega
          have h0 : upM (oldN M i) 9 i (oldN M i 9 i + 0) = oldN M i := upM_id (Int32.add_zero _).symm
          rw [h0, ← oldN_c M nh]
          exact ih (i + 1) (by omega)
        · show Rn G κ 43 _ _ _ _ _
          refine r_aload_n X dX5_hearLess_43 rfl ?_
          refine r_iload_n X dX5_hearLess_44 rfl ?_
          refine r_cv1_M X mdX5_forget wml_X5_108 dX5_hearLess_45 ⟨rfl, rfl, Nat.le_of_ble_eq_true rfl, Nat.le_of_ble_eq_true rfl⟩ (by decide) rfl rfl (Nat.le_of_ble_eq_true rfl) rfl (zroom Z) (m_forget h6) (fun M2 e2 => ?_)
          show Rn G κ 48 _ _ _ _ _
          refine r_iinc_1 (nI (i + 1)) X dX5_hearLess_48 (nI_1 i) rfl ?_
          refine r_goto 2 X dX5_hearLess_51 (by decide) ?_
          have nh : ¬ 0 < M 6 i := by rw [i_lt, i_0]; rw [i_le, i_0, e6] at c23; omega
          have h0 : upM (oldN M i) 9 i (oldN M i 9 i + 0) = oldN M i := upM_id (Int32.add_zero _).symm
          exfalso
          rw [upM_at, Int32.add_zero, e9, h9, i_eq, i_4, i_n (by omega)] at c40
          omega
      · show Rn G κ 26 _ _ _ _ _
        refine r_iconst (1) X dX5_hearLess_26 (by decide) ?_
        refine r_goto 31 X dX5_hearLess_27 (by decide) ?_
        refine r_iadd X dX5_hearLess_31 ?_
        refine r_isM _ X rfl (by assumption) dX5_hearLess_32 (by decide) rfl rfl rfl ?_
        refine r_aload_n X dX5_hearLess_33 rfl ?_
        refine r_gam 9 X wfl_X5_32 dX5_hearLess_34 (by decide) rfl ?_
        refine r_iload_n X dX5_hearLess_37 rfl ?_
        show Rn G κ 38 _ _ _ _ _
        refine r_iaM _ X rfl (by assumption) dX5_hearLess_38 (by decide) rfl rfl rfl ?_
        refine r_iconst (4) X dX5_hearLess_39 (by decide) ?_
        refine r_icmpne 48 X dX5_hearLess_40 (by decide) (fun c40 => ?_) (fun c40 => ?_)
        · show Rn G κ 48 _ _ _ _ _
          refine r_iinc_1 (nI (i + 1)) X dX5_hearLess_48 (nI_1 i) rfl ?_
          refine r_goto 2 X dX5_hearLess_51 (by decide) ?_
          have hh : 0 < M 6 i := by rw [i_lt, i_0]; rw [i_le, i_0, e6] at c23; omega
          rw [upM_at, e9] at c40
          rw [e9, ← oldN_b M hh c40]
          exact ih (i + 1) (by omega)
        · show Rn G κ 43 _ _ _ _ _
          refine r_aload_n X dX5_hearLess_43 rfl ?_
          refine r_iload_n X dX5_hearLess_44 rfl ?_
          refine r_cv1_M X mdX5_forget wml_X5_108 dX5_hearLess_45 ⟨rfl, rfl, Nat.le_of_ble_eq_true rfl, Nat.le_of_ble_eq_true rfl⟩ (by decide) rfl rfl (Nat.le_of_ble_eq_true rfl) rfl (zroom Z) (m_forget h6) (fun M2 e2 => ?_)
          show Rn G κ 48 _ _ _ _ _
          refine r_iinc_1 (nI (i + 1)) X dX5_hearLess_48 (nI_1 i) rfl ?_
          refine r_goto 2 X dX5_hearLess_51 (by decide) ?_
          have hh : 0 < M 6 i := by rw [i_lt, i_0]; rw [i_le, i_0, e6] at c23; omega
          rw [upM_at, e9] at c40
          subst e2
          rw [e9, ← oldN_a M hh c40]
          exact ih (i + 1) (by omega)
  refine r_iconst (0) X dX5_hearLess_0 (by decide) ?_
  refine r_istore_1 X dX5_hearLess_1 rfl ?_
  have h0 := loop (np M) 0 (by omega)
  rw [oldN_0] at h0
  exact h0
set_option maxRecDepth 100000 in
set_option maxHeartbeats 4000000 in
theorem m_waitMore {G : bpG} {C : bpC} {M : bpM} {hl : Int64} (hB : Bas M) : Ct G yX5_waitMore cX5_waitMore 2 none rmX5_waitMore [.ref (G.1 11 0)] C M hl (qM C hl (fun M' => M' = wtF M)) := by
  refine ct_of [some (.ref (G.1 11 0)), none] (by decide +kernel) rfl rfl (Nat.le_of_ble_eq_true rfl) ?_
  intro κ X Z
  have hn := hB.2.1
  have loop : ∀ n i : Nat, i + n = np M → Rn G κ 2 [some (.ref (G.1 11 0)), some (.int (nI i))] [] C (wtN M i) hl := by
    intro n
    induction n with
    | zero =>
      intro i hi
      have hi : i = np M := by omega
      subst hi
      refine r_iload_n X dX5_waitMore_2 rfl ?_
      refine r_aload_n X dX5_waitMore_3 rfl ?_
      refine r_gim 2 X wfl_X5_105 dX5_waitMore_4 (by decide) rfl ?_
      refine r_icmpge 50 X dX5_waitMore_7 (by decide) (fun c7 => ?_) (fun c7 => absurd (by rw [wtN_s _ _ (by omega), hB.1]; exact Int32.le_refl _) c7)
      show Rn G κ 50 _ _ _ _ _
      refine r_vret X Z dX5_waitMore_50 ?_
      exact ⟨rfl, rfl, rfl, rfl⟩
    | succ n ih =>
      intro i hi
      have hin : i < np M := by omega
      have h6 : i < 6 := by omega
      have e10 : wtN M i 10 i = M 10 i := wtN_10 M (Nat.le_refl _)
      have hBk : Bas (wtN M i) := Bas_cg (wtN_s _ _ (by omega)) (wtN_s _ _ (by omega)) hB
      refine r_iload_n X dX5_waitMore_2 rfl ?_
      refine r_aload_n X dX5_waitMore_3 rfl ?_
      refine r_gim 2 X wfl_X5_105 dX5_waitMore_4 (by decide) rfl ?_
      refine r_icmpge 50 X dX5_waitMore_7 (by decide) (fun c7 => absurd c7 (by rw [wtN_s _ _ (by omega), hB.1]; simp only [i_lt, i_le, i_eq, i_m1, i_0, i_1, i_2, i_3, i_4, i_5, i_6, i_7, i_8, i_9, i_10, i_11, i_12, i_17, i_20, i_24, i_32, i_44, i_48, i_50, i_51, i_52, i_57, i_58, i_100, i_126, i_n (show np M < 2 ^ 31 by omega), i_n (show i < 2 ^ 31 by omega)]; omega)) (fun c7 => ?_)
      show Rn G κ 10 _ _ _ _ _
      refine r_aload_n X dX5_waitMore_10 rfl ?_
      refine r_gam 10 X wfl_X5_35 dX5_waitMore_11 (by decide) rfl ?_
      refine r_iload_n X dX5_waitMore_14 rfl ?_
      show Rn G κ 15 _ _ _ _ _
      refine r_dup2 X dX5_waitMore_15 rfl rfl ?_
      refine r_iaM _ X rfl (by assumption) dX5_waitMore_16 (by decide) rfl rfl rfl ?_
      refine r_aload_n X dX5_waitMore_17 rfl ?_
      refine r_iload_n X dX5_waitMore_18 rfl ?_
      refine r_cv1_I X mdX5_stateOf wml_X5_129 dX5_waitMore_19 ⟨rfl, rfl, Nat.le_of_ble_eq_true rfl, Nat.le_of_ble_eq_true rfl⟩ (by decide) rfl rfl (Nat.le_of_ble_eq_true rfl) rfl (zroom Z) (m_stateOf hBk (by rw [wtN_np]; exact hin)) ?_
      show Rn G κ 22 _ _ _ _ _
      refine r_iconst (1) X dX5_waitMore_22 (by decide) ?_
      refine r_icmple 41 X dX5_waitMore_23 (by decide) (fun c23 => ?_) (fun c23 => ?_)
      · show Rn G κ 41 _ _ _ _ _
        refine r_iconst (0) X dX5_waitMore_41 (by decide) ?_
        refine r_iadd X dX5_waitMore_42 ?_
        refine r_isM _ X rfl (by assumption) dX5_waitMore_43 (by decide) rfl rfl rfl ?_
        refine r_iinc_1 (nI (i + 1)) X dX5_waitMore_44 (nI_1 i) rfl ?_
        refine r_goto 2 X dX5_waitMore_47 (by decide) ?_
        rw [upM_id (Int32.add_zero _).symm, ← wtN_f (by rintro ⟨z1, -⟩; have h3 : ¬ stat (wtN M i) i < 2 := fun z => stat_2.mp z (by rw [wtN_choi]; exact z1); rw [i_lt, i_2] at h3; rw [i_le, i_1] at c23; omega)]
        exact ih (i + 1) (by omega)
      · show Rn G κ 26 _ _ _ _ _
        refine r_aload_n X dX5_waitMore_26 rfl ?_
        refine r_gam 10 X wfl_X5_35 dX5_waitMore_27 (by decide) rfl ?_
        refine r_iload_n X dX5_waitMore_30 rfl ?_
        refine r_iaM _ X rfl (by assumption) dX5_waitMore_31 (by decide) rfl rfl rfl ?_
        refine r_bipush (9) X dX5_waitMore_32 (by decide) ?_
        refine r_icmpge 41 X dX5_waitMore_34 (by decide) (fun c34 => ?_) (fun c34 => ?_)
        · show Rn G κ 41 _ _ _ _ _
          refine r_iconst (0) X dX5_waitMore_41 (by decide) ?_
          refine r_iadd X dX5_waitMore_42 ?_
          refine r_isM _ X rfl (by assumption) dX5_waitMore_43 (by decide) rfl rfl rfl ?_
          refine r_iinc_1 (nI (i + 1)) X dX5_waitMore_44 (nI_1 i) rfl ?_
          refine r_goto 2 X dX5_waitMore_47 (by decide) ?_
          rw [upM_id (Int32.add_zero _).symm, ← wtN_f (by rintro ⟨-, z2⟩; rw [e10] at c34; rw [i_lt] at z2; rw [i_le] at c34; omega)]
          exact ih (i + 1) (by omega)
        · show Rn G κ 37 _ _ _ _ _
          refine r_iconst (1) X dX5_waitMore_37 (by decide) ?_
          refine r_goto 42 X dX5_waitMore_38 (by decide) ?_
          refine r_iadd X dX5_waitMore_42 ?_
          refine r_isM _ X rfl (by assumption) dX5_waitMore_43 (by decide) rfl rfl rfl ?_
          refine r_iinc_1 (nI (i + 1)) X dX5_waitMore_44 (nI_1 i) rfl ?_
          refine r_goto 2 X dX5_waitMore_47 (by decide) ?_
          have h2 : choi M i = 2 := by
            rcases Classical.em (choi M i = 2) with z | z
            · exact z
            · have := stat_2.mpr (show choi (wtN M i) i ≠ 2 by rw [wtN_choi]; exact z)
              rw [i_lt, i_2] at this
              rw [i_le, i_1] at c23
              omega
          have h9 : M 10 i < 9 := by rw [e10, i_le] at c34; rw [i_lt]; omega
          rw [e10, ← wtN_t ⟨h2, h9⟩]
          exact ih (i + 1) (by omega)
  refine r_iconst (0) X dX5_waitMore_0 (by decide) ?_
  refine r_istore_1 X dX5_waitMore_1 rfl ?_
  have h0 := loop (np M) 0 (by omega)
  rw [wtN_0] at h0
  exact h0
def psN (a : bpM) (p t : Nat) : bpM := fun k j => if (k = 15 ∨ k = 16) ∧ 24 * p ≤ j ∧ j < 24 * p + t then a k (j + 1) else if k = 17 ∧ j = p then a 17 p - 1 else a k j
theorem psN_0 (a : bpM) (p : Nat) : psN a p 0 = upM a 17 p (a 17 p - 1) := by
  funext k j
  simp only [psN, upM]
  rw [if_neg (by omega)]
theorem psN_at (a : bpM) (p t : Nat) {k : Nat} (hk : k = 15 ∨ k = 16) : psN a p t k (24 * p + t + 1) = a k (24 * p + t + 1) := by
  simp only [psN]
  rw [if_neg (by omega), if_neg (by omega)]
theorem psN_step (a : bpM) (p t : Nat) : upM (upM (psN a p t) 15 (24 * p + t) (a 15 (24 * p + t + 1))) 16 (24 * p + t) (a 16 (24 * p + t + 1)) = psN a p (t + 1) := by
  funext k j
  simp only [upM, psN]
  by_cases e : j = 24 * p + t
  · by_cases h16 : k = 16
    · rw [if_pos ⟨h16, e⟩, if_pos ⟨Or.inr h16, by omega, by omega⟩, h16, e]
    · rw [if_neg (fun q => h16 q.1)]
      by_cases h15 : k = 15
      · rw [if_pos ⟨h15, e⟩, if_pos ⟨Or.inl h15, by omega, by omega⟩, h15, e]
      · rw [if_neg (fun q => h15 q.1), if_neg (show ¬ ((k = 15 ∨ k = 16) ∧ 24 * p ≤ j ∧ j < 24 * p + t) by omega), if_neg (show ¬ ((k = 15 ∨ k = 16) ∧ 24 * p ≤ j ∧ j < 24 * p + (t + 1)) by omega)]
  · rw [if_neg (fun q => e q.2), if_neg (fun q => e q.2)]
    by_cases h : (k = 15 ∨ k = 16) ∧ 24 * p ≤ j ∧ j < 24 * p + t
    · rw [if_pos h, if_pos ⟨h.1, h.2.1, by omega⟩]
    · rw [if_neg h, if_neg (show ¬ ((k = 15 ∨ k = 16) ∧ 24 * p ≤ j ∧ j < 24 * p + (t + 1)) from fun q => h ⟨q.1, q.2.1, by omega⟩)]
theorem psN_pop {a : bpM} {p m : Nat} (h : qm a p = m + 1) : psN a p m = popF a p := by
  funext k j
  simp only [psN, popF]
  rw [h]
  by_cases h17 : k = 17 ∧ j = p
  · rw [if_pos h17, if_neg (by omega), if_pos h17]
  · rw [if_neg h17, if_neg h17]
    by_cases h1 : (k = 15 ∨ k = 16) ∧ 24 * p ≤ j ∧ j < 24 * p + m
    · rw [if_pos h1, if_pos ⟨h1.1, h1.2.1, by omega⟩]
    · rw [if_neg h1, if_neg]
      rintro ⟨q1, q2, q3⟩
      exact h1 ⟨q1, q2, by omega⟩
set_option maxRecDepth 100000 in
set_option maxHeartbeats 4000000 in
theorem m_goesOut {G : bpG} {C : bpC} {M : bpM} {hl : Int64} {k p : Nat} (hQ : IQ M) (hF : IF M k) (hP : IP M) (hp : p < np M) : Ct G yX5_goesOut cX5_goesOut 5 (some .int) rmX5_goesOut [.ref (G.1 11 0), .int (nI p)] C M hl (qMi C hl (fun M' r => M' = (goF M p).1 ∧ r = (goF M p).2)) := by
  refine ct_of [some (.ref (G.1 11 0)), some (.int (nI p)), none, none, none] (by decide +kernel) rfl rfl (Nat.le_of_ble_eq_true rfl) ?_
  intro κ X Z
  have hn6 := hP.1.2.1
  have hp6 : p < 6 := by omega
  have hI := hQ p hp
  have h20 := hI.le
  have loop : ∀ (m n t : Nat), qm M p = m + 1 → t + n = m → ¬ M 17 p = 0 → Rn G κ 47 [some (.ref (G.1 11 0)), some (.int (nI p)), some (.int (nI (flN M p 0))), some (.int (M 16 (24 * p))), some (.int (nI (24 * p + t)))] [] C (psN M p t) hl := by
    intro m n
    induction n with
    | zero =>
      intro t hm ht h0
      have ht : t = m := by omega
      subst ht
      have h17 : M 17 p = nI (t + 1) := by rw [hI.1, hm]
      have e17 : psN M p t 17 p = nI t := by simp only [psN]; rw [if_neg (by omega), if_pos ⟨trivial, trivial⟩, h17]; exact nI_pred t
      have hend : (24 : Int32) * nI p + psN M p t 17 p = nI (24 * p + t) := by rw [e17, ← nI_add, ← pk_mul]; rfl
      have hfl := hI.e.fl (j := 0) (by omega)
      have hfl12 := hfl.1
      have hQ2 : QB (popF M p) := fun q hq => by
        rw [pop_np] at hq
        by_cases e : q = p
        · subst e
          obtain ⟨-, z2, z3⟩ := pop_qm h17 (by omega)
          rw [z2, z3]; exact ⟨rfl, by omega⟩
        · rw [pop_17o M e, pop_qmo M e]; exact hQ.qb q hq
      refine r_iload X dX5_goesOut_47 rfl ?_
      refine r_bipush (24) X dX5_goesOut_49 (by decide) ?_
      refine r_iload_n X dX5_goesOut_51 rfl ?_
      refine r_imul X dX5_goesOut_52 ?_
      refine r_aload_n X dX5_goesOut_53 rfl ?_
      refine r_gam 17 X wfl_X5_51 dX5_goesOut_54 (by decide) rfl ?_
      refine r_iload_n X dX5_goesOut_57 rfl ?_
      show Rn G κ 58 _ _ _ _ _
      refine r_iaM _ X rfl (by assumption) dX5_goesOut_58 (by decide) rfl rfl rfl ?_
      refine r_iadd X dX5_goesOut_59 ?_
      refine r_top hend ?_
      refine r_icmpge 101 X dX5_goesOut_60 (by decide) (fun c60 => ?_) (fun c60 => absurd (Int32.le_refl _) c60)
      show Rn G κ 101 _ _ _ _ _
      rw [psN_pop hm]
      refine r_iload_n X dX5_goesOut_101 rfl ?_
      refine r_ifne 112 X dX5_goesOut_102 (by decide) (fun c102 => ?_) (fun c102 => ?_)
      · show Rn G κ 112 _ _ _ _ _
        refine r_aload_n X dX5_goesOut_112 rfl ?_
        refine r_gam 23 X wfl_X5_69 dX5_goesOut_113 (by decide) rfl ?_
        refine r_iload_n X dX5_goesOut_116 rfl ?_
        refine r_dup2 X dX5_goesOut_117 rfl rfl ?_
        refine r_iaM _ X rfl (by assumption) dX5_goesOut_118 (by decide) rfl rfl rfl ?_
        refine r_top (show popF M p 23 (flN M p 0) = M 23 (flN M p 0) by rw [pop_s _ _ (by omega)]) ?_
        refine r_iconst (1) X dX5_goesOut_119 (by decide) ?_
        refine r_iadd X dX5_goesOut_120 ?_
        show Rn G κ 121 _ _ _ _ _
        refine r_isM _ X rfl (by assumption) dX5_goesOut_121 (by decide) rfl rfl rfl ?_
        refine r_aload_n X dX5_goesOut_122 rfl ?_
        refine r_gam 25 X wfl_X5_75 dX5_goesOut_123 (by decide) rfl ?_
        refine r_iload_n X dX5_goesOut_126 rfl ?_
        refine r_iload_n X dX5_goesOut_127 rfl ?_
        refine r_isM _ X rfl (by assumption) dX5_goesOut_128 (by decide) rfl rfl rfl ?_
        refine r_iconst (1) X dX5_goesOut_129 (by decide) ?_
        refine r_iret X Z dX5_goesOut_130 ?_
        have e : goF M p = (upM (upM (popF M p) 23 (flN M p 0) (M 23 (flN M p 0) + 1)) 25 (flN M p 0) (M 16 (24 * p)), 1) := by unfold goF; rw [if_neg h0, if_neg c102]
        rw [e]
        exact ⟨rfl, rfl, _, rfl, rfl, rfl⟩
      · show Rn G κ 105 _ _ _ _ _
        refine r_aload_n X dX5_goesOut_105 rfl ?_
        refine r_iload_n X dX5_goesOut_106 rfl ?_
        refine r_cv1_M X mdX5_answer wml_X5_183 dX5_goesOut_107 ⟨rfl, rfl, Nat.le_of_ble_eq_true rfl, Nat.le_of_ble_eq_true rfl⟩ (by decide) rfl rfl (Nat.le_of_ble_eq_true rfl) rfl (zroom Z) (m_answer (M := popF M p) (IP_pop hP).1 hQ2 (IF_pop hF _ hfl12).2.2.1 (IF_pop hF _ hfl12).2.2.2.1 hfl12) (fun M2 e2 => ?_)
        subst e2
        show Rn G κ 110 _ _ _ _ _
        refine r_iconst (0) X dX5_goesOut_110 (by decide) ?_
        refine r_iret X Z dX5_goesOut_111 ?_
        have e : goF M p = (answerF (popF M p) (flN M p 0), 0) := by unfold goF; rw [if_neg h0, if_pos c102]
        rw [e]
        exact ⟨rfl, rfl, _, rfl, rfl, rfl⟩
    | succ n ih =>
      intro t hm ht h0
      have h17 : M 17 p = nI (m + 1) := by rw [hI.1, hm]
      have e17 : psN M p t 17 p = nI m := by simp only [psN]; rw [if_neg (by omega), if_pos ⟨trivial, trivial⟩, h17]; exact nI_pred m
      have hend : (24 : Int32) * nI p + psN M p t 17 p = nI (24 * p + m) := by rw [e17, ← nI_add, ← pk_mul]; rfl
      have hx1 : 24 * p + t < 144 := by omega
      have hx2 : 24 * p + t + 1 < 144 := by omega
      refine r_iload X dX5_goesOut_47 rfl ?_
      refine r_bipush (24) X dX5_goesOut_49 (by decide) ?_
      refine r_iload_n X dX5_goesOut_51 rfl ?_
      refine r_imul X dX5_goesOut_52 ?_
      refine r_aload_n X dX5_goesOut_53 rfl ?_
      refine r_gam 17 X wfl_X5_51 dX5_goesOut_54 (by decide) rfl ?_
      refine r_iload_n X dX5_goesOut_57 rfl ?_
      show Rn G κ 58 _ _ _ _ _
      refine r_iaM _ X rfl (by assumption) dX5_goesOut_58 (by decide) rfl rfl rfl ?_
      refine r_iadd X dX5_goesOut_59 ?_
      refine r_top hend ?_
      refine r_icmpge 101 X dX5_goesOut_60 (by decide) (fun c60 => absurd c60 (by simp only [i_lt, i_le, i_eq, i_m1, i_0, i_1, i_2, i_3, i_4, i_5, i_6, i_7, i_8, i_9, i_10, i_11, i_12, i_17, i_20, i_24, i_32, i_44, i_48, i_50, i_51, i_52, i_57, i_58, i_100, i_126, i_n (show 24 * p + m < 2 ^ 31 by omega), i_n (show 24 * p + t < 2 ^ 31 by omega)]; omega)) (fun c60 => ?_)
      show Rn G κ 63 _ _ _ _ _
      refine r_aload_n X dX5_goesOut_63 rfl ?_
      refine r_gam 15 X wfl_X5_45 dX5_goesOut_64 (by decide) rfl ?_
      refine r_iload X dX5_goesOut_67 rfl ?_
      refine r_aload_n X dX5_goesOut_69 rfl ?_
      refine r_gam 15 X wfl_X5_45 dX5_goesOut_70 (by decide) rfl ?_
      show Rn G κ 73 _ _ _ _ _
      refine r_iload X dX5_goesOut_73 rfl ?_
      refine r_iconst (1) X dX5_goesOut_75 (by decide) ?_
      refine r_iadd X dX5_goesOut_76 ?_
      refine r_iaM (24 * p + t + 1) X (nI_1 _) (by assumption) dX5_goesOut_77 (by decide) rfl rfl rfl ?_
      refine r_top (psN_at M p t (Or.inl rfl)) ?_
      refine r_isM _ X rfl (by assumption) dX5_goesOut_78 (by decide) rfl rfl rfl ?_
      refine r_aload_n X dX5_goesOut_79 rfl ?_
      refine r_gam 16 X wfl_X5_48 dX5_goesOut_80 (by decide) rfl ?_
      refine r_iload X dX5_goesOut_83 rfl ?_
      show Rn G κ 85 _ _ _ _ _
      refine r_aload_n X dX5_goesOut_85 rfl ?_
      refine r_gam 16 X wfl_X5_48 dX5_goesOut_86 (by decide) rfl ?_
      refine r_iload X dX5_goesOut_89 rfl ?_
      refine r_iconst (1) X dX5_goesOut_91 (by decide) ?_
      refine r_iadd X dX5_goesOut_92 ?_
      refine r_iaM (24 * p + t + 1) X (nI_1 _) (by assumption) dX5_goesOut_93 (by decide) rfl rfl rfl ?_
      refine r_top (show upM (psN M p t) 15 (24 * p + t) (M 15 (24 * p + t + 1)) 16 (24 * p + t + 1) = M 16 (24 * p + t + 1) by rw [upM_ne _ _ _ _ (by omega)]; exact psN_at M p t (Or.inr rfl)) ?_
      refine r_isM _ X rfl (by assumption) dX5_goesOut_94 (by decide) rfl rfl rfl ?_
      refine r_iinc_4 (nI (24 * p + (t + 1))) X dX5_goesOut_95 (nI_1 (24 * p + t)) rfl ?_
      show Rn G κ 98 _ _ _ _ _
      refine r_goto 47 X dX5_goesOut_98 (by decide) ?_
      rw [psN_step]
      exact ih (t + 1) hm (by omega) h0
  refine r_aload_n X dX5_goesOut_0 rfl ?_
  refine r_gam 17 X wfl_X5_51 dX5_goesOut_1 (by decide) rfl ?_
  refine r_iload_n X dX5_goesOut_4 rfl ?_
  refine r_iaM _ X rfl (by assumption) dX5_goesOut_5 (by decide) rfl rfl rfl ?_
  refine r_ifne 11 X dX5_goesOut_6 (by decide) (fun c6 => ?_) (fun c6 => ?_)
  · obtain ⟨m, hm⟩ : ∃ m, qm M p = m + 1 := by
      cases hq : qm M p with
      | zero => exact absurd (by rw [hI.1, hq]; rfl) c6
      | succ m => exact ⟨m, rfl⟩
    have hfl := hI.e.fl (j := 0) (by omega)
    show Rn G κ 11 _ _ _ _ _
    refine r_aload_n X dX5_goesOut_11 rfl ?_
    refine r_gam 15 X wfl_X5_45 dX5_goesOut_12 (by decide) rfl ?_
    refine r_bipush (24) X dX5_goesOut_15 (by decide) ?_
    refine r_iload_n X dX5_goesOut_17 rfl ?_
    refine r_imul X dX5_goesOut_18 ?_
    refine r_iaM (24 * p) X (show (24 : Int32) * nI p = nI (24 * p) from pk_mul 24 p) (show 24 * p < 144 by omega) dX5_goesOut_19 (by decide) rfl rfl rfl ?_
    refine r_top hfl.2 ?_
    refine r_istore_2 X dX5_goesOut_20 rfl ?_
    show Rn G κ 21 _ _ _ _ _
    refine r_aload_n X dX5_goesOut_21 rfl ?_
    refine r_gam 16 X wfl_X5_48 dX5_goesOut_22 (by decide) rfl ?_
    refine r_bipush (24) X dX5_goesOut_25 (by decide) ?_
    refine r_iload_n X dX5_goesOut_27 rfl ?_
    refine r_imul X dX5_goesOut_28 ?_
    refine r_iaM (24 * p) X (show (24 : Int32) * nI p = nI (24 * p) from pk_mul 24 p) (show 24 * p < 144 by omega) dX5_goesOut_29 (by decide) rfl rfl rfl ?_
    refine r_istore_3 X dX5_goesOut_30 rfl ?_
    refine r_aload_n X dX5_goesOut_31 rfl ?_
    show Rn G κ 32 _ _ _ _ _
    refine r_gam 17 X wfl_X5_51 dX5_goesOut_32 (by decide) rfl ?_
    refine r_iload_n X dX5_goesOut_35 rfl ?_
    refine r_dup2 X dX5_goesOut_36 rfl rfl ?_
    refine r_iaM _ X rfl (by assumption) dX5_goesOut_37 (by decide) rfl rfl rfl ?_
    refine r_iconst (1) X dX5_goesOut_38 (by decide) ?_
    refine r_isub X dX5_goesOut_39 ?_
    refine r_isM _ X rfl (by assumption) dX5_goesOut_40 (by decide) rfl rfl rfl ?_
    rw [← psN_0]
    refine r_bipush (24) X dX5_goesOut_41 (by decide) ?_
    show Rn G κ 43 _ _ _ _ _
    refine r_iload_n X dX5_goesOut_43 rfl ?_
    refine r_imul X dX5_goesOut_44 ?_
    refine r_top (show (24 : Int32) * nI p = nI (24 * p) from pk_mul 24 p) ?_
    refine r_istore_4 X dX5_goesOut_45 rfl ?_
    exact loop m m 0 hm (by omega) c6
  · show Rn G κ 9 _ _ _ _ _
    refine r_iconst (0) X dX5_goesOut_9 (by decide) ?_
    refine r_iret X Z dX5_goesOut_10 ?_
    have e : goF M p = (M, 0) := by unfold goF; rw [if_pos c6]
    rw [e]
    exact ⟨rfl, rfl, _, rfl, rfl, rfl⟩
set_option maxRecDepth 100000 in
set_option maxHeartbeats 4000000 in
theorem m_tickNow {G : bpG} {C : bpC} {M : bpM} {hl : Int64} {k : Nat} (hQ : IQ M) (hF : IF M k) (hP : IP M) : Ct G yX5_tickNow cX5_tickNow 3 (some .int) rmX5_tickNow [.ref (G.1 11 0)] C M hl (qMi C hl (fun M' r => M' = (tick1 M).1 ∧ r = (tick1 M).2)) := by
  refine ct_of [some (.ref (G.1 11 0)), none, none] (by decide +kernel) rfl rfl (Nat.le_of_ble_eq_true rfl) ?_
  intro κ X Z
  have hn6 := hP.1.2.1
  have hI := I_pre hQ hF hP
  have loop : ∀ n i : Nat, i + n = np M → Rn G κ 22 [some (.ref (G.1 11 0)), some (.int (outN (preT M) i).2), some (.int (nI i))] [] C (outN (preT M) i).1 hl := by
    intro n
    induction n with
    | zero =>
      intro i hi
      have hi : i = np M := by omega
      subst hi
      have e2 : (outN (preT M) (np M)).1 2 0 = nI (np M) := by rw [out_s _ (by omega), preT_s _ (by omega)]; exact hP.1.1
      refine r_iload_n X dX5_tickNow_22 rfl ?_
      refine r_aload_n X dX5_tickNow_23 rfl ?_
      refine r_gim 2 X wfl_X5_105 dX5_tickNow_24 (by decide) rfl ?_
      refine r_icmpge 57 X dX5_tickNow_27 (by decide) (fun c27 => ?_) (fun c27 => absurd (by rw [e2]; exact Int32.le_refl _) c27)
      show Rn G κ 57 _ _ _ _ _
      refine r_iload_n X dX5_tickNow_57 rfl ?_
      refine r_iret X Z dX5_tickNow_58 ?_
      exact ⟨rfl, rfl, _, rfl, rfl, rfl⟩
    | succ n ih =>
      intro i hi
      have hin : i < np M := by omega
      have h6 : i < 6 := by omega
      have e2 : (outN (preT M) i).1 2 0 = nI (np M) := by rw [out_s _ (by omega), preT_s _ (by omega)]; exact hP.1.1
      obtain ⟨o1, o2, o3, o4, o5⟩ := I_out hI.1 hI.2.1 hI.2.2 i (by rw [preT_np]; omega)
      rw [preT_np] at o4
      refine r_iload_n X dX5_tickNow_22 rfl ?_
      refine r_aload_n X dX5_tickNow_23 rfl ?_
      refine r_gim 2 X wfl_X5_105 dX5_tickNow_24 (by decide) rfl ?_
      refine r_icmpge 57 X dX5_tickNow_27 (by decide) (fun c27 => absurd c27 (by rw [e2]; simp only [i_lt, i_le, i_eq, i_m1, i_0, i_1, i_2, i_3, i_4, i_5, i_6, i_7, i_8, i_9, i_10, i_11, i_12, i_17, i_20, i_24, i_32, i_44, i_48, i_50, i_51, i_52, i_57, i_58, i_100, i_126, i_n (show np M < 2 ^ 31 by omega), i_n (show i < 2 ^ 31 by omega)]; omega)) (fun c27 => ?_)
      show Rn G κ 30 _ _ _ _ _
      refine r_iload_n X dX5_tickNow_30 rfl ?_
      refine r_aload_n X dX5_tickNow_31 rfl ?_
      refine r_gam 5 X wfl_X5_19 dX5_tickNow_32 (by decide) rfl ?_
      show Rn G κ 35 _ _ _ _ _
      refine r_iload_n X dX5_tickNow_35 rfl ?_
      refine r_zaM _ X rfl (by assumption) dX5_tickNow_36 (by decide) rfl rfl rfl ?_
      refine r_ifeq 48 X dX5_tickNow_37 (by decide) (fun c37 => ?_) (fun c37 => ?_)
      · show Rn G κ 48 _ _ _ _ _
        refine r_iconst (0) X dX5_tickNow_48 (by decide) ?_
        refine r_iadd X dX5_tickNow_49 ?_
        refine r_istore_1 X dX5_tickNow_50 rfl ?_
        refine r_iinc_2 (nI (i + 1)) X dX5_tickNow_51 (nI_1 i) rfl ?_
        refine r_goto 22 X dX5_tickNow_54 (by decide) ?_
        have := ih (i + 1) (by omega)
        simp only [outN] at this
        rw [if_pos c37] at this
        rw [Int32.add_zero]
        exact this
      · show Rn G κ 40 _ _ _ _ _
        refine r_aload_n X dX5_tickNow_40 rfl ?_
        refine r_iload_n X dX5_tickNow_41 rfl ?_
        refine r_cv1_Mi X mdX5_goesOut wml_X5_195 dX5_tickNow_42 ⟨rfl, rfl, Nat.le_of_ble_eq_true rfl, Nat.le_of_ble_eq_true rfl⟩ (by decide) rfl rfl (Nat.le_of_ble_eq_true rfl) rfl (zroom Z) (m_goesOut o1 o2 o3 (by rw [o4]; exact hin)) (fun M2 r2 q2 => ?_)
        show Rn G κ 45 _ _ _ _ _
        refine r_goto 49 X dX5_tickNow_45 (by decide) ?_
        refine r_iadd X dX5_tickNow_49 ?_
        refine r_istore_1 X dX5_tickNow_50 rfl ?_
        refine r_iinc_2 (nI (i + 1)) X dX5_tickNow_51 (nI_1 i) rfl ?_
        show Rn G κ 54 _ _ _ _ _
        refine r_goto 22 X dX5_tickNow_54 (by decide) ?_
        obtain ⟨q1, q3⟩ := q2
        subst q1
        subst q3
        have := ih (i + 1) (by omega)
        simp only [outN] at this
        rw [if_neg c37] at this
        exact this
  refine r_aload_n X dX5_tickNow_0 rfl ?_
  refine r_dup X dX5_tickNow_1 rfl ?_
  refine r_gim 26 X wfl_X5_99 dX5_tickNow_2 (by decide) rfl ?_
  refine r_iconst (1) X dX5_tickNow_5 (by decide) ?_
  refine r_iadd X dX5_tickNow_6 ?_
  refine r_pim 26 X wfl_X5_99 dX5_tickNow_7 (by decide) rfl rfl (by decide +kernel) ?_
  refine r_aload_n X dX5_tickNow_10 rfl ?_
  show Rn G κ 11 _ _ _ _ _
  refine r_cv0_M X mdX5_hearLess wml_X5_189 dX5_tickNow_11 ⟨rfl, rfl, Nat.le_of_ble_eq_true rfl, Nat.le_of_ble_eq_true rfl⟩ (by decide) rfl rfl (Nat.le_of_ble_eq_true rfl) rfl (zroom Z) (m_hearLess (IP_up (by omega) hP)) (fun M2 e2 => ?_)
  subst e2
  show Rn G κ 14 _ _ _ _ _
  have hB2 : Bas (settle (oldF (upM M 26 0 (M 26 0 + 1)))) := Bas_cg (by rw [settle_s _ (by omega)]; unfold oldF; rw [oldN_s _ _ (by omega), upM_other _ _ _ _ (by omega)]) (by rw [settle_s _ (by omega)]; unfold oldF; rw [oldN_s _ _ (by omega), upM_other _ _ _ _ (by omega)]) hP.1
  refine r_aload_n X dX5_tickNow_14 rfl ?_
  refine r_cv0_M X mdX5_waitMore wml_X5_192 dX5_tickNow_15 ⟨rfl, rfl, Nat.le_of_ble_eq_true rfl, Nat.le_of_ble_eq_true rfl⟩ (by decide) rfl rfl (Nat.le_of_ble_eq_true rfl) rfl (zroom Z) (m_waitMore hB2) (fun M3 e3 => ?_)
  subst e3
  show Rn G κ 18 _ _ _ _ _
  refine r_iconst (0) X dX5_tickNow_18 (by decide) ?_
  refine r_istore_1 X dX5_tickNow_19 rfl ?_
  refine r_iconst (0) X dX5_tickNow_20 (by decide) ?_
  refine r_istore_2 X dX5_tickNow_21 rfl ?_
  exact loop (np M) 0 (by omega)
set_option maxRecDepth 100000 in
set_option maxHeartbeats 4000000 in
theorem m_tick {G : bpG} {C : bpC} {M : bpM} {hl : Int64} {k : Nat} {x : Int32} (hI : Inv M k) : Ct G yX5_tick cX5_tick 4 (some .int) rmX5_tick [.ref (G.1 11 0), .int x] C M hl (qMi C hl (fun M' r => M' = (tickS M x).1 ∧ r = (tickS M x).2)) := by
  refine ct_of [some (.ref (G.1 11 0)), some (.int x), none, none] (by decide +kernel) rfl rfl (Nat.le_of_ble_eq_true rfl) ?_
  intro κ X Z
  refine r_iload_n X dX5_tick_0 rfl ?_
  refine r_iconst (1) X dX5_tick_1 (by decide) ?_
  refine r_bipush (50) X dX5_tick_2 (by decide) ?_
  refine r_cs3_I X mdX5_within wml_X5_84 dX5_tick_4 ⟨rfl, rfl, Nat.le_of_ble_eq_true rfl, Nat.le_of_ble_eq_true rfl⟩ (Nat.le_of_ble_eq_true rfl) rfl (zroom Z) (m_within) ?_
  show Rn G κ 7 _ _ _ _ _
  refine r_ifne 14 X dX5_tick_7 (by decide) (fun c7 => ?_) (fun c7 => ?_)
  · have hx : 1 ≤ x ∧ x ≤ 50 := by have := bI_1 c7; rw [Bool.and_eq_true, decide_eq_true_eq, decide_eq_true_eq] at this; exact this
    show Rn G κ 14 _ _ _ _ _
    refine r_aload_n X dX5_tick_14 rfl ?_
    refine r_gim 2 X wfl_X5_105 dX5_tick_15 (by decide) rfl ?_
    refine r_ifne 25 X dX5_tick_18 (by decide) (fun c18 => ?_) (fun c18 => ?_)
    · show Rn G κ 25 _ _ _ _ _
      obtain ⟨n, hn50, rfl⟩ := rng_of (n := 50) (by decide) (by have := hx.1; rw [i_le, i_1] at this; rw [i_le, i_0]; omega) hx.2
      have e : tickS M (nI n) = tickN M n := by unfold tickS; rw [if_pos hx, if_neg c18, nIc (by omega)]
      rw [e] at Z
      have loop : ∀ m i : Nat, i + m = n → Rn G κ 29 [some (.ref (G.1 11 0)), some (.int (nI n)), some (.int (tickN M i).2), some (.int (nI i))] [] C (tickN M i).1 hl := by
        intro m
        induction m with
        | zero =>
          intro i hi
          have hi : i = n := by omega
          subst hi
          refine r_iload_n X dX5_tick_29 rfl ?_
          refine r_iload_n X dX5_tick_30 rfl ?_
          refine r_icmpge 47 X dX5_tick_31 (by decide) (fun c31 => ?_) (fun c31 => absurd (Int32.le_refl _) c31)
          show Rn G κ 47 _ _ _ _ _
          refine r_iload_n X dX5_tick_47 rfl ?_
          refine r_iret X Z dX5_tick_48 ?_
          exact ⟨rfl, rfl, _, rfl, rfl, rfl⟩
        | succ m ih =>
          intro i hi
          obtain ⟨q1, q2, q3, q4⟩ := I_tickN hI.1 hI.2.1 hI.2.2.1 i
          refine r_iload_n X dX5_tick_29 rfl ?_
          refine r_iload_n X dX5_tick_30 rfl ?_
          refine r_icmpge 47 X dX5_tick_31 (by decide) (fun c31 => absurd c31 (by simp only [i_lt, i_le, i_eq, i_m1, i_0, i_1, i_2, i_3, i_4, i_5, i_6, i_7, i_8, i_9, i_10, i_11, i_12, i_17, i_20, i_24, i_32, i_44, i_48, i_50, i_51, i_52, i_57, i_58, i_100, i_126, i_n (show n < 2 ^ 31 by omega), i_n (show i < 2 ^ 31 by omega)]; omega)) (fun c31 => ?_)
          show Rn G κ 34 _ _ _ _ _
          refine r_iload_n X dX5_tick_34 rfl ?_
          refine r_aload_n X dX5_tick_35 rfl ?_
          refine r_cv0_Mi X mdX5_tickNow wml_X5_198 dX5_tick_36 ⟨rfl, rfl, Nat.le_of_ble_eq_true rfl, Nat.le_of_ble_eq_true rfl⟩ (by decide) rfl rfl (Nat.le_of_ble_eq_true rfl) rfl (zroom Z) (m_tickNow q1 q2 q3) (fun M2 r2 q5 => ?_)
          obtain ⟨e5, e6⟩ := q5
          subst e5
          subst e6
          show Rn G κ 39 _ _ _ _ _
          refine r_iadd X dX5_tick_39 ?_
          show Rn G κ 40 _ _ _ _ _
          refine r_istore_2 X dX5_tick_40 rfl ?_
          refine r_iinc_3 (nI (i + 1)) X dX5_tick_41 (nI_1 i) rfl ?_
          refine r_goto 29 X dX5_tick_44 (by decide) ?_
          exact ih (i + 1) (by omega)
      refine r_iconst (0) X dX5_tick_25 (by decide) ?_
      refine r_istore_2 X dX5_tick_26 rfl ?_
      refine r_iconst (0) X dX5_tick_27 (by decide) ?_
      refine r_istore_3 X dX5_tick_28 rfl ?_
      exact loop n 0 (by omega)
    · show Rn G κ 21 _ _ _ _ _
      refine r_sipush (-1003) X dX5_tick_21 (by decide) ?_
      refine r_iret X Z dX5_tick_24 ?_
      have e : tickS M x = (M, -1003) := by unfold tickS; rw [if_pos hx, if_pos c18]
      rw [e]
      exact ⟨rfl, rfl, _, rfl, rfl, rfl⟩
  · show Rn G κ 10 _ _ _ _ _
    refine r_sipush (-1002) X dX5_tick_10 (by decide) ?_
    refine r_iret X Z dX5_tick_13 ?_
    have e : tickS M x = (M, -1002) := by
      unfold tickS
      rw [if_neg]
      rintro ⟨z1, z2⟩
      have := bI_0 c7
      rw [Bool.and_eq_false_iff, decide_eq_false_iff_not, decide_eq_false_iff_not] at this
      rcases this with h | h
      · exact h z1
      · exact h z2
    rw [e]
    exact ⟨rfl, rfl, _, rfl, rfl, rfl⟩
