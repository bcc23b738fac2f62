def clN (a : bpM) (i : Nat) : bpM := fun k j => if k = 18 ∧ j < i then -1 else if (k = 19 ∨ k = 20 ∨ 22 ≤ k ∧ k ≤ 25) ∧ j < i then 0 else a k j
theorem clN_0 (a : bpM) : clN a 0 = a := by
  funext k j
  simp only [clN]
  rw [if_neg (by omega), if_neg (by omega)]
theorem clN_step (a : bpM) (i : Nat) : upM (upM (upM (upM (upM (upM (upM (clN a i) 18 i (-1)) 19 i 0) 20 i 0) 22 i 0) 23 i 0) 24 i 0) 25 i 0 = clN a (i + 1) := by
  funext k j
  simp only [upM, clN]
  by_cases e : j = i
  · subst e
    by_cases h18 : k = 18
    · subst h18; simp
    · by_cases hk : k = 19 ∨ k = 20 ∨ 22 ≤ k ∧ k ≤ 25
      · rw [if_neg (show ¬ (k = 18 ∧ j < j + 1) from fun q => h18 q.1), if_pos (show (k = 19 ∨ k = 20 ∨ 22 ≤ k ∧ k ≤ 25) ∧ j < j + 1 from ⟨hk, by omega⟩)]
        rcases (show k = 19 ∨ k = 20 ∨ k = 22 ∨ k = 23 ∨ k = 24 ∨ k = 25 by omega) with rfl | rfl | rfl | rfl | rfl | rfl <;> simp
      · rw [if_neg (by omega), if_neg (by omega), if_neg (by omega), if_neg (by omega), if_neg (by omega), if_neg (by omega), if_neg (by omega), if_neg (by omega), if_neg (by omega), if_neg (by omega), if_neg (by omega)]
  · rw [if_neg (by omega), if_neg (by omega), if_neg (by omega), if_neg (by omega), if_neg (by omega), if_neg (by omega), if_neg (by omega)]
    by_cases hj : j < i
    · have : j < i + 1 := by omega
      simp [hj, this]
    · have : ¬ j < i + 1 := by omega
      simp [hj, this]
def clF (a : bpM) : bpM := upM (upM (clN a 12) 26 0 0) 27 0 0
def brN (a : bpM) (n i : Nat) : bpM := fun k j => if k = 3 ∧ j < i then (if j < n then a 1 (3 * j) - 48 else 0) else if k = 4 ∧ j < i then (if j < n then a 1 (3 * j + 1) - 48 else 0) else if (5 ≤ k ∧ k ≤ 10 ∨ k = 17) ∧ j < i then 0 else a k j
theorem brN_0 (a : bpM) (n : Nat) : brN a n 0 = a := by
  funext k j
  simp only [brN]
  rw [if_neg (by omega), if_neg (by omega), if_neg (by omega)]
theorem brN_1 (a : bpM) (n i : Nat) {s : Nat} (hs : s < 3 ∨ 10 < s ∧ s ≠ 17) : brN a n i s = a s := by
  funext j
  simp only [brN]
  rw [if_neg (by omega), if_neg (by omega), if_neg (by omega)]
theorem brN_step (a : bpM) (n i : Nat) : upM (forgF (upM (upM (upM (upM (brN a n i) 3 i (if i < n then a 1 (3 * i) - 48 else 0)) 4 i (if i < n then a 1 (3 * i + 1) - 48 else 0)) 5 i 0) 17 i 0) i) 10 i 0 = brN a n (i + 1) := by
  funext k j
  simp only [forgF, upM, brN]
  by_cases e : j = i
  · subst e
    rcases (show k = 3 ∨ k = 4 ∨ (5 ≤ k ∧ k ≤ 10 ∨ k = 17) ∨ (k ≠ 3 ∧ k ≠ 4 ∧ ¬ (5 ≤ k ∧ k ≤ 10 ∨ k = 17)) by omega) with rfl | rfl | h | ⟨h3, h4, h5⟩
    · simp
    · simp
    · rw [if_neg (show ¬ (k = 3 ∧ j < j + 1) by omega), if_neg (show ¬ (k = 4 ∧ j < j + 1) by omega), if_pos (show (5 ≤ k ∧ k ≤ 10 ∨ k = 17) ∧ j < j + 1 from ⟨h, by omega⟩)]
      rcases (show k = 5 ∨ k = 6 ∨ k = 7 ∨ k = 8 ∨ k = 9 ∨ k = 10 ∨ k = 17 by omega) with rfl | rfl | rfl | rfl | rfl | rfl | rfl <;> simp
    · rw [if_neg (by omega), if_neg (by omega), if_neg (by omega), if_neg (by omega), if_neg (by omega), if_neg (by omega), if_neg (by omega), if_neg (by omega), if_neg (by omega), if_neg (by omega), if_neg (by omega), if_neg (by omega), if_neg (by omega), if_neg (by omega), if_neg (by omega)]
  · rw [if_neg (by omega), if_neg (by omega), if_neg (by omega), if_neg (by omega), if_neg (by omega), if_neg (by omega), if_neg (by omega), if_neg (by omega), if_neg (by omega)]
    by_cases hj : j < i
    · have : j < i + 1 := by omega
      simp [hj, this]
    · have : ¬ j < i + 1 := by omega
      simp [hj, this]
theorem br_board (a : bpM) (n : Nat) : upM (upM (clF (brN (upM a 2 0 (nI n)) n 6)) 14 0 (a 14 0 + 1)) 0 0 0 = boardF a n := by
  funext k j
  have e1 : ∀ x, upM a 2 0 (nI n) 1 x = a 1 x := fun x => upM_ne _ _ _ _ (by omega)
  simp only [boardF, clF]
  simp only [upM]
  simp only [clN]
  simp only [brN, e1]
  simp only [upM]
  by_cases h0 : k = 0 ∧ j = 0
  · rw [if_pos h0, if_pos h0]
  · rw [if_neg h0, if_neg h0]
    by_cases h14 : k = 14 ∧ j = 0
    · rw [if_pos h14, if_neg (by omega), if_neg (by omega), if_neg (by omega), if_neg (by omega), if_pos h14]
    · rw [if_neg h14]
      by_cases h27 : k = 27 ∧ j = 0
      · rw [if_pos h27, if_neg (by omega), if_neg (by omega), if_neg (by omega), if_neg (by omega), if_neg (by omega), if_neg (by omega), if_neg (by omega), if_pos (by omega)]
      · rw [if_neg h27]
        by_cases h26 : k = 26 ∧ j = 0
        · rw [if_pos h26, if_neg (by omega), if_neg (by omega), if_neg (by omega), if_neg (by omega), if_neg (by omega), if_neg (by omega), if_neg (by omega), if_pos (by omega)]
        · rw [if_neg h26]
          by_cases h18 : k = 18 ∧ j < 12
          · rw [if_pos h18, if_neg (by omega), if_neg (by omega), if_neg (by omega), if_neg (by omega), if_neg (by omega), if_pos h18]
          · rw [if_neg h18]
            by_cases hf : (k = 19 ∨ k = 20 ∨ 22 ≤ k ∧ k ≤ 25) ∧ j < 12
            · rw [if_pos hf, if_neg (by omega), if_neg (by omega), if_neg (by omega), if_neg (by omega), if_neg (by omega), if_neg (by omega), if_pos hf]
            · rw [if_neg hf]
              by_cases h3 : k = 3 ∧ j < 6
              · rw [if_pos h3, if_neg (show ¬ (k = 2 ∧ j = 0) by omega), if_pos h3]
              · rw [if_neg h3]
                by_cases h4 : k = 4 ∧ j < 6
                · rw [if_pos h4, if_neg (show ¬ (k = 2 ∧ j = 0) by omega), if_neg h3, if_pos h4]
                · rw [if_neg h4]
                  by_cases h5 : (5 ≤ k ∧ k ≤ 10 ∨ k = 17) ∧ j < 6
                  · rw [if_pos h5, if_neg (by omega), if_neg h3, if_neg h4, if_pos h5]
                  · rw [if_neg h5]
                    by_cases h2 : k = 2 ∧ j = 0
                    · rw [if_pos h2, if_pos h2]
                    · rw [if_neg h2, if_neg h2, if_neg h3, if_neg h4, if_neg h5, if_neg h14, if_neg h18, if_neg hf, if_neg (by omega)]
set_option maxRecDepth 100000 in
set_option maxHeartbeats 4000000 in
theorem m_clearFlows {G : bpG} {C : bpC} {M : bpM} {hl : Int64}  : Ct G yX5_clearFlows cX5_clearFlows 2 none rmX5_clearFlows [.ref (G.1 11 0)] C M hl (qM C hl (fun M' => M' = clF M)) := by
  refine ct_of [some (.ref (G.1 11 0)), none] (by decide +kernel) rfl rfl (Nat.le_of_ble_eq_true rfl) ?_
  intro κ X Z
  have loop : ∀ n i : Nat, i + n = 12 → Rn G κ 2 [some (.ref (G.1 11 0)), some (.int (nI i))] [] C (clN M i) hl := by
    intro n
    induction n with
    | zero =>
      intro i hi
      have hi : i = 12 := by omega
      subst hi
      refine r_iload_n X dX5_clearFlows_2 rfl ?_
      refine r_bipush (12) X dX5_clearFlows_3 (by decide) ?_
      refine r_icmpge 63 X dX5_clearFlows_5 (by decide) (fun c5 => ?_) (fun c5 => absurd (by decide) c5)
      show Rn G κ 63 _ _ _ _ _
      refine r_aload_n X dX5_clearFlows_63 rfl ?_
      refine r_iconst (0) X dX5_clearFlows_64 (by decide) ?_
      refine r_pim 26 X wfl_X5_99 dX5_clearFlows_65 (by decide) rfl rfl (by decide +kernel) ?_
      refine r_aload_n X dX5_clearFlows_68 rfl ?_
      show Rn G κ 69 _ _ _ _ _
      refine r_iconst (0) X dX5_clearFlows_69 (by decide) ?_
      refine r_pim 27 X wfl_X5_102 dX5_clearFlows_70 (by decide) rfl rfl (by decide +kernel) ?_
      refine r_vret X Z dX5_clearFlows_73 ?_
      exact ⟨rfl, rfl, rfl, rfl⟩
    | succ n ih =>
      intro i hi
      have h12 : i < 12 := by omega
      refine r_iload_n X dX5_clearFlows_2 rfl ?_
      refine r_bipush (12) X dX5_clearFlows_3 (by decide) ?_
      refine r_icmpge 63 X dX5_clearFlows_5 (by decide) (fun c5 => absurd c5 (by simp only [i_lt, i_le, i_eq, i_m1, i_0, i_1, i_2, i_3, i_4, i_5, i_6, i_7, i_8, i_9, i_10, i_11, i_12, i_17, i_20, i_24, i_32, i_44, i_48, i_50, i_51, i_52, i_57, i_58, i_100, i_126, i_n (show i < 2 ^ 31 by omega)]; omega)) (fun c5 => ?_)
      show Rn G κ 8 _ _ _ _ _
      refine r_aload_n X dX5_clearFlows_8 rfl ?_
      refine r_gam 18 X wfl_X5_54 dX5_clearFlows_9 (by decide) rfl ?_
      refine r_iload_n X dX5_clearFlows_12 rfl ?_
      refine r_iconst (-1) X dX5_clearFlows_13 (by decide) ?_
      show Rn G κ 14 _ _ _ _ _
      refine r_isM _ X rfl (by assumption) dX5_clearFlows_14 (by decide) rfl rfl rfl ?_
      refine r_aload_n X dX5_clearFlows_15 rfl ?_
      refine r_gam 19 X wfl_X5_57 dX5_clearFlows_16 (by decide) rfl ?_
      refine r_iload_n X dX5_clearFlows_19 rfl ?_
      refine r_iconst (0) X dX5_clearFlows_20 (by decide) ?_
      refine r_zsM _ X (by decide) rfl (by assumption) dX5_clearFlows_21 (by decide) rfl rfl rfl ?_
      refine r_aload_n X dX5_clearFlows_22 rfl ?_
      refine r_gam 20 X wfl_X5_60 dX5_clearFlows_23 (by decide) rfl ?_
      show Rn G κ 26 _ _ _ _ _
      refine r_iload_n X dX5_clearFlows_26 rfl ?_
      refine r_iconst (0) X dX5_clearFlows_27 (by decide) ?_
      refine r_isM _ X rfl (by assumption) dX5_clearFlows_28 (by decide) rfl rfl rfl ?_
      refine r_aload_n X dX5_clearFlows_29 rfl ?_
      refine r_gam 22 X wfl_X5_66 dX5_clearFlows_30 (by decide) rfl ?_
      refine r_iload_n X dX5_clearFlows_33 rfl ?_
      refine r_iconst (0) X dX5_clearFlows_34 (by decide) ?_
      refine r_isM _ X rfl (by assumption) dX5_clearFlows_35 (by decide) rfl rfl rfl ?_
      show Rn G κ 36 _ _ _ _ _
      refine r_aload_n X dX5_clearFlows_36 rfl ?_
      refine r_gam 23 X wfl_X5_69 dX5_clearFlows_37 (by decide) rfl ?_
      refine r_iload_n X dX5_clearFlows_40 rfl ?_
      refine r_iconst (0) X dX5_clearFlows_41 (by decide) ?_
      refine r_isM _ X rfl (by assumption) dX5_clearFlows_42 (by decide) rfl rfl rfl ?_
      refine r_aload_n X dX5_clearFlows_43 rfl ?_
      refine r_gam 24 X wfl_X5_72 dX5_clearFlows_44 (by decide) rfl ?_
      refine r_iload_n X dX5_clearFlows_47 rfl ?_
      show Rn G κ 48 _ _ _ _ _
      refine r_iconst (0) X dX5_clearFlows_48 (by decide) ?_
      refine r_isM _ X rfl (by assumption) dX5_clearFlows_49 (by decide) rfl rfl rfl ?_
      refine r_aload_n X dX5_clearFlows_50 rfl ?_
      refine r_gam 25 X wfl_X5_75 dX5_clearFlows_51 (by decide) rfl ?_
      refine r_iload_n X dX5_clearFlows_54 rfl ?_
      refine r_iconst (0) X dX5_clearFlows_55 (by decide) ?_
      refine r_isM _ X rfl (by assumption) dX5_clearFlows_56 (by decide) rfl rfl rfl ?_
      refine r_iinc_1 (nI (i + 1)) X dX5_clearFlows_57 (nI_1 i) rfl ?_
      show Rn G κ 60 _ _ _ _ _
      refine r_goto 2 X dX5_clearFlows_60 (by decide) ?_
      rw [clN_step]
      exact ih (i + 1) (by omega)
  refine r_iconst (0) X dX5_clearFlows_0 (by decide) ?_
  refine r_istore_1 X dX5_clearFlows_1 rfl ?_
  have h0 := loop 12 0 (by omega)
  rw [clN_0] at h0
  exact h0
set_option maxRecDepth 100000 in
set_option maxHeartbeats 4000000 in
theorem m_board {G : bpG} {C : bpC} {M : bpM} {hl : Int64} {k : Nat} (hI : Inv M k) : Ct G yX5_board cX5_board 2 (some .int) rmX5_board [.ref (G.1 11 0)] C M hl (qMi C hl (fun M' r => M' = (boardS M).1 ∧ r = (boardS M).2)) := by
  have hG := hI.2.2.2.2
  have hrl : rlN M ≤ pl M := by have := fsN_le (fun j => fitB (M 1 j) j) (pl M) 0; unfold rlN; omega
  refine ct_of [some (.ref (G.1 11 0)), none] (by decide +kernel) rfl rfl (Nat.le_of_ble_eq_true rfl) ?_
  intro κ X Z
  have h17 := hG.2
  obtain ⟨n, hn⟩ : ∃ n, n = (pl M + 1) / 3 := ⟨_, rfl⟩
  have hn6 : n ≤ 6 := by omega
  have loop : isBd M = true → ∀ m i : Nat, i + m = 6 → Rn G κ 39 [some (.ref (G.1 11 0)), some (.int (nI i))] [] C (brN (upM M 2 0 (nI n)) n i) hl := by
    intro hbt m
    induction m with
    | zero =>
      intro i hi
      have hi : i = 6 := by omega
      subst hi
      refine r_iload_n X dX5_board_39 rfl ?_
      refine r_bipush (6) X dX5_board_40 (by decide) ?_
      refine r_icmpge 137 X dX5_board_42 (by decide) (fun c42 => ?_) (fun c42 => absurd (by decide) c42)
      show Rn G κ 137 _ _ _ _ _
      refine r_aload_n X dX5_board_137 rfl ?_
      refine r_cv0_M X mdX5_clearFlows wml_X5_81 dX5_board_138 ⟨rfl, rfl, Nat.le_of_ble_eq_true rfl, Nat.le_of_ble_eq_true rfl⟩ (by decide) rfl rfl (Nat.le_of_ble_eq_true rfl) rfl (zroom Z) (m_clearFlows) (fun M2 e2 => ?_)
      subst e2
      show Rn G κ 141 _ _ _ _ _
      refine r_aload_n X dX5_board_141 rfl ?_
      refine r_dup X dX5_board_142 rfl ?_
      show Rn G κ 143 _ _ _ _ _
      refine r_gim 14 X wfl_X5_112 dX5_board_143 (by decide) rfl ?_
      refine r_top (show clF (brN (upM M 2 0 (nI n)) n 6) 14 0 = M 14 0 by unfold clF; rw [upM_ne _ _ _ _ (by omega), upM_ne _ _ _ _ (by omega)]; simp [clN, brN, upM]) ?_
      refine r_iconst (1) X dX5_board_146 (by decide) ?_
      refine r_iadd X dX5_board_147 ?_
      refine r_pim 14 X wfl_X5_112 dX5_board_148 (by decide) rfl rfl (by decide +kernel) ?_
      refine r_aload_n X dX5_board_151 rfl ?_
      refine r_iconst (0) X dX5_board_152 (by decide) ?_
      refine r_pim 0 X wfl_X5_88 dX5_board_153 (by decide) rfl rfl (by decide +kernel) ?_
      rw [br_board]
      refine r_aload_n X dX5_board_156 rfl ?_
      show Rn G κ 157 _ _ _ _ _
      refine r_gim 2 X wfl_X5_105 dX5_board_157 (by decide) rfl ?_
      refine r_iret X Z dX5_board_160 ?_
      have e : boardS M = (boardF M n, nI n) := by unfold boardS; rw [if_pos hbt, hn]
      rw [e]
      exact ⟨rfl, rfl, _, rfl, rfl, bd_2 M n⟩
    | succ m ih =>
      intro i hi
      have h6 : i < 6 := by omega
      have e2 : (brN (upM M 2 0 (nI n)) n i) 2 0 = nI n := by rw [brN_1 _ _ _ (by omega), upM_at]
      have e1 : ∀ x, (brN (upM M 2 0 (nI n)) n i) 1 x = M 1 x := fun x => by rw [brN_1 _ _ _ (by omega), upM_ne _ _ _ _ (by omega)]
      refine r_iload_n X dX5_board_39 rfl ?_
      refine r_bipush (6) X dX5_board_40 (by decide) ?_
      refine r_icmpge 137 X dX5_board_42 (by decide) (fun c42 => absurd c42 (by simp only [i_lt, i_le, i_eq, i_m1, i_0, i_1, i_2, i_3, i_4, i_5, i_6, i_7, i_8, i_9, i_10, i_11, i_12, i_17, i_20, i_24, i_32, i_44, i_48, i_50, i_51, i_52, i_57, i_58, i_100, i_126, i_n (show i < 2 ^ 31 by omega)]; omega)) (fun c42 => ?_)
      show Rn G κ 45 _ _ _ _ _
      refine r_aload_n X dX5_board_45 rfl ?_
      refine r_gam 3 X wfl_X5_13 dX5_board_46 (by decide) rfl ?_
      refine r_iload_n X dX5_board_49 rfl ?_
      refine r_iload_n X dX5_board_50 rfl ?_
      show Rn G κ 51 _ _ _ _ _
      refine r_aload_n X dX5_board_51 rfl ?_
      refine r_gim 2 X wfl_X5_105 dX5_board_52 (by decide) rfl ?_
      refine r_icmpge 72 X dX5_board_55 (by decide) (fun c55 => ?_) (fun c55 => ?_)
      · show Rn G κ 72 _ _ _ _ _
        refine r_iconst (0) X dX5_board_72 (by decide) ?_
        refine r_isM _ X rfl (by assumption) dX5_board_73 (by decide) rfl rfl rfl ?_
        refine r_aload_n X dX5_board_74 rfl ?_
        refine r_gam 4 X wfl_X5_16 dX5_board_75 (by decide) rfl ?_
        refine r_iload_n X dX5_board_78 rfl ?_
        refine r_iload_n X dX5_board_79 rfl ?_
        refine r_aload_n X dX5_board_80 rfl ?_
        show Rn G κ 81 _ _ _ _ _
        refine r_gim 2 X wfl_X5_105 dX5_board_81 (by decide) rfl ?_
        refine r_icmpge 103 X dX5_board_84 (by decide) (fun c84 => ?_) (fun c84 => absurd (by rw [upM_ne _ 3 _ _ (k' := 2) (by omega)]; exact c55) c84)
        show Rn G κ 103 _ _ _ _ _
        refine r_iconst (0) X dX5_board_103 (by decide) ?_
        refine r_isM _ X rfl (by assumption) dX5_board_104 (by decide) rfl rfl rfl ?_
        refine r_aload_n X dX5_board_105 rfl ?_
        refine r_gam 5 X wfl_X5_19 dX5_board_106 (by decide) rfl ?_
        refine r_iload_n X dX5_board_109 rfl ?_
        refine r_iconst (0) X dX5_board_110 (by decide) ?_
        show Rn G κ 111 _ _ _ _ _
        refine r_zsM _ X (by decide) rfl (by assumption) dX5_board_111 (by decide) rfl rfl rfl ?_
        refine r_aload_n X dX5_board_112 rfl ?_
        refine r_gam 17 X wfl_X5_51 dX5_board_113 (by decide) rfl ?_
        refine r_iload_n X dX5_board_116 rfl ?_
        refine r_iconst (0) X dX5_board_117 (by decide) ?_
        refine r_isM _ X rfl (by assumption) dX5_board_118 (by decide) rfl rfl rfl ?_
        refine r_aload_n X dX5_board_119 rfl ?_
        refine r_iload_n X dX5_board_120 rfl ?_
        show Rn G κ 121 _ _ _ _ _
        refine r_cv1_M X mdX5_forget wml_X5_108 dX5_board_121 ⟨rfl, rfl, Nat.le_of_ble_eq_true rfl, Nat.le_of_ble_eq_true rfl⟩ (by decide) rfl rfl (Nat.le_of_ble_eq_true rfl) rfl (zroom Z) (m_forget h6) (fun M2 e3 => ?_)
        subst e3
        show Rn G κ 124 _ _ _ _ _
        refine r_aload_n X dX5_board_124 rfl ?_
        refine r_gam 10 X wfl_X5_35 dX5_board_125 (by decide) rfl ?_
        refine r_iload_n X dX5_board_128 rfl ?_
        refine r_iconst (0) X dX5_board_129 (by decide) ?_
        refine r_isM _ X rfl (by assumption) dX5_board_130 (by decide) rfl rfl rfl ?_
        refine r_iinc_1 (nI (i + 1)) X dX5_board_131 (nI_1 i) rfl ?_
        refine r_goto 39 X dX5_board_134 (by decide) ?_
        have hlt : ¬ i < n := fun z => by rw [e2] at c55; exact nI_ge z (by omega) c55
        have := brN_step (upM M 2 0 (nI n)) n i
        rw [if_neg hlt, if_neg hlt] at this
        rw [this]
        exact ih (i + 1) (by omega)
      · show Rn G κ 58 _ _ _ _ _
        refine r_aload_n X dX5_board_58 rfl ?_
        refine r_gam 1 X wfl_X5_7 dX5_board_59 (by decide) rfl ?_
        refine r_iconst (3) X dX5_board_62 (by decide) ?_
        refine r_iload_n X dX5_board_63 rfl ?_
        refine r_imul X dX5_board_64 ?_
        refine r_iaM (3 * i) X (pk_mul 3 i) (show 3 * i < 17 by omega) dX5_board_65 (by decide) rfl rfl rfl ?_
        refine r_top (e1 _) ?_
        refine r_bipush (48) X dX5_board_66 (by decide) ?_
        show Rn G κ 68 _ _ _ _ _
        refine r_isub X dX5_board_68 ?_
        refine r_goto 73 X dX5_board_69 (by decide) ?_
        refine r_isM _ X rfl (by assumption) dX5_board_73 (by decide) rfl rfl rfl ?_
        refine r_aload_n X dX5_board_74 rfl ?_
        refine r_gam 4 X wfl_X5_16 dX5_board_75 (by decide) rfl ?_
        refine r_iload_n X dX5_board_78 rfl ?_
        refine r_iload_n X dX5_board_79 rfl ?_
        refine r_aload_n X dX5_board_80 rfl ?_
        show Rn G κ 81 _ _ _ _ _
        refine r_gim 2 X wfl_X5_105 dX5_board_81 (by decide) rfl ?_
        refine r_icmpge 103 X dX5_board_84 (by decide) (fun c84 => absurd c84 (by rw [upM_ne _ 3 _ _ (k' := 2) (by omega)]; exact c55)) (fun c84 => ?_)
        show Rn G κ 87 _ _ _ _ _
        refine r_aload_n X dX5_board_87 rfl ?_
        refine r_gam 1 X wfl_X5_7 dX5_board_88 (by decide) rfl ?_
        refine r_iconst (3) X dX5_board_91 (by decide) ?_
        refine r_iload_n X dX5_board_92 rfl ?_
        refine r_imul X dX5_board_93 ?_
        refine r_iconst (1) X dX5_board_94 (by decide) ?_
        show Rn G κ 95 _ _ _ _ _
        refine r_iadd X dX5_board_95 ?_
        refine r_iaM (3 * i + 1) X (show (3 : Int32) * nI i + 1 = nI (3 * i + 1) from by rw [← nI_1, ← pk_mul]; rfl) (show 3 * i + 1 < 17 by omega) dX5_board_96 (by decide) rfl rfl rfl ?_
        refine r_top (show upM (brN (upM M 2 0 (nI n)) n i) 3 i (M 1 (3 * i) - 48) 1 (3 * i + 1) = M 1 (3 * i + 1) by rw [upM_ne _ _ _ _ (by omega)]; exact e1 _) ?_
        refine r_bipush (48) X dX5_board_97 (by decide) ?_
        refine r_isub X dX5_board_99 ?_
        refine r_goto 104 X dX5_board_100 (by decide) ?_
        refine r_isM _ X rfl (by assumption) dX5_board_104 (by decide) rfl rfl rfl ?_
        refine r_aload_n X dX5_board_105 rfl ?_
        refine r_gam 5 X wfl_X5_19 dX5_board_106 (by decide) rfl ?_
        show Rn G κ 109 _ _ _ _ _
        refine r_iload_n X dX5_board_109 rfl ?_
        refine r_iconst (0) X dX5_board_110 (by decide) ?_
        refine r_zsM _ X (by decide) rfl (by assumption) dX5_board_111 (by decide) rfl rfl rfl ?_
        refine r_aload_n X dX5_board_112 rfl ?_
        refine r_gam 17 X wfl_X5_51 dX5_board_113 (by decide) rfl ?_
        refine r_iload_n X dX5_board_116 rfl ?_
        refine r_iconst (0) X dX5_board_117 (by decide) ?_
        refine r_isM _ X rfl (by assumption) dX5_board_118 (by decide) rfl rfl rfl ?_
        show Rn G κ 119 _ _ _ _ _
        refine r_aload_n X dX5_board_119 rfl ?_
        refine r_iload_n X dX5_board_120 rfl ?_
        refine r_cv1_M X mdX5_forget wml_X5_108 dX5_board_121 ⟨rfl, rfl, Nat.le_of_ble_eq_true rfl, Nat.le_of_ble_eq_true rfl⟩ (by decide) rfl rfl (Nat.le_of_ble_eq_true rfl) rfl (zroom Z) (m_forget h6) (fun M2 e3 => ?_)
        subst e3
        show Rn G κ 124 _ _ _ _ _
        refine r_aload_n X dX5_board_124 rfl ?_
        refine r_gam 10 X wfl_X5_35 dX5_board_125 (by decide) rfl ?_
        refine r_iload_n X dX5_board_128 rfl ?_
        refine r_iconst (0) X dX5_board_129 (by decide) ?_
        refine r_isM _ X rfl (by assumption) dX5_board_130 (by decide) rfl rfl rfl ?_
        show Rn G κ 131 _ _ _ _ _
        refine r_iinc_1 (nI (i + 1)) X dX5_board_131 (nI_1 i) rfl ?_
        refine r_goto 39 X dX5_board_134 (by decide) ?_
        have hlt : i < n := by
          rcases Nat.lt_or_ge i n with q | q
          · exact q
          · exact absurd (by rw [e2]; exact nI_le q (by omega)) c55
        have := brN_step (upM M 2 0 (nI n)) n i
        rw [if_pos hlt, if_pos hlt, upM_ne M 2 0 (nI n) (k' := 1) (by omega), upM_ne M 2 0 (nI n) (k' := 1) (by omega)] at this
        rw [this]
        exact ih (i + 1) (by omega)
  refine r_aload_n X dX5_board_0 rfl ?_
  refine r_gim 0 X wfl_X5_88 dX5_board_1 (by decide) rfl ?_
  refine r_iconst (3) X dX5_board_4 (by decide) ?_
  rw [hG.1]
  refine r_irem X dX5_board_5 (by decide) ?_
  refine r_top (rem_n 3 (show pl M < 2 ^ 31 by omega) (by decide) (by decide)) ?_
  refine r_iconst (2) X dX5_board_6 (by decide) ?_
  refine r_icmpne 21 X dX5_board_7 (by decide) (fun c7 => ?_) (fun c7 => ?_)
  · show Rn G κ 21 _ _ _ _ _
    refine r_sipush (-1003) X dX5_board_21 (by decide) ?_
    refine r_iret X Z dX5_board_24 ?_
    have hbf : isBd M = false := by
      unfold isBd
      have : ¬ pl M % 3 = 2 := fun z => c7 (by rw [z]; rfl)
      simp [this]
    have e : boardS M = (M, -1003) := by unfold boardS; rw [if_neg (by rw [hbf]; decide)]
    rw [e]
    exact ⟨rfl, rfl, _, rfl, rfl, rfl⟩
  · show Rn G κ 10 _ _ _ _ _
    refine r_aload_n X dX5_board_10 rfl ?_
    refine r_cv0_I X mdX5_rightLetters wml_X5_95 dX5_board_11 ⟨rfl, rfl, Nat.le_of_ble_eq_true rfl, Nat.le_of_ble_eq_true rfl⟩ (by decide) rfl rfl (Nat.le_of_ble_eq_true rfl) rfl (zroom Z) (m_rightLetters hG) ?_
    show Rn G κ 14 _ _ _ _ _
    refine r_aload_n X dX5_board_14 rfl ?_
    refine r_gim 0 X wfl_X5_88 dX5_board_15 (by decide) rfl ?_
    refine r_icmpge 25 X dX5_board_18 (by decide) (fun c18 => ?_) (fun c18 => ?_)
    · show Rn G κ 25 _ _ _ _ _
      refine r_aload_n X dX5_board_25 rfl ?_
      refine r_aload_n X dX5_board_26 rfl ?_
      refine r_gim 0 X wfl_X5_88 dX5_board_27 (by decide) rfl ?_
      refine r_iconst (1) X dX5_board_30 (by decide) ?_
      refine r_iadd X dX5_board_31 ?_
      refine r_iconst (3) X dX5_board_32 (by decide) ?_
      refine r_idiv X dX5_board_33 (by decide) ?_
      refine r_top (show (M 0 0 + 1) / 3 = nI n by rw [hG.1, nI_1, hn]; exact pk_div (by omega) (by decide) (by decide)) ?_
      show Rn G κ 34 _ _ _ _ _
      refine r_pim 2 X wfl_X5_105 dX5_board_34 (by decide) rfl rfl (by decide +kernel) ?_
      refine r_iconst (0) X dX5_board_37 (by decide) ?_
      refine r_istore_1 X dX5_board_38 rfl ?_
      have hbt : isBd M = true := by
        unfold isBd
        have h1 : pl M % 3 = 2 := nI_inj (by omega) (by decide) c7
        have h2 : rlN M = pl M := by
          have := c18
          rw [hG.1, nI_leI (by omega) (by omega)] at this
          omega
        simp [h1, h2]
      have h0 := loop hbt 6 0 (by omega)
      rw [brN_0] at h0
      exact h0
    · show Rn G κ 21 _ _ _ _ _
      refine r_sipush (-1003) X dX5_board_21 (by decide) ?_
      refine r_iret X Z dX5_board_24 ?_
      have hbf : isBd M = false := by
        unfold isBd
        have : ¬ rlN M = pl M := fun z => c18 (by rw [z, hG.1]; exact Int32.le_refl _)
        simp [this]
      have e : boardS M = (M, -1003) := by unfold boardS; rw [if_neg (by rw [hbf]; decide)]
      rw [e]
      exact ⟨rfl, rfl, _, rfl, rfl, rfl⟩
