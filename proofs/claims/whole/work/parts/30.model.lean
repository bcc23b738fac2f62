theorem shr_bit : ∀ i, i < 6 → ∀ b, b < 64 → (nI b >>> (nI i &&& 31)) &&& (1 : Int32) = bI (b.testBit i) := by decide +kernel
theorem place_le {a : bpM} {p c : Nat} (h : place a p = some c) : c ≤ np a := by
  unfold place at h
  cases hl : lead a (a 3 p) with
  | none => rw [hl] at h; cases h
  | some l =>
    rw [hl] at h
    simp only at h
    split at h
    · cases h; exact ctN_le _ _
    · cases h
theorem or_bit0 (x : Int32) : x ||| 0 = x := Int32.or_zero
theorem kth_ex {P : Nat → Bool} {t : Nat} : ∀ {n : Nat}, t < ctN P n → ∃ p, kth P t n = some p ∧ p < n ∧ P p = true ∧ ctN P p = t ∧ ∀ i, i < p → ¬ (P i = true ∧ ctN P i = t)
  | 0, h => absurd h (Nat.not_lt_zero _)
  | n + 1, h => by
    simp only [kth]
    by_cases ht : t < ctN P n
    · obtain ⟨p, h1, h2, h3, h4, h5⟩ := kth_ex ht
      exact ⟨p, by rw [h1], by omega, h3, h4, h5⟩
    · simp only [ctN] at h
      have hP : P n = true := by
        cases hp : P n with
        | true => rfl
        | false => rw [hp] at h; simp at h; omega
      rw [if_pos hP] at h
      have e : ctN P n = t := by omega
      have hnone : kth P t n = none := by
        cases hk : kth P t n with
        | none => rfl
        | some p =>
          exfalso
          have key : ∀ m, kth P t m = some p → t < ctN P m := by
            intro m
            induction m with
            | zero => intro q; cases q
            | succ m ih =>
              intro q
              simp only [kth] at q
              simp only [ctN]
              cases hm : kth P t m with
              | some r =>
                rw [hm] at q
                cases q
                have := ih hm
                omega
              | none =>
                rw [hm] at q
                simp only at q
                split at q
                · rename_i hh
                  rw [if_pos hh.1]
                  omega
                · cases q
          exact ht (key n hk)
      rw [hnone]
      refine ⟨n, by simp only; rw [if_pos ⟨hP, e⟩], by omega, hP, e, fun i hi hh => ?_⟩
      have mono : ∀ d, ctN P (i + 1) ≤ ctN P (i + 1 + d) := by
        intro d
        induction d with
        | zero => exact Nat.le_refl _
        | succ d ihd =>
          rw [← Nat.add_assoc]
          simp only [ctN] at ihd ⊢
          omega
      have h1 := mono (n - (i + 1))
      rw [show i + 1 + (n - (i + 1)) = n by omega, ctN_t hh.1] at h1
      omega
set_option maxRecDepth 100000 in
set_option maxHeartbeats 4000000 in
theorem m_within {G : bpG} {C : bpC} {M : bpM} {hl : Int64} {v lo hi : Int32} : Ct G yX5_within cX5_within 3 (some .boolean) rmX5_within [.int v, .int lo, .int hi] C M hl (qI C M hl (bI (decide (lo ≤ v) && decide (v ≤ hi)))) := by
  refine ct_of [some (.int v), some (.int lo), some (.int hi)] (by decide +kernel) rfl rfl (Nat.le_of_ble_eq_true rfl) ?_
  intro κ X Z
  refine r_iload_n X dX5_within_0 rfl ?_
  refine r_iload_n X dX5_within_1 rfl ?_
  refine r_icmplt 14 X dX5_within_2 (by decide) (fun c2 => ?_) (fun c2 => ?_)
  · show Rn G κ 14 _ _ _ _ _
    refine r_iconst (0) X dX5_within_14 (by decide) ?_
    refine r_zret X Z dX5_within_15 (by decide) ?_
    refine ⟨rfl, rfl, rfl, ret_i ?_⟩
    simp only [i_lt, i_le, i_eq, i_m1, i_0, i_1, i_2, i_3, i_4, i_5, i_6, i_7, i_8, i_9, i_10, i_11, i_12, i_17, i_20, i_24, i_32, i_44, i_48, i_50, i_51, i_52, i_57, i_58, i_100, i_126] at c2
    first | refine bI_f ?_ | refine bI_t ?_
    simp only [Bool.and_eq_true, Bool.or_eq_true, decide_eq_true_eq, Bool.and_eq_false_iff, Bool.or_eq_false_iff, decide_eq_false_iff_not, Bool.not_eq_true', Bool.not_eq_false', i_lt, i_le, i_eq, i_m1, i_0, i_1, i_2, i_3, i_4, i_5, i_6, i_7, i_8, i_9, i_10, i_11, i_12, i_17, i_20, i_24, i_32, i_44, i_48, i_50, i_51, i_52, i_57, i_58, i_100, i_126]
    omega
  · show Rn G κ 5 _ _ _ _ _
    refine r_iload_n X dX5_within_5 rfl ?_
    refine r_iload_n X dX5_within_6 rfl ?_
    refine r_icmpgt 14 X dX5_within_7 (by decide) (fun c7 => ?_) (fun c7 => ?_)
    · show Rn G κ 14 _ _ _ _ _
      refine r_iconst (0) X dX5_within_14 (by decide) ?_
      refine r_zret X Z dX5_within_15 (by decide) ?_
      refine ⟨rfl, rfl, rfl, ret_i ?_⟩
      simp only [i_lt, i_le, i_eq, i_m1, i_0, i_1, i_2, i_3, i_4, i_5, i_6, i_7, i_8, i_9, i_10, i_11, i_12, i_17, i_20, i_24, i_32, i_44, i_48, i_50, i_51, i_52, i_57, i_58, i_100, i_126] at c2 c7
      first | refine bI_f ?_ | refine bI_t ?_
      simp only [Bool.and_eq_true, Bool.or_eq_true, decide_eq_true_eq, Bool.and_eq_false_iff, Bool.or_eq_false_iff, decide_eq_false_iff_not, Bool.not_eq_true', Bool.not_eq_false', i_lt, i_le, i_eq, i_m1, i_0, i_1, i_2, i_3, i_4, i_5, i_6, i_7, i_8, i_9, i_10, i_11, i_12, i_17, i_20, i_24, i_32, i_44, i_48, i_50, i_51, i_52, i_57, i_58, i_100, i_126]
      omega
    · show Rn G κ 10 _ _ _ _ _
      refine r_iconst (1) X dX5_within_10 (by decide) ?_
      refine r_goto 15 X dX5_within_11 (by decide) ?_
      refine r_zret X Z dX5_within_15 (by decide) ?_
      refine ⟨rfl, rfl, rfl, ret_i ?_⟩
      simp only [i_lt, i_le, i_eq, i_m1, i_0, i_1, i_2, i_3, i_4, i_5, i_6, i_7, i_8, i_9, i_10, i_11, i_12, i_17, i_20, i_24, i_32, i_44, i_48, i_50, i_51, i_52, i_57, i_58, i_100, i_126] at c2 c7
      first | refine bI_f ?_ | refine bI_t ?_
      simp only [Bool.and_eq_true, Bool.or_eq_true, decide_eq_true_eq, Bool.and_eq_false_iff, Bool.or_eq_false_iff, decide_eq_false_iff_not, Bool.not_eq_true', Bool.not_eq_false', i_lt, i_le, i_eq, i_m1, i_0, i_1, i_2, i_3, i_4, i_5, i_6, i_7, i_8, i_9, i_10, i_11, i_12, i_17, i_20, i_24, i_32, i_44, i_48, i_50, i_51, i_52, i_57, i_58, i_100, i_126]
      omega
set_option maxRecDepth 100000 in
set_option maxHeartbeats 4000000 in
theorem m_isRight {G : bpG} {C : bpC} {M : bpM} {hl : Int64} {j : Nat} (hj : j < 17) : Ct G yX5_isRight cX5_isRight 3 (some .boolean) rmX5_isRight [.ref (G.1 11 0), .int (nI j)] C M hl (qI C M hl (bI (fitB (M 1 j) j))) := by
  refine ct_of [some (.ref (G.1 11 0)), some (.int (nI j)), none] (by decide +kernel) rfl rfl (Nat.le_of_ble_eq_true rfl) ?_
  intro κ X Z
  refine r_aload_n X dX5_isRight_0 rfl ?_
  refine r_gam 1 X wfl_X5_7 dX5_isRight_1 (by decide) rfl ?_
  refine r_iload_n X dX5_isRight_4 rfl ?_
  refine r_iaM _ X rfl (by assumption) dX5_isRight_5 (by decide) rfl rfl rfl ?_
  refine r_istore_2 X dX5_isRight_6 rfl ?_
  refine r_iload_n X dX5_isRight_7 rfl ?_
  refine r_iconst (3) X dX5_isRight_8 (by decide) ?_
  show Rn G κ 9 _ _ _ _ _
  refine r_irem X dX5_isRight_9 (by decide) ?_
  refine r_top (rem_n 3 (show j < 2 ^ 31 by omega) (by decide) (by decide)) ?_
  refine r_ifne 24 X dX5_isRight_10 (by decide) (fun c10 => ?_) (fun c10 => ?_)
  · show Rn G κ 24 _ _ _ _ _
    refine r_iload_n X dX5_isRight_24 rfl ?_
    refine r_iconst (3) X dX5_isRight_25 (by decide) ?_
    refine r_irem X dX5_isRight_26 (by decide) ?_
    refine r_top (rem_n 3 (show j < 2 ^ 31 by omega) (by decide) (by decide)) ?_
    refine r_iconst (1) X dX5_isRight_27 (by decide) ?_
    refine r_icmpne 42 X dX5_isRight_28 (by decide) (fun c28 => ?_) (fun c28 => ?_)
    · show Rn G κ 42 _ _ _ _ _
      refine r_iload_n X dX5_isRight_42 rfl ?_
      refine r_bipush (44) X dX5_isRight_43 (by decide) ?_
      refine r_icmpne 52 X dX5_isRight_45 (by decide) (fun c45 => ?_) (fun c45 => ?_)
      · show Rn G κ 52 _ _ _ _ _
        refine r_iconst (0) X dX5_isRight_52 (by decide) ?_
        refine r_zret X Z dX5_isRight_53 (by first | exact bI_01 _ | decide) ?_
        refine ⟨rfl, rfl, rfl, ret_i ?_⟩
        have h0 : ¬ j % 3 = 0 := fun z => c10 (by rw [z]; rfl)
        have h1 : ¬ j % 3 = 1 := fun z => c28 (by rw [z]; rfl)
        unfold fitB
        rw [if_neg h0, if_neg h1]
        simp [bI, c45]
      · show Rn G κ 48 _ _ _ _ _
        refine r_iconst (1) X dX5_isRight_48 (by decide) ?_
        refine r_goto 53 X dX5_isRight_49 (by decide) ?_
        refine r_zret X Z dX5_isRight_53 (by first | exact bI_01 _ | decide) ?_
        refine ⟨rfl, rfl, rfl, ret_i ?_⟩
        have h0 : ¬ j % 3 = 0 := fun z => c10 (by rw [z]; rfl)
        have h1 : ¬ j % 3 = 1 := fun z => c28 (by rw [z]; rfl)
        unfold fitB
        rw [if_neg h0, if_neg h1]
        simp [bI, c45]
    · show Rn G κ 31 _ _ _ _ _
      refine r_iload_n X dX5_isRight_31 rfl ?_
      refine r_bipush (48) X dX5_isRight_32 (by decide) ?_
      refine r_bipush (57) X dX5_isRight_34 (by decide) ?_
      refine r_cs3_I X mdX5_within wml_X5_84 dX5_isRight_36 ⟨rfl, rfl, Nat.le_of_ble_eq_true rfl, Nat.le_of_ble_eq_true rfl⟩ (Nat.le_of_ble_eq_true rfl) rfl (zroom Z) (m_within) ?_
      show Rn G κ 39 _ _ _ _ _
      refine r_goto 53 X dX5_isRight_39 (by decide) ?_
      refine r_zret X Z dX5_isRight_53 (by first | exact bI_01 _ | decide) ?_
      refine ⟨rfl, rfl, rfl, ret_i ?_⟩
      have h0 : ¬ j % 3 = 0 := fun z => c10 (by rw [z]; rfl)
      have h1 : j % 3 = 1 := nI_inj (by omega) (by decide) c28
      unfold fitB
      rw [if_neg h0, if_pos h1]
  · show Rn G κ 13 _ _ _ _ _
    refine r_iload_n X dX5_isRight_13 rfl ?_
    refine r_bipush (48) X dX5_isRight_14 (by decide) ?_
    refine r_bipush (51) X dX5_isRight_16 (by decide) ?_
    refine r_cs3_I X mdX5_within wml_X5_84 dX5_isRight_18 ⟨rfl, rfl, Nat.le_of_ble_eq_true rfl, Nat.le_of_ble_eq_true rfl⟩ (Nat.le_of_ble_eq_true rfl) rfl (zroom Z) (m_within) ?_
    show Rn G κ 21 _ _ _ _ _
    refine r_goto 53 X dX5_isRight_21 (by decide) ?_
    refine r_zret X Z dX5_isRight_53 (by first | exact bI_01 _ | decide) ?_
    refine ⟨rfl, rfl, rfl, ret_i ?_⟩
    have h0 : j % 3 = 0 := nI_inj (by omega) (by decide) c10
    unfold fitB
    rw [if_pos h0]
    congr 2
    rw [decide_eq_decide, i_le, i_lt, i_51, i_52]
    omega
set_option maxRecDepth 100000 in
set_option maxHeartbeats 4000000 in
theorem m_rightLetters {G : bpG} {C : bpC} {M : bpM} {hl : Int64} (hG : IG M) : Ct G yX5_rightLetters cX5_rightLetters 2 (some .int) rmX5_rightLetters [.ref (G.1 11 0)] C M hl (qI C M hl (nI (rlN M))) := by
  obtain ⟨r, hr⟩ : ∃ r : Int32, nI (rlN M) = r := ⟨_, rfl⟩
  rw [hr]
  refine ct_of [some (.ref (G.1 11 0)), none] (by decide +kernel) rfl rfl (Nat.le_of_ble_eq_true rfl) ?_
  intro κ X Z
  have h17 := hG.2
  have loop : ∀ n i : Nat, i + n = pl M → nI (fsN (fun j => fitB (M 1 j) j) i n) = r → Rn G κ 2 [some (.ref (G.1 11 0)), some (.int (nI i))] [] C M hl := by
    intro n
    induction n with
    | zero =>
      intro i hi he
      have hi : i = pl M := by omega
      subst hi
      refine r_iload_n X dX5_rightLetters_2 rfl ?_
      refine r_aload_n X dX5_rightLetters_3 rfl ?_
      refine r_gim 0 X wfl_X5_88 dX5_rightLetters_4 (by decide) rfl ?_
      refine r_icmpge 24 X dX5_rightLetters_7 (by decide) (fun c7 => ?_) (fun c7 => absurd (by rw [hG.1]; exact Int32.le_refl _) c7)
      show Rn G κ 24 _ _ _ _ _
      refine r_iload_n X dX5_rightLetters_24 rfl ?_
      refine r_iret X Z dX5_rightLetters_25 ?_
      refine ⟨rfl, rfl, rfl, ret_i ?_⟩
      exact he
    | succ n ih =>
      intro i hi he
      have hj : i < 17 := by omega
      refine r_iload_n X dX5_rightLetters_2 rfl ?_
      refine r_aload_n X dX5_rightLetters_3 rfl ?_
      refine r_gim 0 X wfl_X5_88 dX5_rightLetters_4 (by decide) rfl ?_
      refine r_icmpge 24 X dX5_rightLetters_7 (by decide) (fun c7 => absurd c7 (by rw [hG.1]; simp only [i_lt, i_le, i_eq, i_m1, i_0, i_1, i_2, i_3, i_4, i_5, i_6, i_7, i_8, i_9, i_10, i_11, i_12, i_17, i_20, i_24, i_32, i_44, i_48, i_50, i_51, i_52, i_57, i_58, i_100, i_126, i_n (show pl M < 2 ^ 31 by omega), i_n (show i < 2 ^ 31 by omega)]; omega)) (fun c7 => ?_)
      show Rn G κ 10 _ _ _ _ _
      refine r_aload_n X dX5_rightLetters_10 rfl ?_
      refine r_iload_n X dX5_rightLetters_11 rfl ?_
      refine r_cv1_I X mdX5_isRight wml_X5_91 dX5_rightLetters_12 ⟨rfl, rfl, Nat.le_of_ble_eq_true rfl, Nat.le_of_ble_eq_true rfl⟩ (by decide) rfl rfl (Nat.le_of_ble_eq_true rfl) rfl (zroom Z) (m_isRight hj) ?_
      show Rn G κ 15 _ _ _ _ _
      show Rn G κ 15 _ _ _ _ _
      refine r_ifeq 24 X dX5_rightLetters_15 (by decide) (fun c15 => ?_) (fun c15 => ?_)
      · show Rn G κ 24 _ _ _ _ _
        refine r_iload_n X dX5_rightLetters_24 rfl ?_
        refine r_iret X Z dX5_rightLetters_25 ?_
        refine ⟨rfl, rfl, rfl, ret_i ?_⟩
        rw [← he]
        simp only [fsN]
        rw [if_neg (by rw [bI_0 c15]; decide)]
      · show Rn G κ 18 _ _ _ _ _
        refine r_iinc_1 (nI (i + 1)) X dX5_rightLetters_18 (nI_1 i) rfl ?_
        refine r_goto 2 X dX5_rightLetters_21 (by decide) ?_
        refine ih (i + 1) (by omega) ?_
        rw [← he]
        simp only [fsN]
        rw [if_pos (bI_1 c15)]
  refine r_iconst (0) X dX5_rightLetters_0 (by decide) ?_
  refine r_istore_1 X dX5_rightLetters_1 rfl ?_
  exact loop (pl M) 0 (by omega) hr
set_option maxRecDepth 100000 in
set_option maxHeartbeats 4000000 in
theorem m_fault {G : bpG} {C : bpC} {M : bpM} {hl : Int64} (hG : IG M) : Ct G yX5_fault cX5_fault 1 (some .int) rmX5_fault [.ref (G.1 11 0)] C M hl (qI C M hl (nI (rlN M))) := by
  refine ct_of [some (.ref (G.1 11 0))] (by decide +kernel) rfl rfl (Nat.le_of_ble_eq_true rfl) ?_
  intro κ X Z
  refine r_aload_n X dX5_fault_0 rfl ?_
  refine r_cv0_I X mdX5_rightLetters wml_X5_95 dX5_fault_1 ⟨rfl, rfl, Nat.le_of_ble_eq_true rfl, Nat.le_of_ble_eq_true rfl⟩ (by decide) rfl rfl (Nat.le_of_ble_eq_true rfl) rfl (zroom Z) (m_rightLetters hG) ?_
  show Rn G κ 4 _ _ _ _ _
  refine r_iret X Z dX5_fault_4 ?_
  exact ⟨rfl, rfl, rfl, rfl⟩
set_option maxRecDepth 100000 in
set_option maxHeartbeats 4000000 in
theorem m_isPort {G : bpG} {C : bpC} {M : bpM} {hl : Int64} {x : Int32} (hB : Bas M) : Ct G yX5_isPort cX5_isPort 2 (some .boolean) rmX5_isPort [.ref (G.1 11 0), .int x] C M hl (qI C M hl (bI (isP M x))) := by
  refine ct_of [some (.ref (G.1 11 0)), some (.int x)] (by decide +kernel) rfl rfl (Nat.le_of_ble_eq_true rfl) ?_
  intro κ X Z
  refine r_iload_n X dX5_isPort_0 rfl ?_
  refine r_iconst (0) X dX5_isPort_1 (by decide) ?_
  refine r_aload_n X dX5_isPort_2 rfl ?_
  refine r_gim 2 X wfl_X5_105 dX5_isPort_3 (by decide) rfl ?_
  refine r_iconst (1) X dX5_isPort_6 (by decide) ?_
  refine r_isub X dX5_isPort_7 ?_
  refine r_cs3_I X mdX5_within wml_X5_84 dX5_isPort_8 ⟨rfl, rfl, Nat.le_of_ble_eq_true rfl, Nat.le_of_ble_eq_true rfl⟩ (Nat.le_of_ble_eq_true rfl) rfl (zroom Z) (m_within) ?_
  show Rn G κ 11 _ _ _ _ _
  show Rn G κ 11 _ _ _ _ _
  refine r_zret X Z dX5_isPort_11 (bI_01 _) ?_
  refine ⟨rfl, rfl, rfl, ret_i ?_⟩
  unfold isP
  congr 2
  rw [decide_eq_decide]
  have h6 := hB.2.1
  rw [i_le, i_lt, hB.1]
  rw [show nI (np M) - 1 = nI (np M) - nI 1 from rfl, pk_sub_toInt (by omega) (by decide), i_n (by omega)]
  omega
set_option maxRecDepth 100000 in
set_option maxHeartbeats 4000000 in
theorem m_isFlow {G : bpG} {C : bpC} {M : bpM} {hl : Int64} {x : Int32} : Ct G yX5_isFlow cX5_isFlow 1 (some .boolean) rmX5_isFlow [.int x] C M hl (qI C M hl (bI (isF x))) := by
  refine ct_of [some (.int x)] (by decide +kernel) rfl rfl (Nat.le_of_ble_eq_true rfl) ?_
  intro κ X Z
  refine r_iload_n X dX5_isFlow_0 rfl ?_
  refine r_iconst (0) X dX5_isFlow_1 (by decide) ?_
  refine r_bipush (11) X dX5_isFlow_2 (by decide) ?_
  refine r_cs3_I X mdX5_within wml_X5_84 dX5_isFlow_4 ⟨rfl, rfl, Nat.le_of_ble_eq_true rfl, Nat.le_of_ble_eq_true rfl⟩ (Nat.le_of_ble_eq_true rfl) rfl (zroom Z) (m_within) ?_
  show Rn G κ 7 _ _ _ _ _
  refine r_zret X Z dX5_isFlow_7 (bI_01 _) ?_
  refine ⟨rfl, rfl, rfl, ret_i ?_⟩
  unfold isF
  congr 2
  rw [decide_eq_decide, i_le, i_lt, i_11, i_12]
  omega
set_option maxRecDepth 100000 in
set_option maxHeartbeats 4000000 in
theorem m_isAhead {G : bpG} {C : bpC} {M : bpM} {hl : Int64} {p q : Nat} (hp : p < 6) (hq : q < 6) : Ct G yX5_isAhead cX5_isAhead 3 (some .boolean) rmX5_isAhead [.ref (G.1 11 0), .int (nI p), .int (nI q)] C M hl (qI C M hl (bI (ahd M p q))) := by
  refine ct_of [some (.ref (G.1 11 0)), some (.int (nI p)), some (.int (nI q))] (by decide +kernel) rfl rfl (Nat.le_of_ble_eq_true rfl) ?_
  intro κ X Z
  refine r_aload_n X dX5_isAhead_0 rfl ?_
  refine r_gam 4 X wfl_X5_16 dX5_isAhead_1 (by decide) rfl ?_
  refine r_iload_n X dX5_isAhead_4 rfl ?_
  refine r_iaM _ X rfl (by assumption) dX5_isAhead_5 (by decide) rfl rfl rfl ?_
  refine r_aload_n X dX5_isAhead_6 rfl ?_
  refine r_gam 4 X wfl_X5_16 dX5_isAhead_7 (by decide) rfl ?_
  refine r_iload_n X dX5_isAhead_10 rfl ?_
  show Rn G κ 11 _ _ _ _ _
  refine r_iaM _ X rfl (by assumption) dX5_isAhead_11 (by decide) rfl rfl rfl ?_
  refine r_icmplt 35 X dX5_isAhead_12 (by decide) (fun c12 => ?_) (fun c12 => ?_)
  · show Rn G κ 35 _ _ _ _ _
    refine r_iconst (1) X dX5_isAhead_35 (by decide) ?_
    refine r_goto 40 X dX5_isAhead_36 (by decide) ?_
    refine r_zret X Z dX5_isAhead_40 (by decide) ?_
    refine ⟨rfl, rfl, rfl, ret_i ?_⟩
    simp only [i_lt, i_le, i_eq, i_m1, i_0, i_1, i_2, i_3, i_4, i_5, i_6, i_7, i_8, i_9, i_10, i_11, i_12, i_17, i_20, i_24, i_32, i_44, i_48, i_50, i_51, i_52, i_57, i_58, i_100, i_126] at c12
    try simp only [i_n (show p < 2 ^ 31 by omega), i_n (show q < 2 ^ 31 by omega)] at c12
    first | refine bI_f ?_ | refine bI_t ?_
    simp only [ahd, Bool.and_eq_true, Bool.or_eq_true, decide_eq_true_eq, Bool.and_eq_false_iff, Bool.or_eq_false_iff, decide_eq_false_iff_not, Bool.not_eq_true', Bool.not_eq_false', i_lt, i_le, i_eq, i_m1, i_0, i_1, i_2, i_3, i_4, i_5, i_6, i_7, i_8, i_9, i_10, i_11, i_12, i_17, i_20, i_24, i_32, i_44, i_48, i_50, i_51, i_52, i_57, i_58, i_100, i_126]
    omega
  · show Rn G κ 15 _ _ _ _ _
    refine r_aload_n X dX5_isAhead_15 rfl ?_
    refine r_gam 4 X wfl_X5_16 dX5_isAhead_16 (by decide) rfl ?_
    refine r_iload_n X dX5_isAhead_19 rfl ?_
    refine r_iaM _ X rfl (by assumption) dX5_isAhead_20 (by decide) rfl rfl rfl ?_
    refine r_aload_n X dX5_isAhead_21 rfl ?_
    refine r_gam 4 X wfl_X5_16 dX5_isAhead_22 (by decide) rfl ?_
    refine r_iload_n X dX5_isAhead_25 rfl ?_
    show Rn G κ 26 _ _ _ _ _
    refine r_iaM _ X rfl (by assumption) dX5_isAhead_26 (by decide) rfl rfl rfl ?_
    refine r_icmpne 39 X dX5_isAhead_27 (by decide) (fun c27 => ?_) (fun c27 => ?_)
    · show Rn G κ 39 _ _ _ _ _
      refine r_iconst (0) X dX5_isAhead_39 (by decide) ?_
      refine r_zret X Z dX5_isAhead_40 (by decide) ?_
      refine ⟨rfl, rfl, rfl, ret_i ?_⟩
      simp only [i_lt, i_le, i_eq, i_m1, i_0, i_1, i_2, i_3, i_4, i_5, i_6, i_7, i_8, i_9, i_10, i_11, i_12, i_17, i_20, i_24, i_32, i_44, i_48, i_50, i_51, i_52, i_57, i_58, i_100, i_126] at c12 c27
      try simp only [i_n (show p < 2 ^ 31 by omega), i_n (show q < 2 ^ 31 by omega)] at c12 c27
      first | refine bI_f ?_ | refine bI_t ?_
      simp only [ahd, Bool.and_eq_true, Bool.or_eq_true, decide_eq_true_eq, Bool.and_eq_false_iff, Bool.or_eq_false_iff, decide_eq_false_iff_not, Bool.not_eq_true', Bool.not_eq_false', i_lt, i_le, i_eq, i_m1, i_0, i_1, i_2, i_3, i_4, i_5, i_6, i_7, i_8, i_9, i_10, i_11, i_12, i_17, i_20, i_24, i_32, i_44, i_48, i_50, i_51, i_52, i_57, i_58, i_100, i_126]
      omega
    · show Rn G κ 30 _ _ _ _ _
      refine r_iload_n X dX5_isAhead_30 rfl ?_
      refine r_iload_n X dX5_isAhead_31 rfl ?_
      refine r_icmpge 39 X dX5_isAhead_32 (by decide) (fun c32 => ?_) (fun c32 => ?_)
      · show Rn G κ 39 _ _ _ _ _
        refine r_iconst (0) X dX5_isAhead_39 (by decide) ?_
        refine r_zret X Z dX5_isAhead_40 (by decide) ?_
        refine ⟨rfl, rfl, rfl, ret_i ?_⟩
        simp only [i_lt, i_le, i_eq, i_m1, i_0, i_1, i_2, i_3, i_4, i_5, i_6, i_7, i_8, i_9, i_10, i_11, i_12, i_17, i_20, i_24, i_32, i_44, i_48, i_50, i_51, i_52, i_57, i_58, i_100, i_126] at c12 c27 c32
        try simp only [i_n (show p < 2 ^ 31 by omega), i_n (show q < 2 ^ 31 by omega)] at c12 c27 c32
        first | refine bI_f ?_ | refine bI_t ?_
        simp only [ahd, Bool.and_eq_true, Bool.or_eq_true, decide_eq_true_eq, Bool.and_eq_false_iff, Bool.or_eq_false_iff, decide_eq_false_iff_not, Bool.not_eq_true', Bool.not_eq_false', i_lt, i_le, i_eq, i_m1, i_0, i_1, i_2, i_3, i_4, i_5, i_6, i_7, i_8, i_9, i_10, i_11, i_12, i_17, i_20, i_24, i_32, i_44, i_48, i_50, i_51, i_52, i_57, i_58, i_100, i_126]
        omega
      · show Rn G κ 35 _ _ _ _ _
        refine r_iconst (1) X dX5_isAhead_35 (by decide) ?_
        refine r_goto 40 X dX5_isAhead_36 (by decide) ?_
        refine r_zret X Z dX5_isAhead_40 (by decide) ?_
        refine ⟨rfl, rfl, rfl, ret_i ?_⟩
        simp only [i_lt, i_le, i_eq, i_m1, i_0, i_1, i_2, i_3, i_4, i_5, i_6, i_7, i_8, i_9, i_10, i_11, i_12, i_17, i_20, i_24, i_32, i_44, i_48, i_50, i_51, i_52, i_57, i_58, i_100, i_126] at c12 c27 c32
        try simp only [i_n (show p < 2 ^ 31 by omega), i_n (show q < 2 ^ 31 by omega)] at c12 c27 c32
        first | refine bI_f ?_ | refine bI_t ?_
        simp only [ahd, Bool.and_eq_true, Bool.or_eq_true, decide_eq_true_eq, Bool.and_eq_false_iff, Bool.or_eq_false_iff, decide_eq_false_iff_not, Bool.not_eq_true', Bool.not_eq_false', i_lt, i_le, i_eq, i_m1, i_0, i_1, i_2, i_3, i_4, i_5, i_6, i_7, i_8, i_9, i_10, i_11, i_12, i_17, i_20, i_24, i_32, i_44, i_48, i_50, i_51, i_52, i_57, i_58, i_100, i_126]
        omega
set_option maxRecDepth 100000 in
set_option maxHeartbeats 4000000 in
theorem m_areAlike {G : bpG} {C : bpC} {M : bpM} {hl : Int64} {p q : Nat} (hp : p < 6) (hq : q < 6) : Ct G yX5_areAlike cX5_areAlike 3 (some .boolean) rmX5_areAlike [.ref (G.1 11 0), .int (nI p), .int (nI q)] C M hl (qI C M hl (bI (alk M p q))) := by
  refine ct_of [some (.ref (G.1 11 0)), some (.int (nI p)), some (.int (nI q))] (by decide +kernel) rfl rfl (Nat.le_of_ble_eq_true rfl) ?_
  intro κ X Z
  refine r_aload_n X dX5_areAlike_0 rfl ?_
  refine r_gam 6 X wfl_X5_23 dX5_areAlike_1 (by decide) rfl ?_
  refine r_iload_n X dX5_areAlike_4 rfl ?_
  refine r_iaM _ X rfl (by assumption) dX5_areAlike_5 (by decide) rfl rfl rfl ?_
  refine r_ifle 58 X dX5_areAlike_6 (by decide) (fun c6 => ?_) (fun c6 => ?_)
  · show Rn G κ 58 _ _ _ _ _
    refine r_iconst (0) X dX5_areAlike_58 (by decide) ?_
    refine r_zret X Z dX5_areAlike_59 (by decide) ?_
    refine ⟨rfl, rfl, rfl, ret_i ?_⟩
    simp only [i_lt, i_le, i_eq, i_m1, i_0, i_1, i_2, i_3, i_4, i_5, i_6, i_7, i_8, i_9, i_10, i_11, i_12, i_17, i_20, i_24, i_32, i_44, i_48, i_50, i_51, i_52, i_57, i_58, i_100, i_126] at c6
    first | refine bI_f ?_ | refine bI_t ?_
    simp only [alk, Bool.and_eq_true, Bool.or_eq_true, decide_eq_true_eq, Bool.and_eq_false_iff, Bool.or_eq_false_iff, decide_eq_false_iff_not, Bool.not_eq_true', Bool.not_eq_false', i_lt, i_le, i_eq, i_m1, i_0, i_1, i_2, i_3, i_4, i_5, i_6, i_7, i_8, i_9, i_10, i_11, i_12, i_17, i_20, i_24, i_32, i_44, i_48, i_50, i_51, i_52, i_57, i_58, i_100, i_126]
    omega
  · show Rn G κ 9 _ _ _ _ _
    refine r_aload_n X dX5_areAlike_9 rfl ?_
    refine r_gam 3 X wfl_X5_13 dX5_areAlike_10 (by decide) rfl ?_
    refine r_iload_n X dX5_areAlike_13 rfl ?_
    refine r_iaM _ X rfl (by assumption) dX5_areAlike_14 (by decide) rfl rfl rfl ?_
    refine r_aload_n X dX5_areAlike_15 rfl ?_
    refine r_gam 3 X wfl_X5_13 dX5_areAlike_16 (by decide) rfl ?_
    refine r_iload_n X dX5_areAlike_19 rfl ?_
    show Rn G κ 20 _ _ _ _ _
    refine r_iaM _ X rfl (by assumption) dX5_areAlike_20 (by decide) rfl rfl rfl ?_
    refine r_icmpne 58 X dX5_areAlike_21 (by decide) (fun c21 => ?_) (fun c21 => ?_)
    · show Rn G κ 58 _ _ _ _ _
      refine r_iconst (0) X dX5_areAlike_58 (by decide) ?_
      refine r_zret X Z dX5_areAlike_59 (by decide) ?_
      refine ⟨rfl, rfl, rfl, ret_i ?_⟩
      simp only [i_lt, i_le, i_eq, i_m1, i_0, i_1, i_2, i_3, i_4, i_5, i_6, i_7, i_8, i_9, i_10, i_11, i_12, i_17, i_20, i_24, i_32, i_44, i_48, i_50, i_51, i_52, i_57, i_58, i_100, i_126] at c6 c21
      first | refine bI_f ?_ | refine bI_t ?_
      simp only [alk, Bool.and_eq_true, Bool.or_eq_true, decide_eq_true_eq, Bool.and_eq_false_iff, Bool.or_eq_false_iff, decide_eq_false_iff_not, Bool.not_eq_true', Bool.not_eq_false', i_lt, i_le, i_eq, i_m1, i_0, i_1, i_2, i_3, i_4, i_5, i_6, i_7, i_8, i_9, i_10, i_11, i_12, i_17, i_20, i_24, i_32, i_44, i_48, i_50, i_51, i_52, i_57, i_58, i_100, i_126]
      omega
    · show Rn G κ 24 _ _ _ _ _
      refine r_aload_n X dX5_areAlike_24 rfl ?_
      refine r_gam 6 X wfl_X5_23 dX5_areAlike_25 (by decide) rfl ?_
      refine r_iload_n X dX5_areAlike_28 rfl ?_
      refine r_iaM _ X rfl (by assumption) dX5_areAlike_29 (by decide) rfl rfl rfl ?_
      refine r_aload_n X dX5_areAlike_30 rfl ?_
      refine r_gam 6 X wfl_X5_23 dX5_areAlike_31 (by decide) rfl ?_
      refine r_iload_n X dX5_areAlike_34 rfl ?_
      show Rn G κ 35 _ _ _ _ _
      refine r_iaM _ X rfl (by assumption) dX5_areAlike_35 (by decide) rfl rfl rfl ?_
      refine r_icmpne 58 X dX5_areAlike_36 (by decide) (fun c36 => ?_) (fun c36 => ?_)
      · show Rn G κ 58 _ _ _ _ _
        refine r_iconst (0) X dX5_areAlike_58 (by decide) ?_
        refine r_zret X Z dX5_areAlike_59 (by decide) ?_
        refine ⟨rfl, rfl, rfl, ret_i ?_⟩
        simp only [i_lt, i_le, i_eq, i_m1, i_0, i_1, i_2, i_3, i_4, i_5, i_6, i_7, i_8, i_9, i_10, i_11, i_12, i_17, i_20, i_24, i_32, i_44, i_48, i_50, i_51, i_52, i_57, i_58, i_100, i_126] at c6 c21 c36
        first | refine bI_f ?_ | refine bI_t ?_
        simp only [alk, Bool.and_eq_true, Bool.or_eq_true, decide_eq_true_eq, Bool.and_eq_false_iff, Bool.or_eq_false_iff, decide_eq_false_iff_not, Bool.not_eq_true', Bool.not_eq_false', i_lt, i_le, i_eq, i_m1, i_0, i_1, i_2, i_3, i_4, i_5, i_6, i_7, i_8, i_9, i_10, i_11, i_12, i_17, i_20, i_24, i_32, i_44, i_48, i_50, i_51, i_52, i_57, i_58, i_100, i_126]
        omega
      · show Rn G κ 39 _ _ _ _ _
        refine r_aload_n X dX5_areAlike_39 rfl ?_
        refine r_gam 7 X wfl_X5_26 dX5_areAlike_40 (by decide) rfl ?_
        refine r_iload_n X dX5_areAlike_43 rfl ?_
        refine r_iaM _ X rfl (by assumption) dX5_areAlike_44 (by decide) rfl rfl rfl ?_
        refine r_aload_n X dX5_areAlike_45 rfl ?_
        refine r_gam 7 X wfl_X5_26 dX5_areAlike_46 (by decide) rfl ?_
        refine r_iload_n X dX5_areAlike_49 rfl ?_
        show Rn G κ 50 _ _ _ _ _
        refine r_iaM _ X rfl (by assumption) dX5_areAlike_50 (by decide) rfl rfl rfl ?_
        refine r_icmpne 58 X dX5_areAlike_51 (by decide) (fun c51 => ?_) (fun c51 => ?_)
        · show Rn G κ 58 _ _ _ _ _
          refine r_iconst (0) X dX5_areAlike_58 (by decide) ?_
          refine r_zret X Z dX5_areAlike_59 (by decide) ?_
          refine ⟨rfl, rfl, rfl, ret_i ?_⟩
          simp only [i_lt, i_le, i_eq, i_m1, i_0, i_1, i_2, i_3, i_4, i_5, i_6, i_7, i_8, i_9, i_10, i_11, i_12, i_17, i_20, i_24, i_32, i_44, i_48, i_50, i_51, i_52, i_57, i_58, i_100, i_126] at c6 c21 c36 c51
          first | refine bI_f ?_ | refine bI_t ?_
          simp only [alk, Bool.and_eq_true, Bool.or_eq_true, decide_eq_true_eq, Bool.and_eq_false_iff, Bool.or_eq_false_iff, decide_eq_false_iff_not, Bool.not_eq_true', Bool.not_eq_false', i_lt, i_le, i_eq, i_m1, i_0, i_1, i_2, i_3, i_4, i_5, i_6, i_7, i_8, i_9, i_10, i_11, i_12, i_17, i_20, i_24, i_32, i_44, i_48, i_50, i_51, i_52, i_57, i_58, i_100, i_126]
          omega
        · show Rn G κ 54 _ _ _ _ _
          refine r_iconst (1) X dX5_areAlike_54 (by decide) ?_
          refine r_goto 59 X dX5_areAlike_55 (by decide) ?_
          refine r_zret X Z dX5_areAlike_59 (by decide) ?_
          refine ⟨rfl, rfl, rfl, ret_i ?_⟩
          simp only [i_lt, i_le, i_eq, i_m1, i_0, i_1, i_2, i_3, i_4, i_5, i_6, i_7, i_8, i_9, i_10, i_11, i_12, i_17, i_20, i_24, i_32, i_44, i_48, i_50, i_51, i_52, i_57, i_58, i_100, i_126] at c6 c21 c36 c51
          first | refine bI_f ?_ | refine bI_t ?_
          simp only [alk, Bool.and_eq_true, Bool.or_eq_true, decide_eq_true_eq, Bool.and_eq_false_iff, Bool.or_eq_false_iff, decide_eq_false_iff_not, Bool.not_eq_true', Bool.not_eq_false', i_lt, i_le, i_eq, i_m1, i_0, i_1, i_2, i_3, i_4, i_5, i_6, i_7, i_8, i_9, i_10, i_11, i_12, i_17, i_20, i_24, i_32, i_44, i_48, i_50, i_51, i_52, i_57, i_58, i_100, i_126]
          omega
set_option maxRecDepth 100000 in
set_option maxHeartbeats 4000000 in
theorem m_leadOf {G : bpG} {C : bpC} {M : bpM} {hl : Int64} {key : Int32} (hB : Bas M) : Ct G yX5_leadOf cX5_leadOf 5 (some .int) rmX5_leadOf [.ref (G.1 11 0), .int key] C M hl (qI C M hl (oI (lead M key))) := by
  refine ct_of [some (.ref (G.1 11 0)), some (.int key), none, none, none] (by decide +kernel) rfl rfl (Nat.le_of_ble_eq_true rfl) ?_
  intro κ X Z
  have hn := hB.2.1
  have loop : ∀ (n i : Nat) (z : Option Value), i + n = np M → Rn G κ 4 [some (.ref (G.1 11 0)), some (.int key), some (.int (oI (leadN M key i))), some (.int (nI i)), z] [] C M hl := by
    intro n
    induction n with
    | zero =>
      intro i z hi
      have hi : i = np M := by omega
      subst hi
      refine r_iload_n X dX5_leadOf_4 rfl ?_
      refine r_aload_n X dX5_leadOf_5 rfl ?_
      refine r_gim 2 X wfl_X5_105 dX5_leadOf_6 (by decide) rfl ?_
      refine r_icmpge 69 X dX5_leadOf_9 (by decide) (fun c9 => ?_) (fun c9 => absurd (by rw [hB.1]; exact Int32.le_refl _) c9)
      show Rn G κ 69 _ _ _ _ _
      refine r_iload_n X dX5_leadOf_69 rfl ?_
      refine r_iret X Z dX5_leadOf_70 ?_
      exact ⟨rfl, rfl, rfl, rfl⟩
    | succ n ih =>
      intro i z hi
      have hin : i < np M := by omega
      have h6 : i < 6 := by omega
      cases hb : leadN M key i with
      | none =>
        show Rn G κ 4 [some (.ref (G.1 11 0)), some (.int key), some (.int (-1)), some (.int (nI i)), z] [] C M hl
        refine r_iload_n X dX5_leadOf_4 rfl ?_
        refine r_aload_n X dX5_leadOf_5 rfl ?_
        refine r_gim 2 X wfl_X5_105 dX5_leadOf_6 (by decide) rfl ?_
        refine r_icmpge 69 X dX5_leadOf_9 (by decide) (fun c9 => absurd c9 (by rw [hB.1]; simp only [i_lt, i_le, i_eq, i_m1, i_0, i_1, i_2, i_3, i_4, i_5, i_6, i_7, i_8, i_9, i_10, i_11, i_12, i_17, i_20, i_24, i_32, i_44, i_48, i_50, i_51, i_52, i_57, i_58, i_100, i_126, i_n (show np M < 2 ^ 31 by omega), i_n (show i < 2 ^ 31 by omega)]; omega)) (fun c9 => ?_)
        show Rn G κ 12 _ _ _ _ _
        refine r_aload_n X dX5_leadOf_12 rfl ?_
        refine r_gam 3 X wfl_X5_13 dX5_leadOf_13 (by decide) rfl ?_
        refine r_iload_n X dX5_leadOf_16 rfl ?_
        show Rn G κ 17 _ _ _ _ _
        refine r_iaM _ X rfl (by assumption) dX5_leadOf_17 (by decide) rfl rfl rfl ?_
        refine r_iload_n X dX5_leadOf_18 rfl ?_
        refine r_icmpne 35 X dX5_leadOf_19 (by decide) (fun c19 => ?_) (fun c19 => ?_)
        · show Rn G κ 35 _ _ _ _ _
          refine r_iconst (0) X dX5_leadOf_35 (by decide) ?_
          refine r_istore_4 X dX5_leadOf_36 rfl ?_
          refine r_iload X dX5_leadOf_38 rfl ?_
          refine r_ifeq 61 X dX5_leadOf_40 (by decide) (fun c40 => ?_) (fun c40 => absurd rfl c40)
          show Rn G κ 61 _ _ _ _ _
          refine r_iload_n X dX5_leadOf_61 rfl ?_
          refine r_istore_2 X dX5_leadOf_62 rfl ?_
          refine r_iinc_3 (nI (i + 1)) X dX5_leadOf_63 (nI_1 i) rfl ?_
          show Rn G κ 66 _ _ _ _ _
          refine r_goto 4 X dX5_leadOf_66 (by decide) ?_
          have e : leadN M key (i + 1) = leadN M key i := by
            simp only [leadN]
            rw [if_neg]
            rintro ⟨h1, h2, h3⟩
            exact c19 h1
          have := ih (i + 1) (some (.int 0)) (by omega)
          rw [e, hb] at this
          exact this
        · show Rn G κ 22 _ _ _ _ _
          refine r_aload_n X dX5_leadOf_22 rfl ?_
          refine r_gam 6 X wfl_X5_23 dX5_leadOf_23 (by decide) rfl ?_
          refine r_iload_n X dX5_leadOf_26 rfl ?_
          refine r_iaM _ X rfl (by assumption) dX5_leadOf_27 (by decide) rfl rfl rfl ?_
          refine r_ifle 35 X dX5_leadOf_28 (by decide) (fun c28 => ?_) (fun c28 => ?_)
          · show Rn G κ 35 _ _ _ _ _
            refine r_iconst (0) X dX5_leadOf_35 (by decide) ?_
            refine r_istore_4 X dX5_leadOf_36 rfl ?_
            refine r_iload X dX5_leadOf_38 rfl ?_
            refine r_ifeq 61 X dX5_leadOf_40 (by decide) (fun c40 => ?_) (fun c40 => absurd rfl c40)
            show Rn G κ 61 _ _ _ _ _
            refine r_iload_n X dX5_leadOf_61 rfl ?_
            refine r_istore_2 X dX5_leadOf_62 rfl ?_
            refine r_iinc_3 (nI (i + 1)) X dX5_leadOf_63 (nI_1 i) rfl ?_
            show Rn G κ 66 _ _ _ _ _
            refine r_goto 4 X dX5_leadOf_66 (by decide) ?_
            have e : leadN M key (i + 1) = leadN M key i := by
              simp only [leadN]
              rw [if_neg]
              rintro ⟨h1, h2, h3⟩
              rw [i_le, i_0] at c28; rw [i_lt, i_0] at h2; omega
            have := ih (i + 1) (some (.int 0)) (by omega)
            rw [e, hb] at this
            exact this
          · show Rn G κ 31 _ _ _ _ _
            refine r_iconst (1) X dX5_leadOf_31 (by decide) ?_
            refine r_goto 36 X dX5_leadOf_32 (by decide) ?_
            refine r_istore_4 X dX5_leadOf_36 rfl ?_
            refine r_iload X dX5_leadOf_38 rfl ?_
            refine r_ifeq 61 X dX5_leadOf_40 (by decide) (fun c40 => absurd c40 (by decide)) (fun c40 => ?_)
            show Rn G κ 43 _ _ _ _ _
            refine r_iload_n X dX5_leadOf_43 rfl ?_
            refine r_iconst (-1) X dX5_leadOf_44 (by decide) ?_
            show Rn G κ 45 _ _ _ _ _
            refine r_icmpeq 57 X dX5_leadOf_45 (by decide) (fun c45 => ?_) (fun c45 => absurd rfl c45)
            show Rn G κ 57 _ _ _ _ _
            refine r_iload_n X dX5_leadOf_57 rfl ?_
            refine r_goto 62 X dX5_leadOf_58 (by decide) ?_
            refine r_istore_2 X dX5_leadOf_62 rfl ?_
            refine r_iinc_3 (nI (i + 1)) X dX5_leadOf_63 (nI_1 i) rfl ?_
            refine r_goto 4 X dX5_leadOf_66 (by decide) ?_
            have e : leadN M key (i + 1) = some i := by
              simp only [leadN]
              rw [if_pos]
              refine ⟨c19, (by rw [i_le, i_0] at c28; rw [i_lt, i_0]; omega), ?_⟩
              intro b' hb'
              rw [hb] at hb'; cases hb'
            have := ih (i + 1) (some (.int 1)) (by omega)
            rw [e] at this
            exact this
      | some b =>
        have hbi := leadN_ltn hb
        have hb6 : b < 6 := by omega
        show Rn G κ 4 [some (.ref (G.1 11 0)), some (.int key), some (.int (nI b)), some (.int (nI i)), z] [] C M hl
        refine r_iload_n X dX5_leadOf_4 rfl ?_
        refine r_aload_n X dX5_leadOf_5 rfl ?_
        refine r_gim 2 X wfl_X5_105 dX5_leadOf_6 (by decide) rfl ?_
        refine r_icmpge 69 X dX5_leadOf_9 (by decide) (fun c9 => absurd c9 (by rw [hB.1]; simp only [i_lt, i_le, i_eq, i_m1, i_0, i_1, i_2, i_3, i_4, i_5, i_6, i_7, i_8, i_9, i_10, i_11, i_12, i_17, i_20, i_24, i_32, i_44, i_48, i_50, i_51, i_52, i_57, i_58, i_100, i_126, i_n (show np M < 2 ^ 31 by omega), i_n (show i < 2 ^ 31 by omega)]; omega)) (fun c9 => ?_)
        show Rn G κ 12 _ _ _ _ _
        refine r_aload_n X dX5_leadOf_12 rfl ?_
        refine r_gam 3 X wfl_X5_13 dX5_leadOf_13 (by decide) rfl ?_
        refine r_iload_n X dX5_leadOf_16 rfl ?_
        show Rn G κ 17 _ _ _ _ _
        refine r_iaM _ X rfl (by assumption) dX5_leadOf_17 (by decide) rfl rfl rfl ?_
        refine r_iload_n X dX5_leadOf_18 rfl ?_
        refine r_icmpne 35 X dX5_leadOf_19 (by decide) (fun c19 => ?_) (fun c19 => ?_)
        · show Rn G κ 35 _ _ _ _ _
          refine r_iconst (0) X dX5_leadOf_35 (by decide) ?_
          refine r_istore_4 X dX5_leadOf_36 rfl ?_
          refine r_iload X dX5_leadOf_38 rfl ?_
          refine r_ifeq 61 X dX5_leadOf_40 (by decide) (fun c40 => ?_) (fun c40 => absurd rfl c40)
          show Rn G κ 61 _ _ _ _ _
          refine r_iload_n X dX5_leadOf_61 rfl ?_
          refine r_istore_2 X dX5_leadOf_62 rfl ?_
          refine r_iinc_3 (nI (i + 1)) X dX5_leadOf_63 (nI_1 i) rfl ?_
          show Rn G κ 66 _ _ _ _ _
          refine r_goto 4 X dX5_leadOf_66 (by decide) ?_
          have e : leadN M key (i + 1) = leadN M key i := by
            simp only [leadN]
            rw [if_neg]
            rintro ⟨h1, h2, h3⟩
            exact c19 h1
          have := ih (i + 1) (some (.int 0)) (by omega)
          rw [e, hb] at this
          exact this
        · show Rn G κ 22 _ _ _ _ _
          refine r_aload_n X dX5_leadOf_22 rfl ?_
          refine r_gam 6 X wfl_X5_23 dX5_leadOf_23 (by decide) rfl ?_
          refine r_iload_n X dX5_leadOf_26 rfl ?_
          refine r_iaM _ X rfl (by assumption) dX5_leadOf_27 (by decide) rfl rfl rfl ?_
          refine r_ifle 35 X dX5_leadOf_28 (by decide) (fun c28 => ?_) (fun c28 => ?_)
          · show Rn G κ 35 _ _ _ _ _
            refine r_iconst (0) X dX5_leadOf_35 (by decide) ?_
            refine r_istore_4 X dX5_leadOf_36 rfl ?_
            refine r_iload X dX5_leadOf_38 rfl ?_
            refine r_ifeq 61 X dX5_leadOf_40 (by decide) (fun c40 => ?_) (fun c40 => absurd rfl c40)
            show Rn G κ 61 _ _ _ _ _
            refine r_iload_n X dX5_leadOf_61 rfl ?_
            refine r_istore_2 X dX5_leadOf_62 rfl ?_
            refine r_iinc_3 (nI (i + 1)) X dX5_leadOf_63 (nI_1 i) rfl ?_
            show Rn G κ 66 _ _ _ _ _
            refine r_goto 4 X dX5_leadOf_66 (by decide) ?_
            have e : leadN M key (i + 1) = leadN M key i := by
              simp only [leadN]
              rw [if_neg]
              rintro ⟨h1, h2, h3⟩
              rw [i_le, i_0] at c28; rw [i_lt, i_0] at h2; omega
            have := ih (i + 1) (some (.int 0)) (by omega)
            rw [e, hb] at this
            exact this
          · show Rn G κ 31 _ _ _ _ _
            refine r_iconst (1) X dX5_leadOf_31 (by decide) ?_
            refine r_goto 36 X dX5_leadOf_32 (by decide) ?_
            refine r_istore_4 X dX5_leadOf_36 rfl ?_
            refine r_iload X dX5_leadOf_38 rfl ?_
            refine r_ifeq 61 X dX5_leadOf_40 (by decide) (fun c40 => absurd c40 (by decide)) (fun c40 => ?_)
            show Rn G κ 43 _ _ _ _ _
            refine r_iload_n X dX5_leadOf_43 rfl ?_
            refine r_iconst (-1) X dX5_leadOf_44 (by decide) ?_
            show Rn G κ 45 _ _ _ _ _
            refine r_icmpeq 57 X dX5_leadOf_45 (by decide) (fun c45 => absurd c45 (nI_m1 (show b < 2 ^ 31 by omega))) (fun c45 => ?_)
            show Rn G κ 48 _ _ _ _ _
            refine r_aload_n X dX5_leadOf_48 rfl ?_
            refine r_iload_n X dX5_leadOf_49 rfl ?_
            refine r_iload_n X dX5_leadOf_50 rfl ?_
            refine r_cv2_I X mdX5_isAhead wml_X5_115 dX5_leadOf_51 ⟨rfl, rfl, Nat.le_of_ble_eq_true rfl, Nat.le_of_ble_eq_true rfl⟩ (by decide) rfl rfl (Nat.le_of_ble_eq_true rfl) rfl (zroom Z) (m_isAhead h6 hb6) ?_
            show Rn G κ 54 _ _ _ _ _
            refine r_ifeq 61 X dX5_leadOf_54 (by decide) (fun c54 => ?_) (fun c54 => ?_)
            · show Rn G κ 61 _ _ _ _ _
              refine r_iload_n X dX5_leadOf_61 rfl ?_
              refine r_istore_2 X dX5_leadOf_62 rfl ?_
              refine r_iinc_3 (nI (i + 1)) X dX5_leadOf_63 (nI_1 i) rfl ?_
              refine r_goto 4 X dX5_leadOf_66 (by decide) ?_
              have e : leadN M key (i + 1) = leadN M key i := by
                simp only [leadN]
                rw [if_neg]
                rintro ⟨h1, h2, h3⟩
                have h4 := h3 _ hb; rw [h4] at c54; exact absurd c54 (by decide)
              have := ih (i + 1) (some (.int 1)) (by omega)
              rw [e, hb] at this
              exact this
            · show Rn G κ 57 _ _ _ _ _
              refine r_iload_n X dX5_leadOf_57 rfl ?_
              refine r_goto 62 X dX5_leadOf_58 (by decide) ?_
              refine r_istore_2 X dX5_leadOf_62 rfl ?_
              refine r_iinc_3 (nI (i + 1)) X dX5_leadOf_63 (nI_1 i) rfl ?_
              refine r_goto 4 X dX5_leadOf_66 (by decide) ?_
              have e : leadN M key (i + 1) = some i := by
                simp only [leadN]
                rw [if_pos]
                refine ⟨c19, (by rw [i_le, i_0] at c28; rw [i_lt, i_0]; omega), ?_⟩
                intro b' hb'
                rw [hb] at hb'; cases hb'; exact bI_1 c54
              have := ih (i + 1) (some (.int 1)) (by omega)
              rw [e] at this
              exact this
  refine r_iconst (-1) X dX5_leadOf_0 (by decide) ?_
  refine r_istore_2 X dX5_leadOf_1 rfl ?_
  refine r_iconst (0) X dX5_leadOf_2 (by decide) ?_
  refine r_istore_3 X dX5_leadOf_3 rfl ?_
  exact loop (np M) 0 _ (by omega)
set_option maxRecDepth 100000 in
set_option maxHeartbeats 4000000 in
theorem m_placeOf {G : bpG} {C : bpC} {M : bpM} {hl : Int64} {p : Nat} (hB : Bas M) (hp : p < np M) : Ct G yX5_placeOf cX5_placeOf 5 (some .int) rmX5_placeOf [.ref (G.1 11 0), .int (nI p)] C M hl (qI C M hl (oI (place M p))) := by
  have hn := hB.2.1
  have hp6 : p < 6 := by omega
  refine ct_of [some (.ref (G.1 11 0)), some (.int (nI p)), none, none, none] (by decide +kernel) rfl rfl (Nat.le_of_ble_eq_true rfl) ?_
  intro κ X Z
  refine r_aload_n X dX5_placeOf_0 rfl ?_
  refine r_aload_n X dX5_placeOf_1 rfl ?_
  refine r_gam 3 X wfl_X5_13 dX5_placeOf_2 (by decide) rfl ?_
  refine r_iload_n X dX5_placeOf_5 rfl ?_
  refine r_iaM _ X rfl (by assumption) dX5_placeOf_6 (by decide) rfl rfl rfl ?_
  refine r_cv1_I X mdX5_leadOf wml_X5_119 dX5_placeOf_7 ⟨rfl, rfl, Nat.le_of_ble_eq_true rfl, Nat.le_of_ble_eq_true rfl⟩ (by decide) rfl rfl (Nat.le_of_ble_eq_true rfl) rfl (zroom Z) (m_leadOf hB) ?_
  show Rn G κ 10 _ _ _ _ _
  refine r_istore_2 X dX5_placeOf_10 rfl ?_
  cases hl2 : lead M (M 3 p) with
  | none =>
    have epl : place M p = none := by unfold place; rw [hl2]
    refine r_iload_n X dX5_placeOf_11 rfl ?_
    refine r_iconst (-1) X dX5_placeOf_12 (by decide) ?_
    refine r_icmpeq 25 X dX5_placeOf_13 (by decide) (fun c13 => ?_) (fun c13 => absurd rfl c13)
    show Rn G κ 25 _ _ _ _ _
    refine r_iconst (-1) X dX5_placeOf_25 (by decide) ?_
    refine r_iret X Z dX5_placeOf_26 ?_
    refine ⟨rfl, rfl, rfl, ret_i ?_⟩
    rw [epl]
    rfl
  | some l =>
    have hll : l < np M := leadN_ltn hl2
    have hl6 : l < 6 := by omega
    have hpl6 := hp6
    have loop : alk M p l = true → ∀ n i : Nat, i + n = np M → Rn G κ 32 [some (.ref (G.1 11 0)), some (.int (nI p)), some (.int (nI l)), some (.int (nI (ctN (fun q => alk M q l && ahd M q p) i))), some (.int (nI i))] [] C M hl := by
      intro hal n
      induction n with
      | zero =>
        intro i hi
        have hi : i = np M := by omega
        subst hi
        refine r_iload X dX5_placeOf_32 rfl ?_
        refine r_aload_n X dX5_placeOf_34 rfl ?_
        refine r_gim 2 X wfl_X5_105 dX5_placeOf_35 (by decide) rfl ?_
        refine r_icmpge 75 X dX5_placeOf_38 (by decide) (fun c38 => ?_) (fun c38 => absurd (by rw [hB.1]; exact Int32.le_refl _) c38)
        show Rn G κ 75 _ _ _ _ _
        refine r_iload_n X dX5_placeOf_75 rfl ?_
        refine r_iret X Z dX5_placeOf_76 ?_
        refine ⟨rfl, rfl, rfl, ret_i ?_⟩
        unfold place
        rw [hl2]
        simp only
        rw [if_pos hal]
        rfl
      | succ n ih =>
        intro i hi
        have hin : i < np M := by omega
        have h6 : i < 6 := by omega
        refine r_iload X dX5_placeOf_32 rfl ?_
        refine r_aload_n X dX5_placeOf_34 rfl ?_
        refine r_gim 2 X wfl_X5_105 dX5_placeOf_35 (by decide) rfl ?_
        refine r_icmpge 75 X dX5_placeOf_38 (by decide) (fun c38 => absurd c38 (by rw [hB.1]; simp only [i_lt, i_le, i_eq, i_m1, i_0, i_1, i_2, i_3, i_4, i_5, i_6, i_7, i_8, i_9, i_10, i_11, i_12, i_17, i_20, i_24, i_32, i_44, i_48, i_50, i_51, i_52, i_57, i_58, i_100, i_126, i_n (show np M < 2 ^ 31 by omega), i_n (show i < 2 ^ 31 by omega)]; omega)) (fun c38 => ?_)
        show Rn G κ 41 _ _ _ _ _
        refine r_iload_n X dX5_placeOf_41 rfl ?_
        refine r_aload_n X dX5_placeOf_42 rfl ?_
        refine r_iload X dX5_placeOf_43 rfl ?_
        show Rn G κ 45 _ _ _ _ _
        refine r_iload_n X dX5_placeOf_45 rfl ?_
        refine r_cv2_I X mdX5_areAlike wml_X5_123 dX5_placeOf_46 ⟨rfl, rfl, Nat.le_of_ble_eq_true rfl, Nat.le_of_ble_eq_true rfl⟩ (by decide) rfl rfl (Nat.le_of_ble_eq_true rfl) rfl (zroom Z) (m_areAlike h6 hl6) ?_
        show Rn G κ 49 _ _ _ _ _
        refine r_ifeq 66 X dX5_placeOf_49 (by decide) (fun c49 => ?_) (fun c49 => ?_)
        · show Rn G κ 66 _ _ _ _ _
          refine r_iconst (0) X dX5_placeOf_66 (by decide) ?_
          refine r_iadd X dX5_placeOf_67 ?_
          refine r_istore_3 X dX5_placeOf_68 rfl ?_
          refine r_iinc_4 (nI (i + 1)) X dX5_placeOf_69 (nI_1 i) rfl ?_
          refine r_goto 32 X dX5_placeOf_72 (by decide) ?_
          have := ih (i + 1) (by omega)
          rw [ctN_f (by simp [bI_0 c49])] at this
          rw [Int32.add_zero]
          exact this
        · show Rn G κ 52 _ _ _ _ _
          refine r_aload_n X dX5_placeOf_52 rfl ?_
          refine r_iload X dX5_placeOf_53 rfl ?_
          refine r_iload_n X dX5_placeOf_55 rfl ?_
          refine r_cv2_I X mdX5_isAhead wml_X5_115 dX5_placeOf_56 ⟨rfl, rfl, Nat.le_of_ble_eq_true rfl, Nat.le_of_ble_eq_true rfl⟩ (by decide) rfl rfl (Nat.le_of_ble_eq_true rfl) rfl (zroom Z) (m_isAhead h6 hp6) ?_
          show Rn G κ 59 _ _ _ _ _
          refine r_ifeq 66 X dX5_placeOf_59 (by decide) (fun c59 => ?_) (fun c59 => ?_)
          · show Rn G κ 66 _ _ _ _ _
            refine r_iconst (0) X dX5_placeOf_66 (by decide) ?_
            refine r_iadd X dX5_placeOf_67 ?_
            refine r_istore_3 X dX5_placeOf_68 rfl ?_
            refine r_iinc_4 (nI (i + 1)) X dX5_placeOf_69 (nI_1 i) rfl ?_
            refine r_goto 32 X dX5_placeOf_72 (by decide) ?_
            have := ih (i + 1) (by omega)
            rw [ctN_f (by simp [bI_1 c49, bI_0 c59])] at this
            rw [Int32.add_zero]
            exact this
          · show Rn G κ 62 _ _ _ _ _
            refine r_iconst (1) X dX5_placeOf_62 (by decide) ?_
            refine r_goto 67 X dX5_placeOf_63 (by decide) ?_
            refine r_iadd X dX5_placeOf_67 ?_
            refine r_istore_3 X dX5_placeOf_68 rfl ?_
            refine r_iinc_4 (nI (i + 1)) X dX5_placeOf_69 (nI_1 i) rfl ?_
            refine r_goto 32 X dX5_placeOf_72 (by decide) ?_
            have := ih (i + 1) (by omega)
            rw [ctN_t (by simp [bI_1 c49, bI_1 c59])] at this
            rw [show nI (ctN (fun q => alk M q l && ahd M q p) i) + 1 = nI (ctN (fun q => alk M q l && ahd M q p) i + 1) from nI_1 _]
            exact this
    show Rn G κ 11 [some (.ref (G.1 11 0)), some (.int (nI p)), some (.int (nI l)), none, none] [] C M hl
    refine r_iload_n X dX5_placeOf_11 rfl ?_
    refine r_iconst (-1) X dX5_placeOf_12 (by decide) ?_
    refine r_icmpeq 25 X dX5_placeOf_13 (by decide) (fun c13 => absurd c13 (nI_m1 (show l < 2 ^ 31 by omega))) (fun c13 => ?_)
    show Rn G κ 16 _ _ _ _ _
    refine r_aload_n X dX5_placeOf_16 rfl ?_
    refine r_iload_n X dX5_placeOf_17 rfl ?_
    refine r_iload_n X dX5_placeOf_18 rfl ?_
    refine r_cv2_I X mdX5_areAlike wml_X5_123 dX5_placeOf_19 ⟨rfl, rfl, Nat.le_of_ble_eq_true rfl, Nat.le_of_ble_eq_true rfl⟩ (by decide) rfl rfl (Nat.le_of_ble_eq_true rfl) rfl (zroom Z) (m_areAlike hp6 hl6) ?_
    show Rn G κ 22 _ _ _ _ _
    show Rn G κ 22 _ _ _ _ _
    refine r_ifne 27 X dX5_placeOf_22 (by decide) (fun c22 => ?_) (fun c22 => ?_)
    · show Rn G κ 27 _ _ _ _ _
      refine r_iconst (0) X dX5_placeOf_27 (by decide) ?_
      refine r_istore_3 X dX5_placeOf_28 rfl ?_
      refine r_iconst (0) X dX5_placeOf_29 (by decide) ?_
      refine r_istore_4 X dX5_placeOf_30 rfl ?_
      exact loop (bI_1 c22) (np M) 0 (by omega)
    · show Rn G κ 25 _ _ _ _ _
      refine r_iconst (-1) X dX5_placeOf_25 (by decide) ?_
      refine r_iret X Z dX5_placeOf_26 ?_
      refine ⟨rfl, rfl, rfl, ret_i ?_⟩
      unfold place
      rw [hl2]
      simp only
      rw [if_neg (by rw [bI_0 c22]; decide)]
      rfl
set_option maxRecDepth 100000 in
set_option maxHeartbeats 4000000 in
theorem m_stateOf {G : bpG} {C : bpC} {M : bpM} {hl : Int64} {p : Nat} (hB : Bas M) (hp : p < np M) : Ct G yX5_stateOf cX5_stateOf 3 (some .int) rmX5_stateOf [.ref (G.1 11 0), .int (nI p)] C M hl (qI C M hl (stat M p)) := by
  have hn := hB.2.1
  have hp6 : p < 6 := by omega
  refine ct_of [some (.ref (G.1 11 0)), some (.int (nI p)), none] (by decide +kernel) rfl rfl (Nat.le_of_ble_eq_true rfl) ?_
  intro κ X Z
  refine r_aload_n X dX5_stateOf_0 rfl ?_
  refine r_iload_n X dX5_stateOf_1 rfl ?_
  refine r_cv1_I X mdX5_placeOf wml_X5_126 dX5_stateOf_2 ⟨rfl, rfl, Nat.le_of_ble_eq_true rfl, Nat.le_of_ble_eq_true rfl⟩ (by decide) rfl rfl (Nat.le_of_ble_eq_true rfl) rfl (zroom Z) (m_placeOf hB hp) ?_
  show Rn G κ 5 _ _ _ _ _
  refine r_istore_2 X dX5_stateOf_5 rfl ?_
  cases hpl : place M p with
  | none =>
    have ech : choi M p = 0 := by unfold choi; rw [hpl]
    refine r_iload_n X dX5_stateOf_6 rfl ?_
    refine r_iconst (-1) X dX5_stateOf_7 (by decide) ?_
    refine r_icmpne 13 X dX5_stateOf_8 (by decide) (fun c8 => absurd rfl c8) (fun c8 => ?_)
    show Rn G κ 11 _ _ _ _ _
    refine r_iconst (0) X dX5_stateOf_11 (by decide) ?_
    refine r_iret X Z dX5_stateOf_12 ?_
    refine ⟨rfl, rfl, rfl, ret_i ?_⟩
    unfold stat
    rw [ech]
    rfl
  | some c =>
    have hc6 : c < 2 ^ 31 := by have := place_le hpl; omega
    show Rn G κ 6 [some (.ref (G.1 11 0)), some (.int (nI p)), some (.int (nI c))] [] C M hl
    refine r_iload_n X dX5_stateOf_6 rfl ?_
    refine r_iconst (-1) X dX5_stateOf_7 (by decide) ?_
    refine r_icmpne 13 X dX5_stateOf_8 (by decide) (fun c8 => ?_) (fun c8 => absurd c8 (nI_m1 hc6))
    show Rn G κ 13 _ _ _ _ _
    refine r_iload_n X dX5_stateOf_13 rfl ?_
    refine r_aload_n X dX5_stateOf_14 rfl ?_
    refine r_gim 11 X wfl_X5_38 dX5_stateOf_15 (by decide) rfl ?_
    refine r_icmplt 23 X dX5_stateOf_18 (by decide) (fun c18 => ?_) (fun c18 => ?_)
    · show Rn G κ 23 _ _ _ _ _
      refine r_aload_n X dX5_stateOf_23 rfl ?_
      refine r_gam 10 X wfl_X5_35 dX5_stateOf_24 (by decide) rfl ?_
      refine r_iload_n X dX5_stateOf_27 rfl ?_
      refine r_iaM _ X rfl (by assumption) dX5_stateOf_28 (by decide) rfl rfl rfl ?_
      refine r_aload_n X dX5_stateOf_29 rfl ?_
      refine r_gim 12 X wfl_X5_42 dX5_stateOf_30 (by decide) rfl ?_
      refine r_icmpge 40 X dX5_stateOf_33 (by decide) (fun c33 => ?_) (fun c33 => ?_)
      · show Rn G κ 40 _ _ _ _ _
        refine r_aload_n X dX5_stateOf_40 rfl ?_
        refine r_gam 8 X wfl_X5_29 dX5_stateOf_41 (by decide) rfl ?_
        refine r_iload_n X dX5_stateOf_44 rfl ?_
        refine r_zaM _ X rfl (by assumption) dX5_stateOf_45 (by decide) rfl rfl rfl ?_
        refine r_ifeq 53 X dX5_stateOf_46 (by decide) (fun c46 => ?_) (fun c46 => ?_)
        · show Rn G κ 53 _ _ _ _ _
          refine r_iconst (3) X dX5_stateOf_53 (by decide) ?_
          refine r_iret X Z dX5_stateOf_54 ?_
          refine ⟨rfl, rfl, rfl, ret_i ?_⟩
          have ech : choi M p = 2 := by unfold choi; rw [hpl]; simp only; rw [if_pos c18]
          unfold stat
          rw [if_pos ech]
          rw [if_neg (by rw [i_le] at c33; rw [i_lt]; omega)]
          rw [if_pos c46]
        · show Rn G κ 49 _ _ _ _ _
          refine r_iconst (4) X dX5_stateOf_49 (by decide) ?_
          refine r_goto 54 X dX5_stateOf_50 (by decide) ?_
          refine r_iret X Z dX5_stateOf_54 ?_
          refine ⟨rfl, rfl, rfl, ret_i ?_⟩
          have ech : choi M p = 2 := by unfold choi; rw [hpl]; simp only; rw [if_pos c18]
          unfold stat
          rw [if_pos ech]
          rw [if_neg (by rw [i_le] at c33; rw [i_lt]; omega)]
          rw [if_neg c46]
      · show Rn G κ 36 _ _ _ _ _
        refine r_iconst (2) X dX5_stateOf_36 (by decide) ?_
        refine r_goto 54 X dX5_stateOf_37 (by decide) ?_
        refine r_iret X Z dX5_stateOf_54 ?_
        refine ⟨rfl, rfl, rfl, ret_i ?_⟩
        have ech : choi M p = 2 := by unfold choi; rw [hpl]; simp only; rw [if_pos c18]
        unfold stat
        rw [if_pos ech]
        rw [if_pos (by rw [i_le] at c33; rw [i_lt]; omega)]
    · show Rn G κ 21 _ _ _ _ _
      refine r_iconst (1) X dX5_stateOf_21 (by decide) ?_
      refine r_iret X Z dX5_stateOf_22 ?_
      refine ⟨rfl, rfl, rfl, ret_i ?_⟩
      have ech : choi M p = 1 := by unfold choi; rw [hpl]; simp only; rw [if_neg c18]
      unfold stat
      rw [ech]
      rfl
set_option maxRecDepth 100000 in
set_option maxHeartbeats 4000000 in
theorem m_bitsOf {G : bpG} {C : bpC} {M : bpM} {hl : Int64} {key lo hi : Int32} (hB : Bas M) : Ct G yX5_bitsOf cX5_bitsOf 6 (some .int) rmX5_bitsOf [.ref (G.1 11 0), .int key, .int lo, .int hi] C M hl (qI C M hl (nI (bits M key lo hi))) := by
  refine ct_of [some (.ref (G.1 11 0)), some (.int key), some (.int lo), some (.int hi), none, none] (by decide +kernel) rfl rfl (Nat.le_of_ble_eq_true rfl) ?_
  intro κ X Z
  have hn := hB.2.1
  have loop : ∀ (n i : Nat), i + n = np M → Rn G κ 6 [some (.ref (G.1 11 0)), some (.int key), some (.int lo), some (.int hi), some (.int (nI (bitN M key lo hi i))), some (.int (nI i))] [] C M hl := by
    intro n
    induction n with
    | zero =>
      intro i hi2
      have hi2 : i = np M := by omega
      subst hi2
      refine r_iload X dX5_bitsOf_6 rfl ?_
      refine r_aload_n X dX5_bitsOf_8 rfl ?_
      refine r_gim 2 X wfl_X5_105 dX5_bitsOf_9 (by decide) rfl ?_
      refine r_icmpge 59 X dX5_bitsOf_12 (by decide) (fun c12 => ?_) (fun c12 => absurd (by rw [hB.1]; exact Int32.le_refl _) c12)
      show Rn G κ 59 _ _ _ _ _
      refine r_iload X dX5_bitsOf_59 rfl ?_
      refine r_iret X Z dX5_bitsOf_61 ?_
      exact ⟨rfl, rfl, rfl, rfl⟩
    | succ n ih =>
      intro i hi2
      have hin : i < np M := by omega
      have h6 : i < 6 := by omega
      refine r_iload X dX5_bitsOf_6 rfl ?_
      refine r_aload_n X dX5_bitsOf_8 rfl ?_
      refine r_gim 2 X wfl_X5_105 dX5_bitsOf_9 (by decide) rfl ?_
      refine r_icmpge 59 X dX5_bitsOf_12 (by decide) (fun c12 => absurd c12 (by rw [hB.1]; simp only [i_lt, i_le, i_eq, i_m1, i_0, i_1, i_2, i_3, i_4, i_5, i_6, i_7, i_8, i_9, i_10, i_11, i_12, i_17, i_20, i_24, i_32, i_44, i_48, i_50, i_51, i_52, i_57, i_58, i_100, i_126, i_n (show np M < 2 ^ 31 by omega), i_n (show i < 2 ^ 31 by omega)]; omega)) (fun c12 => ?_)
      show Rn G κ 15 _ _ _ _ _
      refine r_iload X dX5_bitsOf_15 rfl ?_
      refine r_aload_n X dX5_bitsOf_17 rfl ?_
      refine r_gam 3 X wfl_X5_13 dX5_bitsOf_18 (by decide) rfl ?_
      show Rn G κ 21 _ _ _ _ _
      refine r_iload X dX5_bitsOf_21 rfl ?_
      refine r_iaM _ X rfl (by assumption) dX5_bitsOf_23 (by decide) rfl rfl rfl ?_
      refine r_iload_n X dX5_bitsOf_24 rfl ?_
      refine r_icmpne 49 X dX5_bitsOf_25 (by decide) (fun c25 => ?_) (fun c25 => ?_)
      · show Rn G κ 49 _ _ _ _ _
        refine r_iconst (0) X dX5_bitsOf_49 (by decide) ?_
        refine r_ior X dX5_bitsOf_50 ?_
        refine r_istore_4 X dX5_bitsOf_51 rfl ?_
        refine r_iinc_5 (nI (i + 1)) X dX5_bitsOf_53 (nI_1 i) rfl ?_
        refine r_goto 6 X dX5_bitsOf_56 (by decide) ?_
        have := ih (i + 1) (by omega)
        rw [bitN_f (fun z => c25 z.1)] at this
        rw [or_bit0]
        exact this
      · show Rn G κ 28 _ _ _ _ _
        refine r_aload_n X dX5_bitsOf_28 rfl ?_
        refine r_iload X dX5_bitsOf_29 rfl ?_
        refine r_cv1_I X mdX5_stateOf wml_X5_129 dX5_bitsOf_31 ⟨rfl, rfl, Nat.le_of_ble_eq_true rfl, Nat.le_of_ble_eq_true rfl⟩ (by decide) rfl rfl (Nat.le_of_ble_eq_true rfl) rfl (zroom Z) (m_stateOf hB hin) ?_
        show Rn G κ 34 _ _ _ _ _
        refine r_iload_n X dX5_bitsOf_34 rfl ?_
        refine r_iload_n X dX5_bitsOf_35 rfl ?_
        refine r_cs3_I X mdX5_within wml_X5_84 dX5_bitsOf_36 ⟨rfl, rfl, Nat.le_of_ble_eq_true rfl, Nat.le_of_ble_eq_true rfl⟩ (Nat.le_of_ble_eq_true rfl) rfl (zroom Z) (m_within) ?_
        show Rn G κ 39 _ _ _ _ _
        refine r_ifeq 49 X dX5_bitsOf_39 (by decide) (fun c39 => ?_) (fun c39 => ?_)
        · show Rn G κ 49 _ _ _ _ _
          refine r_iconst (0) X dX5_bitsOf_49 (by decide) ?_
          refine r_ior X dX5_bitsOf_50 ?_
          refine r_istore_4 X dX5_bitsOf_51 rfl ?_
          refine r_iinc_5 (nI (i + 1)) X dX5_bitsOf_53 (nI_1 i) rfl ?_
          refine r_goto 6 X dX5_bitsOf_56 (by decide) ?_
          have := ih (i + 1) (by omega)
          rw [bitN_f (fun z => by have h9 := bI_0 c39; rw [Bool.and_eq_false_iff, decide_eq_false_iff_not, decide_eq_false_iff_not] at h9; rcases h9 with h9 | h9; exact h9 z.2.1; exact h9 z.2.2)] at this
          rw [or_bit0]
          exact this
        · show Rn G κ 42 _ _ _ _ _
          refine r_iconst (1) X dX5_bitsOf_42 (by decide) ?_
          refine r_iload X dX5_bitsOf_43 rfl ?_
          refine r_ishl X dX5_bitsOf_45 ?_
          refine r_goto 50 X dX5_bitsOf_46 (by decide) ?_
          refine r_ior X dX5_bitsOf_50 ?_
          refine r_istore_4 X dX5_bitsOf_51 rfl ?_
          refine r_iinc_5 (nI (i + 1)) X dX5_bitsOf_53 (nI_1 i) rfl ?_
          show Rn G κ 56 _ _ _ _ _
          refine r_goto 6 X dX5_bitsOf_56 (by decide) ?_
          have h9 := bI_1 c39
          rw [Bool.and_eq_true, decide_eq_true_eq, decide_eq_true_eq] at h9
          have hb5 := bitN_lt M key lo hi i
          have hb6 : 2 ^ i ≤ 2 ^ 5 := Nat.pow_le_pow_right (by decide) (by omega)
          have := ih (i + 1) (by omega)
          rw [bitN_t ⟨c25, h9⟩, ← or_bit i h6 _ (by omega) hb5] at this
          exact this
  refine r_iconst (0) X dX5_bitsOf_0 (by decide) ?_
  refine r_istore_4 X dX5_bitsOf_1 rfl ?_
  refine r_iconst (0) X dX5_bitsOf_3 (by decide) ?_
  refine r_istore_5 X dX5_bitsOf_4 rfl ?_
  exact loop (np M) 0 (by omega)
