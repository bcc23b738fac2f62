set_option maxRecDepth 100000 in
set_option maxHeartbeats 4000000 in
theorem c_changeWidth {G : bpG} {C : bpC} {M : bpM} {hl : Int64} {a : bpM} {k : Nat} {v : Int32} (hR : RA C a 9) (hI : Inv a k) : Ct G yX4_changeWidth cX4_changeWidth 3 (some .int) rmX4_changeWidth [.ref (G.1 0 0), .int v] C M hl (qCi M hl (fun C' r => RA C' (setS a 0 v).1 9 ∧ r = (setS a 0 v).2)) := by
  refine ct_of [some (.ref (G.1 0 0)), some (.int v), none] (by decide +kernel) rfl rfl (Nat.le_of_ble_eq_true rfl) ?_
  intro κ X Z
  refine r_iload_n X dX4_changeWidth_0 rfl ?_
  refine r_iconst (1) X dX4_changeWidth_1 (by decide) ?_
  refine r_icmplt 11 X dX4_changeWidth_2 (by decide) (fun c2 => ?_) (fun c2 => ?_)
  · show Rn G κ 11 _ _ _ _ _
    refine r_sipush (-1002) X dX4_changeWidth_11 (by decide) ?_
    refine r_iret X Z dX4_changeWidth_14 ?_
    have e : setS a 0 v = (a, -1002) := by
      unfold setS
      rw [if_pos rfl, if_neg]
      rintro ⟨z1, z2⟩
      rw [i_le] at z1 z2
      simp only [i_lt, i_le] at c2
      omega
    rw [e]
    exact ⟨rfl, rfl, _, rfl, hR, rfl⟩
  · show Rn G κ 5 _ _ _ _ _
    refine r_iload_n X dX4_changeWidth_5 rfl ?_
    refine r_bipush (6) X dX4_changeWidth_6 (by decide) ?_
    refine r_icmple 15 X dX4_changeWidth_8 (by decide) (fun c8 => ?_) (fun c8 => ?_)
    · show Rn G κ 15 _ _ _ _ _
      refine r_aload_n X dX4_changeWidth_15 rfl ?_
      refine r_gi0 4 X wfl_X4_32 dX4_changeWidth_16 (by decide) rfl ?_
      refine r_istore_2 X dX4_changeWidth_19 rfl ?_
      refine r_aload_n X dX4_changeWidth_20 rfl ?_
      refine r_iload_n X dX4_changeWidth_21 rfl ?_
      refine r_pi0 4 X wfl_X4_32 dX4_changeWidth_22 (by decide) rfl rfl (by decide +kernel) ?_
      refine r_aload_n X dX4_changeWidth_25 rfl ?_
      show Rn G κ 26 _ _ _ _ _
      refine r_cv0_C X mdX4_chooseAll wml_X4_98 dX4_changeWidth_26 ⟨rfl, rfl, Nat.le_of_ble_eq_true rfl, Nat.le_of_ble_eq_true rfl⟩ (by decide) rfl rfl (Nat.le_of_ble_eq_true rfl) rfl (zroom Z) (c_chooseAll (RB_scal (s := 4) (t := 11) (v := v) hR.1 (by omega)) (fun q hq => by rw [np_up (by omega)] at hq; rw [upM_other _ _ _ _ (by omega)]; exact (hI.2.2.1.2 q hq).1)) (fun C2 q2 => ?_)
      show Rn G κ 29 _ _ _ _ _
      refine r_iload_n X dX4_changeWidth_29 rfl ?_
      refine r_iret X Z dX4_changeWidth_30 ?_
      have e : setS a 0 v = (settle (upM a 11 0 v), a 11 0) := by
        unfold setS
        rw [if_pos rfl, if_pos ⟨by simp only [i_lt, i_le] at c2 ⊢; omega, c8⟩]
      rw [e]
      show qCi M hl (fun C' r => RA C' (settle (upM a 11 0 v)) 9 ∧ r = a 11 0) _ _ _ _
      refine ⟨rfl, rfl, _, rfl, RA_of2 hR q2.1 (fun q hq => q2.2.1 q (by rw [settle_np] at hq; exact hq)) (fun x h6 h10 => ?_) (by rw [settle_np, np_up (by omega)]) (fun s h1 h2 => ?_), hR.1.1.2.1⟩
      · rw [q2.2.2 x (by omega), upC_k _ _ _ _ (by omega)]
      · rw [settle_s _ (by omega), upM_other _ _ _ _ (by omega)]
    · show Rn G κ 11 _ _ _ _ _
      refine r_sipush (-1002) X dX4_changeWidth_11 (by decide) ?_
      refine r_iret X Z dX4_changeWidth_14 ?_
      have e : setS a 0 v = (a, -1002) := by
        unfold setS
        rw [if_pos rfl, if_neg]
        rintro ⟨z1, z2⟩
        rw [i_le] at z1 z2
        simp only [i_lt, i_le] at c2 c8
        omega
      rw [e]
      exact ⟨rfl, rfl, _, rfl, hR, rfl⟩
set_option maxRecDepth 100000 in
set_option maxHeartbeats 4000000 in
theorem c_changeWait {G : bpG} {C : bpC} {M : bpM} {hl : Int64} {a : bpM} {v : Int32} (hR : RA C a 9) : Ct G yX4_changeWait cX4_changeWait 3 (some .int) rmX4_changeWait [.ref (G.1 0 0), .int v] C M hl (qCi M hl (fun C' r => RA C' (setS a 1 v).1 9 ∧ r = (setS a 1 v).2)) := by
  refine ct_of [some (.ref (G.1 0 0)), some (.int v), none] (by decide +kernel) rfl rfl (Nat.le_of_ble_eq_true rfl) ?_
  intro κ X Z
  refine r_iload_n X dX4_changeWait_0 rfl ?_
  refine r_iflt 10 X dX4_changeWait_1 (by decide) (fun c1 => ?_) (fun c1 => ?_)
  · show Rn G κ 10 _ _ _ _ _
    refine r_sipush (-1002) X dX4_changeWait_10 (by decide) ?_
    refine r_iret X Z dX4_changeWait_13 ?_
    have e : setS a 1 v = (a, -1002) := by
      unfold setS
      rw [if_neg (by decide), if_pos rfl, if_neg]
      rintro ⟨z1, z2⟩
      rw [i_le] at z1 z2
      simp only [i_lt, i_le] at c1
      omega
    rw [e]
    exact ⟨rfl, rfl, _, rfl, hR, rfl⟩
  · show Rn G κ 4 _ _ _ _ _
    refine r_iload_n X dX4_changeWait_4 rfl ?_
    refine r_bipush (9) X dX4_changeWait_5 (by decide) ?_
    refine r_icmple 14 X dX4_changeWait_7 (by decide) (fun c7 => ?_) (fun c7 => ?_)
    · show Rn G κ 14 _ _ _ _ _
      refine r_aload_n X dX4_changeWait_14 rfl ?_
      refine r_gi0 5 X wfl_X4_35 dX4_changeWait_15 (by decide) rfl ?_
      refine r_istore_2 X dX4_changeWait_18 rfl ?_
      refine r_aload_n X dX4_changeWait_19 rfl ?_
      refine r_iload_n X dX4_changeWait_20 rfl ?_
      refine r_pi0 5 X wfl_X4_35 dX4_changeWait_21 (by decide) rfl rfl (by decide +kernel) ?_
      refine r_iload_n X dX4_changeWait_24 rfl ?_
      show Rn G κ 25 _ _ _ _ _
      refine r_iret X Z dX4_changeWait_25 ?_
      have e : setS a 1 v = (upM a 12 0 v, a 12 0) := by
        unfold setS
        rw [if_neg (by decide), if_pos rfl, if_pos ⟨by simp only [i_lt, i_le] at c1 ⊢; omega, c7⟩]
      rw [e]
      exact ⟨rfl, rfl, _, rfl, RA_wt12 hR, hR.1.1.2.2.1⟩
    · show Rn G κ 10 _ _ _ _ _
      refine r_sipush (-1002) X dX4_changeWait_10 (by decide) ?_
      refine r_iret X Z dX4_changeWait_13 ?_
      have e : setS a 1 v = (a, -1002) := by
        unfold setS
        rw [if_neg (by decide), if_pos rfl, if_neg]
        rintro ⟨z1, z2⟩
        rw [i_le] at z1 z2
        simp only [i_lt, i_le] at c1 c7
        omega
      rw [e]
      exact ⟨rfl, rfl, _, rfl, hR, rfl⟩
set_option maxRecDepth 100000 in
set_option maxHeartbeats 4000000 in
theorem c_changeShift {G : bpG} {C : bpC} {M : bpM} {hl : Int64} {a : bpM} {v : Int32} (hR : RA C a 9) : Ct G yX4_changeShift cX4_changeShift 3 (some .int) rmX4_changeShift [.ref (G.1 0 0), .int v] C M hl (qCi M hl (fun C' r => RA C' (setS a 2 v).1 9 ∧ r = (setS a 2 v).2)) := by
  refine ct_of [some (.ref (G.1 0 0)), some (.int v), none] (by decide +kernel) rfl rfl (Nat.le_of_ble_eq_true rfl) ?_
  intro κ X Z
  refine r_iload_n X dX4_changeShift_0 rfl ?_
  refine r_iflt 10 X dX4_changeShift_1 (by decide) (fun c1 => ?_) (fun c1 => ?_)
  · show Rn G κ 10 _ _ _ _ _
    refine r_sipush (-1002) X dX4_changeShift_10 (by decide) ?_
    refine r_iret X Z dX4_changeShift_13 ?_
    have e : setS a 2 v = (a, -1002) := by
      unfold setS
      rw [if_neg (by decide), if_neg (by decide), if_pos rfl, if_neg]
      rintro ⟨z1, z2⟩
      rw [i_le] at z1 z2
      simp only [i_lt, i_le] at c1
      omega
    rw [e]
    exact ⟨rfl, rfl, _, rfl, hR, rfl⟩
  · show Rn G κ 4 _ _ _ _ _
    refine r_iload_n X dX4_changeShift_4 rfl ?_
    refine r_bipush (9) X dX4_changeShift_5 (by decide) ?_
    refine r_icmple 14 X dX4_changeShift_7 (by decide) (fun c7 => ?_) (fun c7 => ?_)
    · show Rn G κ 14 _ _ _ _ _
      refine r_aload_n X dX4_changeShift_14 rfl ?_
      refine r_gi0 6 X wfl_X4_38 dX4_changeShift_15 (by decide) rfl ?_
      refine r_istore_2 X dX4_changeShift_18 rfl ?_
      refine r_aload_n X dX4_changeShift_19 rfl ?_
      refine r_iload_n X dX4_changeShift_20 rfl ?_
      refine r_pi0 6 X wfl_X4_38 dX4_changeShift_21 (by decide) rfl rfl (by decide +kernel) ?_
      refine r_iload_n X dX4_changeShift_24 rfl ?_
      show Rn G κ 25 _ _ _ _ _
      refine r_iret X Z dX4_changeShift_25 ?_
      have h0 : 0 ≤ v := by simp only [i_lt, i_le] at c1 ⊢; omega
      have e : setS a 2 v = (upM a 13 0 v, a 13 0) := by
        unfold setS
        rw [if_neg (by decide), if_neg (by decide), if_pos rfl, if_pos ⟨h0, c7⟩]
      rw [e]
      obtain ⟨w, hw, rfl⟩ := rng_of (n := 9) (by decide) h0 c7
      exact ⟨rfl, rfl, _, rfl, RA_sh13 hR hw, hR.1.1.2.2.2.1⟩
    · show Rn G κ 10 _ _ _ _ _
      refine r_sipush (-1002) X dX4_changeShift_10 (by decide) ?_
      refine r_iret X Z dX4_changeShift_13 ?_
      have e : setS a 2 v = (a, -1002) := by
        unfold setS
        rw [if_neg (by decide), if_neg (by decide), if_pos rfl, if_neg]
        rintro ⟨z1, z2⟩
        rw [i_le] at z1 z2
        simp only [i_lt, i_le] at c1 c7
        omega
      rw [e]
      exact ⟨rfl, rfl, _, rfl, hR, rfl⟩
set_option maxRecDepth 100000 in
set_option maxHeartbeats 4000000 in
theorem c_set {G : bpG} {C : bpC} {M : bpM} {hl : Int64} {a : bpM} {k : Nat} {w v : Int32} (hR : RA C a 9) (hI : Inv a k) : Ct G yX4_set cX4_set 3 (some .int) rmX4_set [.ref (G.1 0 0), .int w, .int v] C M hl (qCi M hl (fun C' r => RA C' (setS a w v).1 9 ∧ r = (setS a w v).2)) := by
  refine ct_of [some (.ref (G.1 0 0)), some (.int w), some (.int v)] (by decide +kernel) rfl rfl (Nat.le_of_ble_eq_true rfl) ?_
  intro κ X Z
  refine r_iload_n X dX4_set_0 rfl ?_
  by_cases h0 : w = 0
  · subst h0
    refine r_tblIn (off := 27) 28 X dX4_set_1 (by decide) (by decide) (by decide) (by decide) ?_
    refine r_aload_n X dX4_set_28 rfl ?_
    refine r_iload_n X dX4_set_29 rfl ?_
    refine r_cv1_Ci X mdX4_changeWidth wml_X4_83 dX4_set_30 ⟨rfl, rfl, Nat.le_of_ble_eq_true rfl, Nat.le_of_ble_eq_true rfl⟩ (by decide) rfl rfl (Nat.le_of_ble_eq_true rfl) rfl (zroom Z) (c_changeWidth hR hI) (fun C2 r2 q2 => ?_)
    show Rn G κ 33 _ _ _ _ _
    refine r_iret X Z dX4_set_33 ?_
    exact ⟨rfl, rfl, _, rfl, q2⟩
  by_cases h1 : w = 1
  · subst h1
    refine r_tblIn (off := 33) 34 X dX4_set_1 (by decide) (by decide) (by decide) (by decide) ?_
    refine r_aload_n X dX4_set_34 rfl ?_
    refine r_iload_n X dX4_set_35 rfl ?_
    refine r_cv1_Ci X mdX4_changeWait wml_X4_86 dX4_set_36 ⟨rfl, rfl, Nat.le_of_ble_eq_true rfl, Nat.le_of_ble_eq_true rfl⟩ (by decide) rfl rfl (Nat.le_of_ble_eq_true rfl) rfl (zroom Z) (c_changeWait hR) (fun C2 r2 q2 => ?_)
    show Rn G κ 39 _ _ _ _ _
    refine r_iret X Z dX4_set_39 ?_
    exact ⟨rfl, rfl, _, rfl, q2⟩
  by_cases h2 : w = 2
  · subst h2
    refine r_tblIn (off := 39) 40 X dX4_set_1 (by decide) (by decide) (by decide) (by decide) ?_
    refine r_aload_n X dX4_set_40 rfl ?_
    refine r_iload_n X dX4_set_41 rfl ?_
    refine r_cv1_Ci X mdX4_changeShift wml_X4_89 dX4_set_42 ⟨rfl, rfl, Nat.le_of_ble_eq_true rfl, Nat.le_of_ble_eq_true rfl⟩ (by decide) rfl rfl (Nat.le_of_ble_eq_true rfl) rfl (zroom Z) (c_changeShift hR) (fun C2 r2 q2 => ?_)
    show Rn G κ 45 _ _ _ _ _
    refine r_iret X Z dX4_set_45 ?_
    exact ⟨rfl, rfl, _, rfl, q2⟩
  have hout : w.toInt < 0 ∨ 2 < w.toInt := by rw [i_eq] at h0 h1 h2; simp only [i_0, i_1, i_2] at h0 h1 h2; omega
  refine r_tblOut 46 X dX4_set_1 hout (by decide) ?_
  refine r_sipush (-1002) X dX4_set_46 (by decide) ?_
  refine r_iret X Z dX4_set_49 ?_
  have e : setS a w v = (a, -1002) := by unfold setS; rw [if_neg h0, if_neg h1, if_neg h2]
  rw [e]
  exact ⟨rfl, rfl, _, rfl, hR, rfl⟩
set_option maxRecDepth 100000 in
set_option maxHeartbeats 4000000 in
theorem c_rank {G : bpG} {C : bpC} {M : bpM} {hl : Int64} {a : bpM} {k : Nat} {x v : Int32} (hR : RA C a 9) (hI : Inv a k) : Ct G yX4_rank cX4_rank 4 (some .int) rmX4_rank [.ref (G.1 0 0), .int x, .int v] C M hl (qCi M hl (fun C' r => RA C' (rankS a x v).1 9 ∧ r = (rankS a x v).2)) := by
  refine ct_of [some (.ref (G.1 0 0)), some (.int x), some (.int v), none] (by decide +kernel) rfl rfl (Nat.le_of_ble_eq_true rfl) ?_
  intro κ X Z
  refine r_aload_n X dX4_rank_0 rfl ?_
  refine r_iload_n X dX4_rank_1 rfl ?_
  refine r_cv1_I X mdX4_isPort wml_X4_92 dX4_rank_2 ⟨rfl, rfl, Nat.le_of_ble_eq_true rfl, Nat.le_of_ble_eq_true rfl⟩ (by decide) rfl rfl (Nat.le_of_ble_eq_true rfl) rfl (zroom Z) (c_isPort hR.1.1.1 hR.1.2.1) ?_
  show Rn G κ 5 _ _ _ _ _
  refine r_ifne 12 X dX4_rank_5 (by decide) (fun c5 => ?_) (fun c5 => ?_)
  · obtain ⟨p, hp, rfl⟩ := isP_of hR.1.2.1 (bI_1 c5)
    have hn6 := hR.1.2.1.2.1
    have hp6 : p < 6 := by omega
    have hxp := bI_1 c5
    have ecl : (nI p).toNatClampNeg = p := nIc (by omega)
    show Rn G κ 12 _ _ _ _ _
    refine r_iload_n X dX4_rank_12 rfl ?_
    refine r_iflt 22 X dX4_rank_13 (by decide) (fun c13 => ?_) (fun c13 => ?_)
    · show Rn G κ 22 _ _ _ _ _
      refine r_sipush (-1002) X dX4_rank_22 (by decide) ?_
      refine r_iret X Z dX4_rank_25 ?_
      have e : rankS a (nI p) v = (a, -1002) := by
        unfold rankS
        rw [if_pos hxp, if_neg]
        rintro ⟨z1, z2⟩
        rw [i_le] at z1 z2
        simp only [i_lt, i_le] at c13
        omega
      rw [e]
      exact ⟨rfl, rfl, _, rfl, hR, rfl⟩
    · show Rn G κ 16 _ _ _ _ _
      refine r_iload_n X dX4_rank_16 rfl ?_
      refine r_bipush (9) X dX4_rank_17 (by decide) ?_
      refine r_icmple 26 X dX4_rank_19 (by decide) (fun c19 => ?_) (fun c19 => ?_)
      · show Rn G κ 26 _ _ _ _ _
        refine r_aload_n X dX4_rank_26 rfl ?_
        refine r_gr0_1 X wfl_X4_18 dX4_rank_27 ?_
        refine r_iload_n X dX4_rank_30 rfl ?_
        refine r_aaP _ X rfl (by assumption) dX4_rank_31 ?_
        refine r_gi5 2 X (by assumption) wfl_X4_95 dX4_rank_32 (by decide) rfl ?_
        refine r_istore_3 X dX4_rank_35 rfl ?_
        refine r_aload_n X dX4_rank_36 rfl ?_
        show Rn G κ 37 _ _ _ _ _
        refine r_gr0_1 X wfl_X4_18 dX4_rank_37 ?_
        refine r_iload_n X dX4_rank_40 rfl ?_
        refine r_aaP _ X rfl (by assumption) dX4_rank_41 ?_
        refine r_iload_n X dX4_rank_42 rfl ?_
        refine r_pi5 2 X (by assumption) wfl_X4_95 dX4_rank_43 (by decide) rfl rfl (by decide +kernel) ?_
        refine r_aload_n X dX4_rank_46 rfl ?_
        refine r_cv0_C X mdX4_chooseAll wml_X4_98 dX4_rank_47 ⟨rfl, rfl, Nat.le_of_ble_eq_true rfl, Nat.le_of_ble_eq_true rfl⟩ (by decide) rfl rfl (Nat.le_of_ble_eq_true rfl) rfl (zroom Z) (c_chooseAll (RB_rank (p := p) (v := v) hR.1) (fun q hq => by rw [np_up (by omega)] at hq; rw [upM_other _ _ _ _ (by omega)]; exact (hI.2.2.1.2 q hq).1)) (fun C2 q2 => ?_)
        show Rn G κ 50 _ _ _ _ _
        refine r_iload_n X dX4_rank_50 rfl ?_
        show Rn G κ 51 _ _ _ _ _
        refine r_iret X Z dX4_rank_51 ?_
        have e : rankS a (nI p) v = (settle (upM a 4 p v), a 4 p) := by
          unfold rankS
          rw [if_pos hxp, if_pos ⟨by simp only [i_lt, i_le] at c13 ⊢; omega, c19⟩, ecl]
        rw [e]
        show qCi M hl (fun C' r => RA C' (settle (upM a 4 p v)) 9 ∧ r = a 4 p) _ _ _ _
        refine ⟨rfl, rfl, _, rfl, RA_of2 hR q2.1 (fun q hq => q2.2.1 q (by rw [settle_np] at hq; exact hq)) (fun x h6 h10 => ?_) (by rw [settle_np, np_up (by omega)]) (fun s h1 h2 => ?_), (hR.1.2.2 p hp).2.1⟩
        · rw [q2.2.2 x (by omega), upC_k _ _ _ _ (by omega)]
        · rw [settle_s _ (by omega), upM_other _ _ _ _ (by omega)]
      · show Rn G κ 22 _ _ _ _ _
        refine r_sipush (-1002) X dX4_rank_22 (by decide) ?_
        refine r_iret X Z dX4_rank_25 ?_
        have e : rankS a (nI p) v = (a, -1002) := by
          unfold rankS
          rw [if_pos hxp, if_neg]
          rintro ⟨z1, z2⟩
          rw [i_le] at z1 z2
          simp only [i_lt, i_le] at c13 c19
          omega
        rw [e]
        exact ⟨rfl, rfl, _, rfl, hR, rfl⟩
  · show Rn G κ 8 _ _ _ _ _
    refine r_sipush (-1001) X dX4_rank_8 (by decide) ?_
    refine r_iret X Z dX4_rank_11 ?_
    have e : rankS a x v = (a, -1001) := by unfold rankS; rw [if_neg (by rw [bI_0 c5]; decide)]
    rw [e]
    exact ⟨rfl, rfl, _, rfl, hR, rfl⟩
set_option maxRecDepth 100000 in
set_option maxHeartbeats 4000000 in
theorem c_up {G : bpG} {C : bpC} {M : bpM} {hl : Int64} {a : bpM} {k : Nat} {x b : Int32} (hb : b = 0 ∨ b = 1) (hR : RA C a 9) (hI : Inv a k) : Ct G yX4_up cX4_up 4 (some .int) rmX4_up [.ref (G.1 0 0), .int x, .int b] C M hl (qCi M hl (fun C' r => RA C' (upS a x b).1 9 ∧ r = (upS a x b).2)) := by
  refine ct_of [some (.ref (G.1 0 0)), some (.int x), some (.int b), none] (by decide +kernel) rfl rfl (Nat.le_of_ble_eq_true rfl) ?_
  intro κ X Z
  refine r_aload_n X dX4_up_0 rfl ?_
  refine r_iload_n X dX4_up_1 rfl ?_
  refine r_cv1_I X mdX4_isPort wml_X4_92 dX4_up_2 ⟨rfl, rfl, Nat.le_of_ble_eq_true rfl, Nat.le_of_ble_eq_true rfl⟩ (by decide) rfl rfl (Nat.le_of_ble_eq_true rfl) rfl (zroom Z) (c_isPort hR.1.1.1 hR.1.2.1) ?_
  show Rn G κ 5 _ _ _ _ _
  refine r_ifne 12 X dX4_up_5 (by decide) (fun c5 => ?_) (fun c5 => ?_)
  · obtain ⟨p, hp, rfl⟩ := isP_of hR.1.2.1 (bI_1 c5)
    have hn6 := hR.1.2.1.2.1
    have hp6 : p < 6 := by omega
    have hxp := bI_1 c5
    have ecl : (nI p).toNatClampNeg = p := nIc (by omega)
    show Rn G κ 12 _ _ _ _ _
    refine r_aload_n X dX4_up_12 rfl ?_
    refine r_gr0_1 X wfl_X4_18 dX4_up_13 ?_
    refine r_iload_n X dX4_up_16 rfl ?_
    refine r_aaP _ X rfl (by assumption) dX4_up_17 ?_
    refine r_gi5 3 X (by assumption) wfl_X4_101 dX4_up_18 (by decide) rfl ?_
    refine r_cs1_I X mdX4_asNumber wml_X4_105 dX4_up_21 ⟨rfl, rfl, Nat.le_of_ble_eq_true rfl, Nat.le_of_ble_eq_true rfl⟩ (Nat.le_of_ble_eq_true rfl) rfl (zroom Z) (c_asNumber (by rw [(hR.1.2.2 p hp).2.2.1]; exact (hI.2.2.1.2 p hp).2.1)) ?_
    show Rn G κ 24 _ _ _ _ _
    refine r_istore_3 X dX4_up_24 rfl ?_
    show Rn G κ 25 _ _ _ _ _
    refine r_aload_n X dX4_up_25 rfl ?_
    refine r_gr0_1 X wfl_X4_18 dX4_up_26 ?_
    refine r_iload_n X dX4_up_29 rfl ?_
    refine r_aaP _ X rfl (by assumption) dX4_up_30 ?_
    refine r_iload_n X dX4_up_31 rfl ?_
    refine r_pz5 3 X (by assumption) hb wfl_X4_101 dX4_up_32 (by decide) rfl rfl (by decide +kernel) ?_
    refine r_iload_n X dX4_up_35 rfl ?_
    refine r_ifne 66 X dX4_up_36 (by decide) (fun c36 => ?_) (fun c36 => ?_)
    · show Rn G κ 66 _ _ _ _ _
      refine r_iload_n X dX4_up_66 rfl ?_
      refine r_iret X Z dX4_up_67 ?_
      have e : upS a (nI p) b = (upM a 5 p b, a 5 p) := by
        unfold upS
        rw [if_pos hxp, ecl, if_neg (fun z => c36 z.2)]
      rw [e]
      exact ⟨rfl, rfl, _, rfl, RA_upd hR, (hR.1.2.2 p hp).2.2.1⟩
    · show Rn G κ 39 _ _ _ _ _
      have hb0 : b = 0 := c36
      subst hb0
      rcases (hI.2.2.1.2 p hp).2.1 with h5 | h5
      · have nh : ¬ 0 < a 6 p := fun z => by have := (hI.2.2.1.2 p hp).2.2.2.1 z; rw [h5] at this; exact absurd this (by decide)
        have eC : upC C 5 p 3 0 = C := upC_id (by rw [(hR.1.2.2 p hp).2.2.1]; exact h5)
        rw [eC]
        refine r_aload_n X dX4_up_39 rfl ?_
        refine r_gr0_1 X wfl_X4_18 dX4_up_40 ?_
        refine r_iload_n X dX4_up_43 rfl ?_
        refine r_aaP _ X rfl (by assumption) dX4_up_44 ?_
        refine r_iconst (0) X dX4_up_45 (by decide) ?_
        refine r_pz5 4 X (by assumption) (by decide) wfl_X4_109 dX4_up_46 (by decide) rfl rfl (by decide +kernel) ?_
        rw [upC_id (show C 5 p 4 = 0 by rw [(hR.1.2.2 p hp).2.2.2.1]; simp [bI, nh])]
        refine r_aload_n X dX4_up_49 rfl ?_
        show Rn G κ 50 _ _ _ _ _
        refine r_cv0_C X mdX4_chooseAll wml_X4_98 dX4_up_50 ⟨rfl, rfl, Nat.le_of_ble_eq_true rfl, Nat.le_of_ble_eq_true rfl⟩ (by decide) rfl rfl (Nat.le_of_ble_eq_true rfl) rfl (zroom Z) (c_chooseAll hR.1 (fun q hq => (hI.2.2.1.2 q hq).1)) (fun C2 q2 => ?_)
        show Rn G κ 53 _ _ _ _ _
        have es : settle a = a := settle_eq (fun q hq hc => (hI.2.2.1.2 q hq).2.2.2.2.2 hc)
        rw [es] at q2
        have hR2 : RA C2 a 9 := RA_of2 hR q2.1 q2.2.1 (fun x h6 h10 => q2.2.2 x (by omega)) rfl (fun _ _ _ => rfl)
        refine r_aload_n X dX4_up_53 rfl ?_
        refine r_aload_n X dX4_up_54 rfl ?_
        refine r_gr0_1 X wfl_X4_18 dX4_up_55 ?_
        refine r_iload_n X dX4_up_58 rfl ?_
        refine r_aaP _ X rfl (by assumption) dX4_up_59 ?_
        refine r_gr5_0 X (by assumption) wfl_X4_112 dX4_up_60 ?_
        refine r_cv1_C X mdX4_dropQueue wml_X4_116 dX4_up_63 ⟨rfl, rfl, Nat.le_of_ble_eq_true rfl, Nat.le_of_ble_eq_true rfl⟩ (by decide) rfl rfl (Nat.le_of_ble_eq_true rfl) rfl (zroom Z) (c_dropQueue (k := k) hR2 (fun q hq _ => hI.1 q hq) (hI.1 p hp).e hI.2.1 hI.2.2.1 hp nh) (fun C3 q3 => ?_)
        show Rn G κ 66 _ _ _ _ _
        show Rn G κ 66 _ _ _ _ _
        refine r_iload_n X dX4_up_66 rfl ?_
        refine r_iret X Z dX4_up_67 ?_
        have h17 : a 17 p = 0 := by
          rcases Nat.eq_zero_or_pos (qm a p) with z | z
          · rw [(hI.1 p hp).1, z]; rfl
          · have := (hI.1 p hp).2.2.1 z; rw [h5] at this; exact absurd this (by decide)
        have e : upS a (nI p) 0 = (upM a 5 p 0, a 5 p) := by
          unfold upS
          rw [if_pos hxp, ecl, if_neg (fun z => by rw [h5] at z; exact absurd z.1 (by decide))]
        have e5 : upM a 5 p 0 = a := by
          funext s j
          simp only [upM]
          by_cases e : s = 5 ∧ j = p
          · rw [if_pos e, e.1, e.2, h5]
          · rw [if_neg e]
        rw [e, e5]
        rw [empty_none h17] at q3
        exact ⟨rfl, rfl, _, rfl, q3, (hR.1.2.2 p hp).2.2.1⟩
      · obtain ⟨d1, d2, d3, d4, d5, d6⟩ := down_pre hI hp
        have hRB := RB_forg (p := p) (RB_upd (p := p) (v := 0) hR.1)
        have hnf : np (forgF (upM a 5 p 0) p) = np a := by unfold np; rw [forg_s _ _ (by omega), upM_other _ _ _ _ (by omega)]
        refine r_aload_n X dX4_up_39 rfl ?_
        refine r_gr0_1 X wfl_X4_18 dX4_up_40 ?_
        refine r_iload_n X dX4_up_43 rfl ?_
        refine r_aaP _ X rfl (by assumption) dX4_up_44 ?_
        refine r_iconst (0) X dX4_up_45 (by decide) ?_
        refine r_pz5 4 X (by assumption) (by decide) wfl_X4_109 dX4_up_46 (by decide) rfl rfl (by decide +kernel) ?_
        refine r_aload_n X dX4_up_49 rfl ?_
        show Rn G κ 50 _ _ _ _ _
        refine r_cv0_C X mdX4_chooseAll wml_X4_98 dX4_up_50 ⟨rfl, rfl, Nat.le_of_ble_eq_true rfl, Nat.le_of_ble_eq_true rfl⟩ (by decide) rfl rfl (Nat.le_of_ble_eq_true rfl) rfl (zroom Z) (c_chooseAll hRB (fun q hq => by rw [hnf] at hq; rw [forg_s _ _ (by omega), upM_other _ _ _ _ (by omega)]; exact (hI.2.2.1.2 q hq).1)) (fun C2 q2 => ?_)
        show Rn G κ 53 _ _ _ _ _
        have hR2 : RA C2 (settle (forgF (upM a 5 p 0) p)) 9 := RA_of2 hR q2.1 (fun q hq => q2.2.1 q (by rw [settle_np] at hq; exact hq)) (fun x h6 h10 => by rw [q2.2.2 x (by omega), upC_k _ _ _ _ (by omega), upC_k _ _ _ _ (by omega)]) d5 (fun s h1 h2 => by rw [settle_s _ (by omega), forg_s _ _ (by omega), upM_other _ _ _ _ (by omega)])
        refine r_aload_n X dX4_up_53 rfl ?_
        refine r_aload_n X dX4_up_54 rfl ?_
        refine r_gr0_1 X wfl_X4_18 dX4_up_55 ?_
        refine r_iload_n X dX4_up_58 rfl ?_
        refine r_aaP _ X rfl (by assumption) dX4_up_59 ?_
        refine r_gr5_0 X (by assumption) wfl_X4_112 dX4_up_60 ?_
        refine r_cv1_C X mdX4_dropQueue wml_X4_116 dX4_up_63 ⟨rfl, rfl, Nat.le_of_ble_eq_true rfl, Nat.le_of_ble_eq_true rfl⟩ (by decide) rfl rfl (Nat.le_of_ble_eq_true rfl) rfl (zroom Z) (c_dropQueue (k := k) hR2 d1 d2 d3 d4 (by rw [d5]; exact hp) d6) (fun C3 q3 => ?_)
        show Rn G κ 66 _ _ _ _ _
        show Rn G κ 66 _ _ _ _ _
        refine r_iload_n X dX4_up_66 rfl ?_
        refine r_iret X Z dX4_up_67 ?_
        have e : upS a (nI p) 0 = (downF a p, a 5 p) := by
          unfold upS
          rw [if_pos hxp, ecl, if_pos ⟨h5, rfl⟩]
        rw [e]
        exact ⟨rfl, rfl, _, rfl, q3, (hR.1.2.2 p hp).2.2.1⟩
  · show Rn G κ 8 _ _ _ _ _
    refine r_sipush (-1001) X dX4_up_8 (by decide) ?_
    refine r_iret X Z dX4_up_11 ?_
    have e : upS a x b = (a, -1001) := by unfold upS; rw [if_neg (by rw [bI_0 c5]; decide)]
    rw [e]
    exact ⟨rfl, rfl, _, rfl, hR, rfl⟩
set_option maxRecDepth 100000 in
set_option maxHeartbeats 4000000 in
theorem c_hear {G : bpG} {C : bpC} {M : bpM} {hl : Int64} {a : bpM} {k : Nat} {x y q g : Int32} (hr : g = 0 ∨ g = 1) (hR : RA C a 9) (hI : Inv a k) : Ct G yX4_hear cX4_hear 5 (some .int) rmX4_hear [.ref (G.1 0 0), .int x, .int y, .int q, .int g] C M hl (qCi M hl (fun C' r => RA C' (hearS a x y q g).1 9 ∧ r = (hearS a x y q g).2)) := by
  refine ct_of [some (.ref (G.1 0 0)), some (.int x), some (.int y), some (.int q), some (.int g)] (by decide +kernel) rfl rfl (Nat.le_of_ble_eq_true rfl) ?_
  intro κ X Z
  refine r_aload_n X dX4_hear_0 rfl ?_
  refine r_iload_n X dX4_hear_1 rfl ?_
  refine r_cv1_I X mdX4_isPort wml_X4_92 dX4_hear_2 ⟨rfl, rfl, Nat.le_of_ble_eq_true rfl, Nat.le_of_ble_eq_true rfl⟩ (by decide) rfl rfl (Nat.le_of_ble_eq_true rfl) rfl (zroom Z) (c_isPort hR.1.1.1 hR.1.2.1) ?_
  show Rn G κ 5 _ _ _ _ _
  refine r_ifne 12 X dX4_hear_5 (by decide) (fun c5 => ?_) (fun c5 => ?_)
  · obtain ⟨p, hp, rfl⟩ := isP_of hR.1.2.1 (bI_1 c5)
    have hn6 := hR.1.2.1.2.1
    have hp6 : p < 6 := by omega
    have hxp := bI_1 c5
    have ecl : (nI p).toNatClampNeg = p := nIc (by omega)
    show Rn G κ 12 _ _ _ _ _
    refine r_iload_n X dX4_hear_12 rfl ?_
    refine r_iconst (1) X dX4_hear_13 (by decide) ?_
    refine r_icmplt 30 X dX4_hear_14 (by decide) (fun c14 => ?_) (fun c14 => ?_)
    · show Rn G κ 30 _ _ _ _ _
      refine r_sipush (-1002) X dX4_hear_30 (by decide) ?_
      refine r_iret X Z dX4_hear_33 ?_
      have e : hearS a (nI p) y q g = (a, -1002) := by
        unfold hearS
        rw [if_pos hxp, if_neg]
        rintro ⟨z1, z2, z3, z4⟩
        rw [i_le] at z1 z2
        simp only [i_lt, i_le] at c14
        omega
      rw [e]
      exact ⟨rfl, rfl, _, rfl, hR, rfl⟩
    · show Rn G κ 17 _ _ _ _ _
      refine r_iload_n X dX4_hear_17 rfl ?_
      refine r_bipush (9) X dX4_hear_18 (by decide) ?_
      refine r_icmpgt 30 X dX4_hear_20 (by decide) (fun c20 => ?_) (fun c20 => ?_)
      · show Rn G κ 30 _ _ _ _ _
        refine r_sipush (-1002) X dX4_hear_30 (by decide) ?_
        refine r_iret X Z dX4_hear_33 ?_
        have e : hearS a (nI p) y q g = (a, -1002) := by
          unfold hearS
          rw [if_pos hxp, if_neg]
          rintro ⟨z1, z2, z3, z4⟩
          rw [i_le] at z1 z2
          simp only [i_lt, i_le] at c14 c20
          omega
        rw [e]
        exact ⟨rfl, rfl, _, rfl, hR, rfl⟩
      · show Rn G κ 23 _ _ _ _ _
        refine r_iload_n X dX4_hear_23 rfl ?_
        refine r_cs1_I X mdX4_isKey wml_X4_120 dX4_hear_24 ⟨rfl, rfl, Nat.le_of_ble_eq_true rfl, Nat.le_of_ble_eq_true rfl⟩ (Nat.le_of_ble_eq_true rfl) rfl (zroom Z) (c_isKey) ?_
        show Rn G κ 27 _ _ _ _ _
        refine r_ifne 34 X dX4_hear_27 (by decide) (fun c27 => ?_) (fun c27 => ?_)
        · have hrng : 1 ≤ y ∧ y ≤ 9 ∧ 0 ≤ q ∧ q ≤ 3 := by
            have h27 := bI_1 c27
            rw [Bool.and_eq_true, decide_eq_true_eq, decide_eq_true_eq] at h27
            refine ⟨by simp only [i_lt, i_le] at c14 ⊢; omega, by simp only [i_lt, i_le] at c20 ⊢; omega, h27.1, ?_⟩
            have := h27.2
            rw [i_lt, i_4] at this
            rw [i_le, show (3 : Int32).toInt = 3 from rfl]
            omega
          have hy0 : 0 < y := by have := hrng.1; rw [i_le, i_1] at this; rw [i_lt, i_0]; omega
          show Rn G κ 34 _ _ _ _ _
          refine r_aload_n X dX4_hear_34 rfl ?_
          refine r_gr0_1 X wfl_X4_18 dX4_hear_35 ?_
          refine r_iload_n X dX4_hear_38 rfl ?_
          refine r_aaP _ X rfl (by assumption) dX4_hear_39 ?_
          refine r_gi5 3 X (by assumption) wfl_X4_101 dX4_hear_40 (by decide) rfl ?_
          refine r_ifne 50 X dX4_hear_43 (by decide) (fun c43 => ?_) (fun c43 => ?_)
          · show Rn G κ 50 _ _ _ _ _
            refine r_aload_n X dX4_hear_50 rfl ?_
            refine r_gr0_1 X wfl_X4_18 dX4_hear_51 ?_
            refine r_iload_n X dX4_hear_54 rfl ?_
            refine r_aaP _ X rfl (by assumption) dX4_hear_55 ?_
            refine r_iload_n X dX4_hear_56 rfl ?_
            refine r_iload_n X dX4_hear_57 rfl ?_
            refine r_iload X dX4_hear_58 rfl ?_
            show Rn G κ 60 _ _ _ _ _
            refine r_cv3_C X mdX2_keepHeard wml_X4_123 dX4_hear_60 ⟨rfl, rfl, Nat.le_of_ble_eq_true rfl, Nat.le_of_ble_eq_true rfl⟩ (by assumption) rfl rfl (Nat.le_of_ble_eq_true rfl) rfl (zroom Z) (c_keepHeard hp6 hr) (fun C2 e2 => ?_)
            subst e2
            show Rn G κ 63 _ _ _ _ _
            have hn4 : np (upM (upM (upM (upM a 6 p y) 7 p q) 8 p g) 9 p 0) = np a := by rw [np_up (by omega), np_up (by omega), np_up (by omega), np_up (by omega)]
            refine r_aload_n X dX4_hear_63 rfl ?_
            refine r_cv0_C X mdX4_chooseAll wml_X4_98 dX4_hear_64 ⟨rfl, rfl, Nat.le_of_ble_eq_true rfl, Nat.le_of_ble_eq_true rfl⟩ (by decide) rfl rfl (Nat.le_of_ble_eq_true rfl) rfl (zroom Z) (c_chooseAll (RB_hear (p := p) (k := q) (r := g) hy0 hR.1) (fun j hj => by rw [hn4] at hj; rw [upM_other _ _ _ _ (by omega), upM_other _ _ _ _ (by omega), upM_other _ _ _ _ (by omega), upM_other _ _ _ _ (by omega)]; exact (hI.2.2.1.2 j hj).1)) (fun C3 q3 => ?_)
            show Rn G κ 67 _ _ _ _ _
            refine r_aload_n X dX4_hear_67 rfl ?_
            refine r_aload_n X dX4_hear_68 rfl ?_
            refine r_gr0_1 X wfl_X4_18 dX4_hear_69 ?_
            refine r_iload_n X dX4_hear_72 rfl ?_
            refine r_aaP _ X rfl (by assumption) dX4_hear_73 ?_
            show Rn G κ 74 _ _ _ _ _
            refine r_cv1_I X mdX4_carries wml_X4_127 dX4_hear_74 ⟨rfl, rfl, Nat.le_of_ble_eq_true rfl, Nat.le_of_ble_eq_true rfl⟩ (by decide) rfl rfl (Nat.le_of_ble_eq_true rfl) rfl (zroom Z) (c_carries q3.1.1 hp6 (q3.1.2.2 p (by rw [settle_np, hn4]; exact hp)) (q3.2.1 p (by rw [hn4]; exact hp))) ?_
            show Rn G κ 77 _ _ _ _ _
            refine r_cs1_I X mdX4_asNumber wml_X4_105 dX4_hear_77 ⟨rfl, rfl, Nat.le_of_ble_eq_true rfl, Nat.le_of_ble_eq_true rfl⟩ (Nat.le_of_ble_eq_true rfl) rfl (zroom Z) (c_asNumber (bI_01 _)) ?_
            show Rn G κ 80 _ _ _ _ _
            refine r_iret X Z dX4_hear_80 ?_
            have h5 : ¬ a 5 p = 0 := fun z => c43 ((hR.1.2.2 p hp).2.2.1.trans z)
            have e : hearS a (nI p) y q g = (hearF a p y q g, bI (decide (stat (hearF a p y q g) p = 4))) := by unfold hearS; rw [if_pos hxp, if_pos hrng, ecl, if_neg h5]
            rw [e]
            show qCi M hl (fun C' r => RA C' (hearF a p y q g) 9 ∧ r = bI (decide (stat (hearF a p y q g) p = 4))) _ _ _ _
            refine ⟨rfl, rfl, _, rfl, RA_of2 hR q3.1 (fun j hj => q3.2.1 j ?_) (fun x h6 h10 => ?_) ?_ (fun s h1 h2 => hear_s a p y q g (by omega)), rfl⟩
            · rw [hn4]; unfold hearF at hj; rw [settle_np, hn4] at hj; exact hj
            · rw [q3.2.2 x (by omega), upC_k _ _ _ _ (by omega), upC_k _ _ _ _ (by omega), upC_k _ _ _ _ (by omega), upC_k _ _ _ _ (by omega), upC_k _ _ _ _ (by omega)]
            · unfold hearF; rw [settle_np, hn4]
          · show Rn G κ 46 _ _ _ _ _
            refine r_sipush (-1003) X dX4_hear_46 (by decide) ?_
            refine r_iret X Z dX4_hear_49 ?_
            have h5 : a 5 p = 0 := (hR.1.2.2 p hp).2.2.1.symm.trans c43
            have e : hearS a (nI p) y q g = (a, -1003) := by unfold hearS; rw [if_pos hxp, if_pos hrng, ecl, if_pos h5]
            rw [e]
            exact ⟨rfl, rfl, _, rfl, hR, rfl⟩
        · show Rn G κ 30 _ _ _ _ _
          refine r_sipush (-1002) X dX4_hear_30 (by decide) ?_
          refine r_iret X Z dX4_hear_33 ?_
          have e : hearS a (nI p) y q g = (a, -1002) := by
            unfold hearS
            rw [if_pos hxp, if_neg]
            rintro ⟨z1, z2, z3, z4⟩
            have h27 := bI_0 c27
            rw [Bool.and_eq_false_iff, decide_eq_false_iff_not, decide_eq_false_iff_not] at h27
            rcases h27 with h27 | h27
            · exact h27 z3
            · rw [i_le, show (3 : Int32).toInt = 3 from rfl] at z4; rw [i_lt, i_4] at h27; omega
          rw [e]
          exact ⟨rfl, rfl, _, rfl, hR, rfl⟩
  · show Rn G κ 8 _ _ _ _ _
    refine r_sipush (-1001) X dX4_hear_8 (by decide) ?_
    refine r_iret X Z dX4_hear_11 ?_
    have e : hearS a x y q g = (a, -1001) := by unfold hearS; rw [if_neg (by rw [bI_0 c5]; decide)]
    rw [e]
    exact ⟨rfl, rfl, _, rfl, hR, rfl⟩
