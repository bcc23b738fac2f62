def fsl : Nat → Nat
  | 0 => 18 | 1 => 19 | 2 => 20 | 3 => 22 | 4 => 23 | 5 => 24 | _ => 25
set_option maxRecDepth 100000 in
set_option maxHeartbeats 4000000 in
theorem c_flow_in {G : bpG} {C : bpC} {M : bpM} {hl : Int64} {a : bpM} {f w : Nat} (hR : RFl C a f) (hz : a 19 f = 0 ∨ a 19 f = 1) (hf : f < 12) (hw : w < 7) : Ct G yX4_flow cX4_flow 4 (some .int) rmX4_flow [.ref (G.1 0 0), .int (nI f), .int (nI w)] C M hl (qI C M hl (a (fsl w) f)) := by
  refine ct_of [some (.ref (G.1 0 0)), some (.int (nI f)), some (.int (nI w)), none] (by decide +kernel) rfl rfl (Nat.le_of_ble_eq_true rfl) ?_
  intro κ X Z
  refine r_iload_n X dX4_flow_0 rfl ?_
  refine r_cs1_I X mdX4_isFlow wml_X4_175 dX4_flow_1 ⟨rfl, rfl, Nat.le_of_ble_eq_true rfl, Nat.le_of_ble_eq_true rfl⟩ (Nat.le_of_ble_eq_true rfl) rfl (zroom Z) (c_isFlow) ?_
  show Rn G κ 4 _ _ _ _ _
  refine r_ifne 11 X dX4_flow_4 (by decide) (fun c4 => ?_) (fun c4 => absurd c4 (by rw [show (decide (0 ≤ nI f) && decide (nI f < 12)) = true by simp only [Bool.and_eq_true, Bool.or_eq_true, decide_eq_true_eq, Bool.and_eq_false_iff, Bool.or_eq_false_iff, decide_eq_false_iff_not, Bool.not_eq_true', Bool.not_eq_false', i_lt, i_le, i_eq, i_m1, i_0, i_1, i_2, i_3, i_4, i_5, i_6, i_7, i_8, i_9, i_10, i_11, i_12, i_17, i_20, i_24, i_32, i_44, i_48, i_50, i_51, i_52, i_57, i_58, i_100, i_126, i_n (show f < 2 ^ 31 by omega)]; omega]; decide))
  show Rn G κ 11 _ _ _ _ _
  refine r_aload_n X dX4_flow_11 rfl ?_
  refine r_gr0_2 X wfl_X4_24 dX4_flow_12 ?_
  refine r_iload_n X dX4_flow_15 rfl ?_
  refine r_aaF _ X rfl (by assumption) dX4_flow_16 ?_
  show Rn G κ 17 _ _ _ _ _
  refine r_astore_3 X dX4_flow_17 rfl ?_
  refine r_iload_n X dX4_flow_18 rfl ?_
  rcases (show w = 0 ∨ w = 1 ∨ w = 2 ∨ w = 3 ∨ w = 4 ∨ w = 5 ∨ w = 6 by omega) with rfl | rfl | rfl | rfl | rfl | rfl | rfl
  · refine r_tblIn (off := 41) 60 X dX4_flow_19 (by decide) (by decide) (by decide) (by decide) ?_
    refine r_aload_n X dX4_flow_60 rfl ?_
    refine r_gi9 2 X (by assumption) wfl_X4_193 dX4_flow_61 (by decide) rfl ?_
    refine r_iret X Z dX4_flow_64 ?_
    exact ⟨rfl, rfl, rfl, ret_i hR.2.1⟩
  · refine r_tblIn (off := 46) 65 X dX4_flow_19 (by decide) (by decide) (by decide) (by decide) ?_
    refine r_aload_n X dX4_flow_65 rfl ?_
    refine r_gi9 3 X (by assumption) wfl_X4_184 dX4_flow_66 (by decide) rfl ?_
    refine r_cs1_I X mdX4_asNumber wml_X4_105 dX4_flow_69 ⟨rfl, rfl, Nat.le_of_ble_eq_true rfl, Nat.le_of_ble_eq_true rfl⟩ (Nat.le_of_ble_eq_true rfl) rfl (zroom Z) (c_asNumber (by rw [hR.2.2.1]; exact hz)) ?_
    show Rn G κ 72 _ _ _ _ _
    refine r_iret X Z dX4_flow_72 ?_
    exact ⟨rfl, rfl, rfl, ret_i hR.2.2.1⟩
  · refine r_tblIn (off := 54) 73 X dX4_flow_19 (by decide) (by decide) (by decide) (by decide) ?_
    refine r_aload_n X dX4_flow_73 rfl ?_
    refine r_gi9 1 X (by assumption) wfl_X4_207 dX4_flow_74 (by decide) rfl ?_
    refine r_iret X Z dX4_flow_77 ?_
    exact ⟨rfl, rfl, rfl, ret_i hR.1⟩
  · refine r_tblIn (off := 59) 78 X dX4_flow_19 (by decide) (by decide) (by decide) (by decide) ?_
    refine r_aload_n X dX4_flow_78 rfl ?_
    refine r_gi9 4 X (by assumption) wfl_X4_181 dX4_flow_79 (by decide) rfl ?_
    refine r_iret X Z dX4_flow_82 ?_
    exact ⟨rfl, rfl, rfl, ret_i hR.2.2.2.1⟩
  · refine r_tblIn (off := 64) 83 X dX4_flow_19 (by decide) (by decide) (by decide) (by decide) ?_
    refine r_aload_n X dX4_flow_83 rfl ?_
    refine r_gi9 5 X (by assumption) wfl_X4_210 dX4_flow_84 (by decide) rfl ?_
    refine r_iret X Z dX4_flow_87 ?_
    exact ⟨rfl, rfl, rfl, ret_i hR.2.2.2.2.1⟩
  · refine r_tblIn (off := 69) 88 X dX4_flow_19 (by decide) (by decide) (by decide) (by decide) ?_
    refine r_aload_n X dX4_flow_88 rfl ?_
    refine r_gi9 6 X (by assumption) wfl_X4_190 dX4_flow_89 (by decide) rfl ?_
    refine r_iret X Z dX4_flow_92 ?_
    exact ⟨rfl, rfl, rfl, ret_i hR.2.2.2.2.2.1⟩
  · refine r_tblIn (off := 74) 93 X dX4_flow_19 (by decide) (by decide) (by decide) (by decide) ?_
    refine r_aload_n X dX4_flow_93 rfl ?_
    refine r_gi9 7 X (by assumption) wfl_X4_213 dX4_flow_94 (by decide) rfl ?_
    refine r_iret X Z dX4_flow_97 ?_
    exact ⟨rfl, rfl, rfl, ret_i hR.2.2.2.2.2.2.1⟩
set_option maxRecDepth 100000 in
set_option maxHeartbeats 4000000 in
theorem c_sum {G : bpG} {C : bpC} {M : bpM} {hl : Int64} {a : bpM} {w : Nat} (hR : ∀ f, f < 12 → RFl C a f) (hz : ∀ f, f < 12 → a 19 f = 0 ∨ a 19 f = 1) (hw : w < 7) : Ct G yX4_sumOverFlows cX4_sumOverFlows 4 (some .int) rmX4_sumOverFlows [.ref (G.1 0 0), .int (nI w)] C M hl (qI C M hl (smN (a (fsl w)) 12)) := by
  refine ct_of [some (.ref (G.1 0 0)), some (.int (nI w)), none, none] (by decide +kernel) rfl rfl (Nat.le_of_ble_eq_true rfl) ?_
  intro κ X Z
  have loop : ∀ n i : Nat, i + n = 12 → Rn G κ 4 [some (.ref (G.1 0 0)), some (.int (nI w)), some (.int (smN (a (fsl w)) i)), some (.int (nI i))] [] C M hl := by
    intro n
    induction n with
    | zero =>
      intro i hi
      have hi : i = 12 := by omega
      subst hi
      refine r_iload_n X dX4_sumOverFlows_4 rfl ?_
      refine r_bipush (12) X dX4_sumOverFlows_5 (by decide) ?_
      refine r_icmpge 25 X dX4_sumOverFlows_7 (by decide) (fun c7 => ?_) (fun c7 => absurd (by decide) c7)
      show Rn G κ 25 _ _ _ _ _
      refine r_iload_n X dX4_sumOverFlows_25 rfl ?_
      refine r_iret X Z dX4_sumOverFlows_26 ?_
      exact ⟨rfl, rfl, rfl, rfl⟩
    | succ n ih =>
      intro i hi
      have h12 : i < 12 := by omega
      refine r_iload_n X dX4_sumOverFlows_4 rfl ?_
      refine r_bipush (12) X dX4_sumOverFlows_5 (by decide) ?_
      refine r_icmpge 25 X dX4_sumOverFlows_7 (by decide) (fun c7 => absurd c7 (by simp only [i_lt, i_le, i_eq, i_m1, i_0, i_1, i_2, i_3, i_4, i_5, i_6, i_7, i_8, i_9, i_10, i_11, i_12, i_17, i_20, i_24, i_32, i_44, i_48, i_50, i_51, i_52, i_57, i_58, i_100, i_126, i_n (show i < 2 ^ 31 by omega)]; omega)) (fun c7 => ?_)
      show Rn G κ 10 _ _ _ _ _
      refine r_iload_n X dX4_sumOverFlows_10 rfl ?_
      refine r_aload_n X dX4_sumOverFlows_11 rfl ?_
      refine r_iload_n X dX4_sumOverFlows_12 rfl ?_
      refine r_iload_n X dX4_sumOverFlows_13 rfl ?_
      show Rn G κ 14 _ _ _ _ _
      refine r_cv2_I X mdX4_flow wml_X4_238 dX4_sumOverFlows_14 ⟨rfl, rfl, Nat.le_of_ble_eq_true rfl, Nat.le_of_ble_eq_true rfl⟩ (by decide) rfl rfl (Nat.le_of_ble_eq_true rfl) rfl (zroom Z) (c_flow_in (hR i h12) (hz i h12) h12 hw) ?_
      show Rn G κ 17 _ _ _ _ _
      refine r_iadd X dX4_sumOverFlows_17 ?_
      refine r_istore_2 X dX4_sumOverFlows_18 rfl ?_
      refine r_iinc_3 (nI (i + 1)) X dX4_sumOverFlows_19 (nI_1 i) rfl ?_
      refine r_goto 4 X dX4_sumOverFlows_22 (by decide) ?_
      exact ih (i + 1) (by omega)
  refine r_iconst (0) X dX4_sumOverFlows_0 (by decide) ?_
  refine r_istore_2 X dX4_sumOverFlows_1 rfl ?_
  refine r_iconst (0) X dX4_sumOverFlows_2 (by decide) ?_
  refine r_istore_3 X dX4_sumOverFlows_3 rfl ?_
  exact loop 12 0 (by omega)
set_option maxRecDepth 100000 in
set_option maxHeartbeats 4000000 in
theorem c_dropQueue {G : bpG} {C : bpC} {M : bpM} {hl : Int64} {a : bpM} {p k : Nat} (hR : RA C a 9) (hq : ∀ q, q < np a → q ≠ p → IQp a q) (hE : IQe a p) (hF : IF a k) (hP : IP a) (hp : p < np a) (hh : ¬ 0 < a 6 p) : Ct G yX4_dropQueue cX4_dropQueue 4 none rmX4_dropQueue [.ref (G.1 0 0), .ref (G.1 6 p)] C M hl (qC M hl (fun C' => RA C' (emptyF a p) 9)) := by
  refine ct_of [some (.ref (G.1 0 0)), some (.ref (G.1 6 p)), none, none] (by decide +kernel) rfl rfl (Nat.le_of_ble_eq_true rfl) ?_
  intro κ X Z
  have hn0 := hR.1.2.1.2.1
  have hq1 := (hR.2.2.1 p hp (by omega)).1
  have hq2 := (hR.2.2.1 p hp (by omega)).2
  have hn := hR.1.2.1.2.1
  have hp6 : p < 6 := by omega
  have h20 := hE.le
  have loop2 : ∀ (n j : Nat) (Ck : bpC), j + n = qm a p → RA Ck (anMN a (upM (losN a p (qm a p)) 17 p 0) p j) p → FrQ C Ck p → Rn G κ 47 [some (.ref (G.1 0 0)), some (.ref (G.1 6 p)), some (.int (nI (qm a p))), some (.int (nI j))] [] Ck M hl := by
    intro n
    induction n with
    | zero =>
      intro j Ck hj hRk hFk
      have hj : j = qm a p := by omega
      subst hj
      have hsz : Ck 6 p 2 = nI (qm a p) := by rw [hFk.1]; exact hq1.trans hE.1
      refine r_iload_n X dX4_dropQueue_47 rfl ?_
      refine r_iload_n X dX4_dropQueue_48 rfl ?_
      refine r_icmpge 75 X dX4_dropQueue_49 (by decide) (fun c49 => ?_) (fun c49 => absurd (Int32.le_refl _) c49)
      show Rn G κ 75 _ _ _ _ _
      refine r_aload_n X dX4_dropQueue_75 rfl ?_
      refine r_iconst (0) X dX4_dropQueue_76 (by decide) ?_
      refine r_pi6 2 X (by assumption) wfl_X4_153 dX4_dropQueue_77 (by decide) rfl rfl (by decide +kernel) ?_
      refine r_vret X Z dX4_dropQueue_80 ?_
      have hJ := Jm_all hE hp hh (Jm_0 hq hE hF hP) (qm a p) (Nat.le_refl _)
      exact ⟨rfl, rfl, rfl, RA_back hRk hJ.2.2.2.2.1⟩
    | succ n ih =>
      intro j Ck hj hRk hFk
      have hsz : Ck 6 p 2 = nI (qm a p) := by rw [hFk.1]; exact hq1.trans hE.1
      have hjq : j < qm a p := by omega
      have hj20 : j < 20 := by omega
      have hlt : nI j < Ck 6 p 2 := by rw [hsz]; exact nI_lt hjq (by omega)
      have hJ := Jm_all hE hp hh (Jm_0 hq hE hF hP) j (by omega)
      have hfl := hE.fl hjq
      have e7 : Ck 7 p j = nI (flN a p j) := by rw [hFk.2.1, (hq2 j hjq).1]; exact hfl.2
      have e8 : Ck 8 p j = a 16 (24 * p + j) := by rw [hFk.2.2]; exact (hq2 j hjq).2
      refine r_iload_n X dX4_dropQueue_47 rfl ?_
      refine r_iload_n X dX4_dropQueue_48 rfl ?_
      refine r_icmpge 75 X dX4_dropQueue_49 (by decide) (fun c49 => absurd c49 (by simp only [i_lt, i_le, i_eq, i_m1, i_0, i_1, i_2, i_3, i_4, i_5, i_6, i_7, i_8, i_9, i_10, i_11, i_12, i_17, i_20, i_24, i_32, i_44, i_48, i_50, i_51, i_52, i_57, i_58, i_100, i_126, i_n (show qm a p < 2 ^ 31 by omega), i_n (show j < 2 ^ 31 by omega)]; omega)) (fun c49 => ?_)
      show Rn G κ 52 _ _ _ _ _
      refine r_aload_n X dX4_dropQueue_52 rfl ?_
      refine r_iload_n X dX4_dropQueue_53 rfl ?_
      refine r_cv1_I X mdX3_isMarker wml_X4_159 dX4_dropQueue_54 ⟨rfl, rfl, Nat.le_of_ble_eq_true rfl, Nat.le_of_ble_eq_true rfl⟩ (by assumption) rfl rfl (Nat.le_of_ble_eq_true rfl) rfl (zroom Z) (c_isMarker hp6 hj20 hlt) ?_
      show Rn G κ 57 _ _ _ _ _
      refine r_ifeq 69 X dX4_dropQueue_57 (by decide) (fun c57 => ?_) (fun c57 => ?_)
      · show Rn G κ 69 _ _ _ _ _
        refine r_iinc_3 (nI (j + 1)) X dX4_dropQueue_69 (nI_1 j) rfl ?_
        refine r_goto 47 X dX4_dropQueue_72 (by decide) ?_
        have hz : 0 < a 16 (24 * p + j) := by
          have h0 := (hE.2.2.1 j hjq).1
          have h1 := of_decide_eq_false (bI_0 c57)
          rw [e8] at h1
          rcases Classical.em (0 < a 16 (24 * p + j)) with z | z
          · exact z
          · exact absurd (lo_bit h0 z) h1
        refine ih (j + 1) Ck (by omega) ?_ hFk
        simp only [anMN]
        rw [if_pos hz]
        exact hRk
      · show Rn G κ 60 _ _ _ _ _
        refine r_aload_n X dX4_dropQueue_60 rfl ?_
        refine r_aload_n X dX4_dropQueue_61 rfl ?_
        refine r_iload_n X dX4_dropQueue_62 rfl ?_
        refine r_cv1_I X mdX3_flowAt wml_X4_162 dX4_dropQueue_63 ⟨rfl, rfl, Nat.le_of_ble_eq_true rfl, Nat.le_of_ble_eq_true rfl⟩ (by assumption) rfl rfl (Nat.le_of_ble_eq_true rfl) rfl (zroom Z) (c_flowAt hp6 hj20 hlt) ?_
        show Rn G κ 66 _ _ _ _ _
        refine r_top e7 ?_
        have hz : ¬ 0 < a 16 (24 * p + j) := by
          have h1 := of_decide_eq_true (bI_1 c57)
          rw [e8] at h1
          rw [h1]; decide
        refine r_cv1_C X mdX4_answerMarker wml_X4_287 dX4_dropQueue_66 ⟨rfl, rfl, Nat.le_of_ble_eq_true rfl, Nat.le_of_ble_eq_true rfl⟩ (by decide) rfl rfl (Nat.le_of_ble_eq_true rfl) rfl (zroom Z) (c_answerMarker hRk hJ.1.qb (hJ.2.1 _ hfl.1).2.2.1 (hJ.2.1 _ hfl.1).2.2.2.1 hfl.1 (Jm_no hJ hh _)) (fun C2 q2 => ?_)
        show Rn G κ 69 _ _ _ _ _
        refine r_iinc_3 (nI (j + 1)) X dX4_dropQueue_69 (nI_1 j) rfl ?_
        refine r_goto 47 X dX4_dropQueue_72 (by decide) ?_
        refine ih (j + 1) C2 (by omega) ?_ (hFk.tr q2.2)
        simp only [anMN]
        rw [if_neg hz]
        exact q2.1
  have loop1 : ∀ (n j : Nat) (Ck : bpC), j + n = qm a p → RA Ck (losN a p j) 9 → FrQ C Ck p → Rn G κ 7 [some (.ref (G.1 0 0)), some (.ref (G.1 6 p)), some (.int (nI (qm a p))), some (.int (nI j))] [] Ck M hl := by
    intro n
    induction n with
    | zero =>
      intro j Ck hj hRk hFk
      have hj : j = qm a p := by omega
      subst hj
      have hsz : Ck 6 p 2 = nI (qm a p) := by rw [hFk.1]; exact hq1.trans hE.1
      refine r_iload_n X dX4_dropQueue_7 rfl ?_
      refine r_iload_n X dX4_dropQueue_8 rfl ?_
      refine r_icmpge 45 X dX4_dropQueue_9 (by decide) (fun c9 => ?_) (fun c9 => absurd (Int32.le_refl _) c9)
      show Rn G κ 45 _ _ _ _ _
      refine r_iconst (0) X dX4_dropQueue_45 (by decide) ?_
      refine r_istore_3 X dX4_dropQueue_46 rfl ?_
      exact loop2 (qm a p) 0 Ck (by omega) (RA_cut hRk) hFk
    | succ n ih =>
      intro j Ck hj hRk hFk
      have hsz : Ck 6 p 2 = nI (qm a p) := by rw [hFk.1]; exact hq1.trans hE.1
      have hjq : j < qm a p := by omega
      have hj20 : j < 20 := by omega
      have hlt : nI j < Ck 6 p 2 := by rw [hsz]; exact nI_lt hjq (by omega)
      have hfl := hE.fl hjq
      have e7 : Ck 7 p j = nI (flN a p j) := by rw [hFk.2.1, (hq2 j hjq).1]; exact hfl.2
      have e8 : Ck 8 p j = a 16 (24 * p + j) := by rw [hFk.2.2]; exact (hq2 j hjq).2
      have hfl12 := hfl.1
      refine r_iload_n X dX4_dropQueue_7 rfl ?_
      refine r_iload_n X dX4_dropQueue_8 rfl ?_
      refine r_icmpge 45 X dX4_dropQueue_9 (by decide) (fun c9 => absurd c9 (by simp only [i_lt, i_le, i_eq, i_m1, i_0, i_1, i_2, i_3, i_4, i_5, i_6, i_7, i_8, i_9, i_10, i_11, i_12, i_17, i_20, i_24, i_32, i_44, i_48, i_50, i_51, i_52, i_57, i_58, i_100, i_126, i_n (show qm a p < 2 ^ 31 by omega), i_n (show j < 2 ^ 31 by omega)]; omega)) (fun c9 => ?_)
      show Rn G κ 12 _ _ _ _ _
      refine r_aload_n X dX4_dropQueue_12 rfl ?_
      refine r_iload_n X dX4_dropQueue_13 rfl ?_
      refine r_cv1_I X mdX3_isMarker wml_X4_159 dX4_dropQueue_14 ⟨rfl, rfl, Nat.le_of_ble_eq_true rfl, Nat.le_of_ble_eq_true rfl⟩ (by assumption) rfl rfl (Nat.le_of_ble_eq_true rfl) rfl (zroom Z) (c_isMarker hp6 hj20 hlt) ?_
      show Rn G κ 17 _ _ _ _ _
      refine r_ifne 39 X dX4_dropQueue_17 (by decide) (fun c17 => ?_) (fun c17 => ?_)
      · show Rn G κ 39 _ _ _ _ _
        refine r_iinc_3 (nI (j + 1)) X dX4_dropQueue_39 (nI_1 j) rfl ?_
        refine r_goto 7 X dX4_dropQueue_42 (by decide) ?_
        have hz : ¬ 0 < a 16 (24 * p + j) := by
          have h1 := of_decide_eq_true (bI_1 c17)
          rw [e8] at h1
          rw [h1]; decide
        refine ih (j + 1) Ck (by omega) ?_ hFk
        simp only [losN]
        rw [if_neg hz]
        exact hRk
      · show Rn G κ 20 _ _ _ _ _
        refine r_aload_n X dX4_dropQueue_20 rfl ?_
        refine r_gr0_2 X wfl_X4_24 dX4_dropQueue_21 ?_
        refine r_aload_n X dX4_dropQueue_24 rfl ?_
        refine r_iload_n X dX4_dropQueue_25 rfl ?_
        refine r_cv1_I X mdX3_flowAt wml_X4_162 dX4_dropQueue_26 ⟨rfl, rfl, Nat.le_of_ble_eq_true rfl, Nat.le_of_ble_eq_true rfl⟩ (by assumption) rfl rfl (Nat.le_of_ble_eq_true rfl) rfl (zroom Z) (c_flowAt hp6 hj20 hlt) ?_
        show Rn G κ 29 _ _ _ _ _
        refine r_top e7 ?_
        refine r_aaF _ X rfl (by assumption) dX4_dropQueue_29 ?_
        refine r_dup X dX4_dropQueue_30 rfl ?_
        show Rn G κ 31 _ _ _ _ _
        refine r_gi9 6 X (by assumption) wfl_X4_190 dX4_dropQueue_31 (by decide) rfl ?_
        refine r_iconst (1) X dX4_dropQueue_34 (by decide) ?_
        refine r_iadd X dX4_dropQueue_35 ?_
        refine r_pi9 6 X (by assumption) wfl_X4_190 dX4_dropQueue_36 (by decide) rfl rfl (by decide +kernel) ?_
        refine r_iinc_3 (nI (j + 1)) X dX4_dropQueue_39 (nI_1 j) rfl ?_
        refine r_goto 7 X dX4_dropQueue_42 (by decide) ?_
        have hz : 0 < a 16 (24 * p + j) := by
          have h0 := (hE.2.2.1 j hjq).1
          have h1 := of_decide_eq_false (bI_0 c17)
          rw [e8] at h1
          rcases Classical.em (0 < a 16 (24 * p + j)) with z | z
          · exact z
          · exact absurd (lo_bit h0 z) h1
        refine ih (j + 1) _ (by omega) ?_ (hFk.k (by decide))
        simp only [losN]
        rw [if_pos hz]
        exact RA_lost hRk hfl12
  refine r_aload_n X dX4_dropQueue_0 rfl ?_
  refine r_gi6 2 X (by assumption) wfl_X4_153 dX4_dropQueue_1 (by decide) rfl ?_
  refine r_top (hq1.trans hE.1) ?_
  refine r_istore_2 X dX4_dropQueue_4 rfl ?_
  refine r_iconst (0) X dX4_dropQueue_5 (by decide) ?_
  refine r_istore_3 X dX4_dropQueue_6 rfl ?_
  exact loop1 (qm a p) 0 C (by omega) hR FrQ.rf
set_option maxRecDepth 100000 in
set_option maxHeartbeats 4000000 in
theorem c_letFirstOut {G : bpG} {C : bpC} {M : bpM} {hl : Int64} {a : bpM} {p k : Nat} (hR : RA C a 9) (hQ : IQ a) (hF : IF a k) (hP : IP a) (hp : p < np a) : Ct G yX4_letFirstOut cX4_letFirstOut 5 none rmX4_letFirstOut [.ref (G.1 0 0), .ref (G.1 6 p)] C M hl (qC M hl (fun C' => RA C' (goF a p).1 9)) := by
  have hn := hR.1.2.1.2.1
  have hp6 : p < 6 := by omega
  have hI := hQ p hp
  have h20 := hI.le
  have hRq := hR.2.2.1 p hp (by omega)
  have hsz : C 6 p 2 = nI (qm a p) := hRq.1.trans hI.1
  refine ct_of [some (.ref (G.1 0 0)), some (.ref (G.1 6 p)), none, none, none] (by decide +kernel) rfl rfl (Nat.le_of_ble_eq_true rfl) ?_
  intro κ X Z
  refine r_aload_n X dX4_letFirstOut_0 rfl ?_
  refine r_gi6 2 X (by assumption) wfl_X4_153 dX4_letFirstOut_1 (by decide) rfl ?_
  refine r_ifne 8 X dX4_letFirstOut_4 (by decide) (fun c4 => ?_) (fun c4 => ?_)
  · obtain ⟨m, hm⟩ : ∃ m, qm a p = m + 1 := by
      cases hq : qm a p with
      | zero => exact absurd (by rw [hsz, hq]; rfl) c4
      | succ m => exact ⟨m, rfl⟩
    have hlt : nI 0 < C 6 p 2 := by rw [hsz]; exact nI_lt (by omega) (by omega)
    have hsm : C 6 p 2 = nI (m + 1) := by rw [hsz, hm]
    have h17 : a 17 p = nI (m + 1) := by rw [hI.1, hm]
    have hfl := hI.e.fl (j := 0) (by omega)
    have e7 : C 7 p 0 = nI (flN a p 0) := by rw [(hRq.2 0 (by omega)).1]; exact hfl.2
    have e8 : C 8 p 0 = a 16 (24 * p) := (hRq.2 0 (by omega)).2
    have n0 : ¬ a 17 p = 0 := by rw [h17]; exact nI_ne0 (by omega) (by omega)
    have hfl12 := hfl.1
    show Rn G κ 8 _ _ _ _ _
    refine r_aload_n X dX4_letFirstOut_8 rfl ?_
    refine r_iconst (0) X dX4_letFirstOut_9 (by decide) ?_
    refine r_cv1_I X mdX3_flowAt wml_X4_162 dX4_letFirstOut_10 ⟨rfl, rfl, Nat.le_of_ble_eq_true rfl, Nat.le_of_ble_eq_true rfl⟩ (by assumption) rfl rfl (Nat.le_of_ble_eq_true rfl) rfl (zroom Z) (c_flowAt (j := 0) hp6 (by decide) hlt) ?_
    show Rn G κ 13 _ _ _ _ _
    refine r_top e7 ?_
    refine r_istore_2 X dX4_letFirstOut_13 rfl ?_
    refine r_aload_n X dX4_letFirstOut_14 rfl ?_
    refine r_iconst (0) X dX4_letFirstOut_15 (by decide) ?_
    refine r_cv1_I X mdX3_numberAt wml_X4_165 dX4_letFirstOut_16 ⟨rfl, rfl, Nat.le_of_ble_eq_true rfl, Nat.le_of_ble_eq_true rfl⟩ (by assumption) rfl rfl (Nat.le_of_ble_eq_true rfl) rfl (zroom Z) (c_numberAt (j := 0) hp6 (by decide) hlt) ?_
    show Rn G κ 19 _ _ _ _ _
    refine r_top e8 ?_
    show Rn G κ 19 _ _ _ _ _
    refine r_istore_3 X dX4_letFirstOut_19 rfl ?_
    refine r_aload_n X dX4_letFirstOut_20 rfl ?_
    refine r_iconst (0) X dX4_letFirstOut_21 (by decide) ?_
    refine r_cv1_I X mdX3_isMarker wml_X4_159 dX4_letFirstOut_22 ⟨rfl, rfl, Nat.le_of_ble_eq_true rfl, Nat.le_of_ble_eq_true rfl⟩ (by assumption) rfl rfl (Nat.le_of_ble_eq_true rfl) rfl (zroom Z) (c_isMarker (j := 0) hp6 (by decide) hlt) ?_
    show Rn G κ 25 _ _ _ _ _
    rw [e8]
    refine r_istore_4 X dX4_letFirstOut_25 rfl ?_
    refine r_aload_n X dX4_letFirstOut_27 rfl ?_
    refine r_cv0_C X mdX3_removeFirst wml_X4_296 dX4_letFirstOut_28 ⟨rfl, rfl, Nat.le_of_ble_eq_true rfl, Nat.le_of_ble_eq_true rfl⟩ (by assumption) rfl rfl (Nat.le_of_ble_eq_true rfl) rfl (zroom Z) (c_removeFirst hp6 (by omega) hsm) (fun C2 e2 => ?_)
    subst e2
    show Rn G κ 31 _ _ _ _ _
    have hR2 := RA_pop hR hp h17 (by omega) (fun q hq => (hQ q hq).le)
    have hQ2 : QB (popF a p) := fun q hq => by
      rw [pop_np] at hq
      by_cases e : q = p
      · subst e
        obtain ⟨-, z2, z3⟩ := pop_qm h17 (by omega)
        rw [z2, z3]; exact ⟨rfl, by omega⟩
      · rw [pop_17o a e, pop_qmo a e]; exact hQ.qb q hq
    generalize upC (shf C p m) 6 p 2 (nI m) = C1 at hR2 ⊢
    refine r_iload X dX4_letFirstOut_31 rfl ?_
    show Rn G κ 33 _ _ _ _ _
    refine r_ifeq 44 X dX4_letFirstOut_33 (by decide) (fun c33 => ?_) (fun c33 => ?_)
    · show Rn G κ 44 _ _ _ _ _
      refine r_aload_n X dX4_letFirstOut_44 rfl ?_
      refine r_gr0_2 X wfl_X4_24 dX4_letFirstOut_45 ?_
      refine r_iload_n X dX4_letFirstOut_48 rfl ?_
      refine r_aaF _ X rfl (by assumption) dX4_letFirstOut_49 ?_
      refine r_dup X dX4_letFirstOut_50 rfl ?_
      refine r_gi9 5 X (by assumption) wfl_X4_210 dX4_letFirstOut_51 (by decide) rfl ?_
      refine r_top (show C1 9 (flN a p 0) 5 = a 23 (flN a p 0) by rw [(hR2.2.2.2 _ hfl12).2.2.2.2.1, pop_s _ _ (by omega)]) ?_
      refine r_iconst (1) X dX4_letFirstOut_54 (by decide) ?_
      show Rn G κ 55 _ _ _ _ _
      refine r_iadd X dX4_letFirstOut_55 ?_
      refine r_pi9 5 X (by assumption) wfl_X4_210 dX4_letFirstOut_56 (by decide) rfl rfl (by decide +kernel) ?_
      refine r_aload_n X dX4_letFirstOut_59 rfl ?_
      refine r_gr0_2 X wfl_X4_24 dX4_letFirstOut_60 ?_
      refine r_iload_n X dX4_letFirstOut_63 rfl ?_
      refine r_aaF _ X rfl (by assumption) dX4_letFirstOut_64 ?_
      refine r_iload_n X dX4_letFirstOut_65 rfl ?_
      refine r_pi9 7 X (by assumption) wfl_X4_213 dX4_letFirstOut_66 (by decide) rfl rfl (by decide +kernel) ?_
      show Rn G κ 69 _ _ _ _ _
      refine r_vret X Z dX4_letFirstOut_69 ?_
      refine ⟨rfl, rfl, rfl, ?_⟩
      unfold goF
      rw [if_neg n0, if_neg (of_decide_eq_false (bI_0 c33))]
      exact RA_flow (RA_flow hR2 hfl12 (by omega)) hfl12 (by omega)
    · show Rn G κ 36 _ _ _ _ _
      refine r_aload_n X dX4_letFirstOut_36 rfl ?_
      refine r_iload_n X dX4_letFirstOut_37 rfl ?_
      refine r_cv1_C X mdX4_answerMarker wml_X4_287 dX4_letFirstOut_38 ⟨rfl, rfl, Nat.le_of_ble_eq_true rfl, Nat.le_of_ble_eq_true rfl⟩ (by decide) rfl rfl (Nat.le_of_ble_eq_true rfl) rfl (zroom Z) (c_answerMarker hR2 hQ2 (IF_pop hF _ hfl.1).2.2.1 (IF_pop hF _ hfl.1).2.2.2.1 hfl.1 (fun z => by have := way_lt z; rw [pop_np] at this; omega)) (fun C3 q3 => ?_)
      show Rn G κ 41 _ _ _ _ _
      refine r_goto 69 X dX4_letFirstOut_41 (by decide) ?_
      refine r_vret X Z dX4_letFirstOut_69 ?_
      refine ⟨rfl, rfl, rfl, ?_⟩
      unfold goF
      rw [if_neg n0, if_pos (of_decide_eq_true (bI_1 c33))]
      exact q3.1
  · show Rn G κ 7 _ _ _ _ _
    refine r_vret X Z dX4_letFirstOut_7 ?_
    have h0 : a 17 p = 0 := hRq.1.symm.trans c4
    refine ⟨rfl, rfl, rfl, ?_⟩
    unfold goF
    rw [if_pos h0]
    exact hR
